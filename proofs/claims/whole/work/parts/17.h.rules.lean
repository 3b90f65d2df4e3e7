theorem e_266_0 {d : Nat} {Q : Option Value → gS → Prop} {x1 x2 x3 : Option Value} {v : Nat} {st : List Value} {σ : gS} : wp d pr_266 Q 0 [some (.ref v), x1, x2, x3] st σ ↔ wp d pr_266 Q 1 [some (.ref v), x1, x2, x3] (.ref v :: st) σ := w_aload (k := 0) (n := 1) rfl rfl
theorem e_266_1 {d : Nat} {Q : Option Value → gS → Prop} {x0 x2 x3 : Option Value} {v : Int32} {st : List Value} {σ : gS} : wp d pr_266 Q 1 [x0, some (.int v), x2, x3] st σ ↔ wp d pr_266 Q 2 [x0, some (.int v), x2, x3] (.int v :: st) σ := w_iload (k := 1) (n := 1) rfl rfl
theorem e_266_2 {d : Nat} {Q : Option Value → gS → Prop} {x0 x1 x3 : Option Value} {v : Int32} {st : List Value} {σ : gS} : wp d pr_266 Q 2 [x0, x1, some (.int v), x3] st σ ↔ wp d pr_266 Q 3 [x0, x1, some (.int v), x3] (.int v :: st) σ := w_iload (k := 2) (n := 1) rfl rfl
theorem e_266_3 {d : Nat} {Q : Option Value → gS → Prop} {x0 x1 x2 x3 : Option Value} {v0 v1 : Value} {a : Nat}  {st : List Value} {σ : gS} : wp d pr_266 Q 3 [x0, x1, x2, x3] (v1 :: v0 :: .ref a :: st) σ ↔ (gK σ a = 13 ∧ st.length ≤ 4) ∧ wc d 264 [.ref a, v0, v1] σ (fun r τ => wp d pr_266 Q 6 [x0, x1, x2, x3] (r.toList ++ st) τ) := w_callV rfl (by simp) rfl rfl
theorem e_266_6 {d : Nat} {Q : Option Value → gS → Prop} {x0 x1 x2 x3 : Option Value} {x : Int32} {st : List Value} {σ : gS} : wp d pr_266 Q 6 [x0, x1, x2, x3] (.int x :: st) σ ↔ ((x ≠ 0) → wp d pr_266 Q 11 [x0, x1, x2, x3] (st) σ) ∧ (¬ (x ≠ 0) → wp d pr_266 Q 9 [x0, x1, x2, x3] (st) σ) := w_if rfl decide_eq_true_iff
theorem e_266_9 {d : Nat} {Q : Option Value → gS → Prop} {x0 x1 x2 x3 : Option Value}  {st : List Value} {σ : gS} : wp d pr_266 Q 9 [x0, x1, x2, x3] st σ ↔ wp d pr_266 Q 10 [x0, x1, x2, x3] (.int (-1) :: st) σ := w_push (n := 1) rfl
theorem e_266_10 {d : Nat} {Q : Option Value → gS → Prop} {x0 x1 x2 x3 : Option Value} {v : Int32} {σ : gS} : wp d pr_266 Q 10 [x0, x1, x2, x3] [.int v] σ ↔ Q (some (.int v)) σ := w_iret rfl
theorem e_266_11 {d : Nat} {Q : Option Value → gS → Prop} {x1 x2 x3 : Option Value} {v : Nat} {st : List Value} {σ : gS} : wp d pr_266 Q 11 [some (.ref v), x1, x2, x3] st σ ↔ wp d pr_266 Q 12 [some (.ref v), x1, x2, x3] (.ref v :: st) σ := w_aload (k := 0) (n := 1) rfl rfl
theorem e_266_12 {d : Nat} {Q : Option Value → gS → Prop} {x0 x2 x3 : Option Value} {v : Int32} {st : List Value} {σ : gS} : wp d pr_266 Q 12 [x0, some (.int v), x2, x3] st σ ↔ wp d pr_266 Q 13 [x0, some (.int v), x2, x3] (.int v :: st) σ := w_iload (k := 1) (n := 1) rfl rfl
theorem e_266_13 {d : Nat} {Q : Option Value → gS → Prop} {x0 x1 x3 : Option Value} {v : Int32} {st : List Value} {σ : gS} : wp d pr_266 Q 13 [x0, x1, some (.int v), x3] st σ ↔ wp d pr_266 Q 14 [x0, x1, some (.int v), x3] (.int v :: st) σ := w_iload (k := 2) (n := 1) rfl rfl
theorem e_266_14 {d : Nat} {Q : Option Value → gS → Prop} {x0 x1 x2 x3 : Option Value} {v0 v1 : Value} {a : Nat}  {st : List Value} {σ : gS} : wp d pr_266 Q 14 [x0, x1, x2, x3] (v1 :: v0 :: .ref a :: st) σ ↔ (gK σ a = 13 ∧ st.length ≤ 4) ∧ wc d 265 [.ref a, v0, v1] σ (fun r τ => wp d pr_266 Q 17 [x0, x1, x2, x3] (r.toList ++ st) τ) := w_callV rfl (by simp) rfl rfl
theorem e_266_17 {d : Nat} {Q : Option Value → gS → Prop} {x0 x1 x2 x3 : Option Value} {v : Int32} {st : List Value} {σ : gS} : wp d pr_266 Q 17 [x0, x1, x2, x3] (.int v :: st) σ ↔ gPv x2 = true ∧ wp d pr_266 Q 18 [x0, x1, x2, some (.int v)] (st) σ := w_istore (k := 2) (n := 1) rfl (Nat.le_of_ble_eq_true rfl) rfl rfl
theorem e_266_18 {d : Nat} {Q : Option Value → gS → Prop} {x0 x1 x2 : Option Value} {v : Int32} {st : List Value} {σ : gS} : wp d pr_266 Q 18 [x0, x1, x2, some (.int v)] st σ ↔ wp d pr_266 Q 19 [x0, x1, x2, some (.int v)] (.int v :: st) σ := w_iload (k := 3) (n := 1) rfl rfl
theorem e_266_19 {d : Nat} {Q : Option Value → gS → Prop} {x0 x1 x2 x3 : Option Value}  {st : List Value} {σ : gS} : wp d pr_266 Q 19 [x0, x1, x2, x3] st σ ↔ wp d pr_266 Q 21 [x0, x1, x2, x3] (.int (1000000) :: st) σ := w_push (n := 2) rfl
theorem e_266_21 {d : Nat} {Q : Option Value → gS → Prop} {x0 x1 x2 x3 : Option Value} {x y : Int32} {st : List Value} {σ : gS} : wp d pr_266 Q 21 [x0, x1, x2, x3] (.int y :: .int x :: st) σ ↔ ((x < y) → wp d pr_266 Q 28 [x0, x1, x2, x3] (st) σ) ∧ (¬ (x < y) → wp d pr_266 Q 24 [x0, x1, x2, x3] (st) σ) := w_icmp rfl decide_eq_true_iff
theorem e_266_24 {d : Nat} {Q : Option Value → gS → Prop} {x0 x1 x2 x3 : Option Value}  {st : List Value} {σ : gS} : wp d pr_266 Q 24 [x0, x1, x2, x3] st σ ↔ wp d pr_266 Q 25 [x0, x1, x2, x3] (.int (-1) :: st) σ := w_push (n := 1) rfl
theorem e_266_25 {d : Nat} {Q : Option Value → gS → Prop} {x0 x1 x2 x3 : Option Value}  {st : List Value} {σ : gS} : wp d pr_266 Q 25 [x0, x1, x2, x3] st σ ↔ wp d pr_266 Q 29 [x0, x1, x2, x3] (st) σ := w_goto rfl
theorem e_266_28 {d : Nat} {Q : Option Value → gS → Prop} {x0 x1 x2 : Option Value} {v : Int32} {st : List Value} {σ : gS} : wp d pr_266 Q 28 [x0, x1, x2, some (.int v)] st σ ↔ wp d pr_266 Q 29 [x0, x1, x2, some (.int v)] (.int v :: st) σ := w_iload (k := 3) (n := 1) rfl rfl
theorem e_266_29 {d : Nat} {Q : Option Value → gS → Prop} {x0 x1 x2 x3 : Option Value} {v : Int32} {σ : gS} : wp d pr_266 Q 29 [x0, x1, x2, x3] [.int v] σ ↔ Q (some (.int v)) σ := w_iret rfl
theorem c_266 {d : Nat} {Q : Option Value → gS → Prop} {a : Nat} {p0 : Int32} {p1 : Int32} {σ : gS} : wc (d + 1) 266 [.ref a, .int p0, .int p1] σ Q ↔ wp d pr_266 Q 0 [some (.ref a), some (.int p0), some (.int p1), none] [] σ := wc_iff (Nat.le_of_ble_eq_true rfl) rfl
theorem e_267_0 {d : Nat} {Q : Option Value → gS → Prop} {x1 x2 x3 x4 x5 x6 x7 : Option Value} {v : Nat} {st : List Value} {σ : gS} : wp d pr_267 Q 0 [some (.ref v), x1, x2, x3, x4, x5, x6, x7] st σ ↔ wp d pr_267 Q 1 [some (.ref v), x1, x2, x3, x4, x5, x6, x7] (.ref v :: st) σ := w_aload (k := 0) (n := 1) rfl rfl
theorem e_267_1 {d : Nat} {Q : Option Value → gS → Prop} {x0 x2 x3 x4 x5 x6 x7 : Option Value} {v : Int32} {st : List Value} {σ : gS} : wp d pr_267 Q 1 [x0, some (.int v), x2, x3, x4, x5, x6, x7] st σ ↔ wp d pr_267 Q 2 [x0, some (.int v), x2, x3, x4, x5, x6, x7] (.int v :: st) σ := w_iload (k := 1) (n := 1) rfl rfl
theorem e_267_2 {d : Nat} {Q : Option Value → gS → Prop} {x0 x1 x3 x4 x5 x6 x7 : Option Value} {v : Int32} {st : List Value} {σ : gS} : wp d pr_267 Q 2 [x0, x1, some (.int v), x3, x4, x5, x6, x7] st σ ↔ wp d pr_267 Q 3 [x0, x1, some (.int v), x3, x4, x5, x6, x7] (.int v :: st) σ := w_iload (k := 2) (n := 1) rfl rfl
theorem e_267_3 {d : Nat} {Q : Option Value → gS → Prop} {x0 x1 x2 x3 x4 x5 x6 x7 : Option Value} {v0 v1 : Value} {a : Nat}  {st : List Value} {σ : gS} : wp d pr_267 Q 3 [x0, x1, x2, x3, x4, x5, x6, x7] (v1 :: v0 :: .ref a :: st) σ ↔ (gK σ a = 13 ∧ st.length ≤ 4) ∧ wc d 266 [.ref a, v0, v1] σ (fun r τ => wp d pr_267 Q 6 [x0, x1, x2, x3, x4, x5, x6, x7] (r.toList ++ st) τ) := w_callV rfl (by simp) rfl rfl
theorem e_267_6 {d : Nat} {Q : Option Value → gS → Prop} {x0 x1 x2 x3 x4 x5 x6 x7 : Option Value}  {st : List Value} {σ : gS} : wp d pr_267 Q 6 [x0, x1, x2, x3, x4, x5, x6, x7] st σ ↔ wp d pr_267 Q 7 [x0, x1, x2, x3, x4, x5, x6, x7] (.int (-1) :: st) σ := w_push (n := 1) rfl
theorem e_267_7 {d : Nat} {Q : Option Value → gS → Prop} {x0 x1 x2 x3 x4 x5 x6 x7 : Option Value} {x y : Int32} {st : List Value} {σ : gS} : wp d pr_267 Q 7 [x0, x1, x2, x3, x4, x5, x6, x7] (.int y :: .int x :: st) σ ↔ ((x = y) → wp d pr_267 Q 24 [x0, x1, x2, x3, x4, x5, x6, x7] (st) σ) ∧ (¬ (x = y) → wp d pr_267 Q 10 [x0, x1, x2, x3, x4, x5, x6, x7] (st) σ) := w_icmp rfl decide_eq_true_iff
theorem e_267_10 {d : Nat} {Q : Option Value → gS → Prop} {x0 x1 x2 x4 x5 x6 x7 : Option Value} {v : Int32} {st : List Value} {σ : gS} : wp d pr_267 Q 10 [x0, x1, x2, some (.int v), x4, x5, x6, x7] st σ ↔ wp d pr_267 Q 11 [x0, x1, x2, some (.int v), x4, x5, x6, x7] (.int v :: st) σ := w_iload (k := 3) (n := 1) rfl rfl
theorem e_267_11 {d : Nat} {Q : Option Value → gS → Prop} {x0 x1 x2 x3 x4 x5 x6 x7 : Option Value}  {st : List Value} {σ : gS} : wp d pr_267 Q 11 [x0, x1, x2, x3, x4, x5, x6, x7] st σ ↔ wp d pr_267 Q 12 [x0, x1, x2, x3, x4, x5, x6, x7] (.int (0) :: st) σ := w_push (n := 1) rfl
theorem e_267_12 {d : Nat} {Q : Option Value → gS → Prop} {x0 x1 x3 x4 x5 x6 x7 : Option Value} {v : Int32} {st : List Value} {σ : gS} : wp d pr_267 Q 12 [x0, x1, some (.int v), x3, x4, x5, x6, x7] st σ ↔ wp d pr_267 Q 13 [x0, x1, some (.int v), x3, x4, x5, x6, x7] (.int v :: st) σ := w_iload (k := 2) (n := 1) rfl rfl
theorem e_267_13 {d : Nat} {Q : Option Value → gS → Prop} {x0 x1 x2 x3 x4 x5 x6 x7 : Option Value} {v0 : Value}  {st : List Value} {σ : gS} : wp d pr_267 Q 13 [x0, x1, x2, x3, x4, x5, x6, x7] (v0 :: st) σ ↔ st.length ≤ 4 ∧ wc d 167 [v0] σ (fun r τ => wp d pr_267 Q 16 [x0, x1, x2, x3, x4, x5, x6, x7] (r.toList ++ st) τ) := w_callS rfl (by simp) rfl rfl
theorem e_267_16 {d : Nat} {Q : Option Value → gS → Prop} {x0 x1 x2 x3 x4 x5 x6 x7 : Option Value}  {st : List Value} {σ : gS} : wp d pr_267 Q 16 [x0, x1, x2, x3, x4, x5, x6, x7] st σ ↔ wp d pr_267 Q 17 [x0, x1, x2, x3, x4, x5, x6, x7] (.int (1) :: st) σ := w_push (n := 1) rfl
theorem e_267_17 {d : Nat} {Q : Option Value → gS → Prop} {x0 x1 x2 x3 x4 x5 x6 x7 : Option Value} {x y : Int32} {st : List Value} {σ : gS} : wp d pr_267 Q 17 [x0, x1, x2, x3, x4, x5, x6, x7] (.int y :: .int x :: st) σ ↔ wp d pr_267 Q 18 [x0, x1, x2, x3, x4, x5, x6, x7] (.int (x - y) :: st) σ := w_bI (f := fun x y => x - y) rfl
theorem e_267_18 {d : Nat} {Q : Option Value → gS → Prop} {x0 x1 x2 x3 x4 x5 x6 x7 : Option Value} {v0 v1 v2 : Value}  {st : List Value} {σ : gS} : wp d pr_267 Q 18 [x0, x1, x2, x3, x4, x5, x6, x7] (v2 :: v1 :: v0 :: st) σ ↔ st.length ≤ 4 ∧ wc d 163 [v0, v1, v2] σ (fun r τ => wp d pr_267 Q 21 [x0, x1, x2, x3, x4, x5, x6, x7] (r.toList ++ st) τ) := w_callS rfl (by simp) rfl rfl
theorem e_267_21 {d : Nat} {Q : Option Value → gS → Prop} {x0 x1 x2 x3 x4 x5 x6 x7 : Option Value} {x : Int32} {st : List Value} {σ : gS} : wp d pr_267 Q 21 [x0, x1, x2, x3, x4, x5, x6, x7] (.int x :: st) σ ↔ ((x ≠ 0) → wp d pr_267 Q 26 [x0, x1, x2, x3, x4, x5, x6, x7] (st) σ) ∧ (¬ (x ≠ 0) → wp d pr_267 Q 24 [x0, x1, x2, x3, x4, x5, x6, x7] (st) σ) := w_if rfl decide_eq_true_iff
theorem e_267_24 {d : Nat} {Q : Option Value → gS → Prop} {x0 x1 x2 x3 x4 x5 x6 x7 : Option Value}  {st : List Value} {σ : gS} : wp d pr_267 Q 24 [x0, x1, x2, x3, x4, x5, x6, x7] st σ ↔ wp d pr_267 Q 25 [x0, x1, x2, x3, x4, x5, x6, x7] (.int (-1) :: st) σ := w_push (n := 1) rfl
theorem e_267_25 {d : Nat} {Q : Option Value → gS → Prop} {x0 x1 x2 x3 x4 x5 x6 x7 : Option Value} {v : Int32} {σ : gS} : wp d pr_267 Q 25 [x0, x1, x2, x3, x4, x5, x6, x7] [.int v] σ ↔ Q (some (.int v)) σ := w_iret rfl
theorem e_267_26 {d : Nat} {Q : Option Value → gS → Prop} {x0 x2 x3 x4 x5 x6 x7 : Option Value} {v : Int32} {st : List Value} {σ : gS} : wp d pr_267 Q 26 [x0, some (.int v), x2, x3, x4, x5, x6, x7] st σ ↔ wp d pr_267 Q 27 [x0, some (.int v), x2, x3, x4, x5, x6, x7] (.int v :: st) σ := w_iload (k := 1) (n := 1) rfl rfl
theorem e_267_27 {d : Nat} {Q : Option Value → gS → Prop} {x0 x1 x2 x3 x4 x5 x6 x7 : Option Value} {v : Int32} {st : List Value} {σ : gS} : wp d pr_267 Q 27 [x0, x1, x2, x3, x4, x5, x6, x7] (.int v :: st) σ ↔ gPv x3 = true ∧ wp d pr_267 Q 29 [x0, x1, x2, x3, some (.int v), x5, x6, x7] (st) σ := w_istore (k := 3) (n := 2) rfl (Nat.le_of_ble_eq_true rfl) rfl rfl
theorem e_267_29 {d : Nat} {Q : Option Value → gS → Prop} {x0 x1 x3 x4 x5 x6 x7 : Option Value} {v : Int32} {st : List Value} {σ : gS} : wp d pr_267 Q 29 [x0, x1, some (.int v), x3, x4, x5, x6, x7] st σ ↔ wp d pr_267 Q 30 [x0, x1, some (.int v), x3, x4, x5, x6, x7] (.int v :: st) σ := w_iload (k := 2) (n := 1) rfl rfl
theorem e_267_30 {d : Nat} {Q : Option Value → gS → Prop} {x0 x1 x2 x3 x4 x5 x6 x7 : Option Value} {v : Int32} {st : List Value} {σ : gS} : wp d pr_267 Q 30 [x0, x1, x2, x3, x4, x5, x6, x7] (.int v :: st) σ ↔ gPv x4 = true ∧ wp d pr_267 Q 32 [x0, x1, x2, x3, x4, some (.int v), x6, x7] (st) σ := w_istore (k := 4) (n := 2) rfl (Nat.le_of_ble_eq_true rfl) rfl rfl
theorem e_267_32 {d : Nat} {Q : Option Value → gS → Prop} {x0 x1 x2 x3 x4 x5 x6 x7 : Option Value}  {st : List Value} {σ : gS} : wp d pr_267 Q 32 [x0, x1, x2, x3, x4, x5, x6, x7] st σ ↔ wp d pr_267 Q 33 [x0, x1, x2, x3, x4, x5, x6, x7] (.int (0) :: st) σ := w_push (n := 1) rfl
theorem e_267_33 {d : Nat} {Q : Option Value → gS → Prop} {x0 x1 x2 x3 x4 x5 x6 x7 : Option Value} {v : Int32} {st : List Value} {σ : gS} : wp d pr_267 Q 33 [x0, x1, x2, x3, x4, x5, x6, x7] (.int v :: st) σ ↔ gPv x5 = true ∧ wp d pr_267 Q 35 [x0, x1, x2, x3, x4, x5, some (.int v), x7] (st) σ := w_istore (k := 5) (n := 2) rfl (Nat.le_of_ble_eq_true rfl) rfl rfl
theorem e_267_35 {d : Nat} {Q : Option Value → gS → Prop} {x0 x1 x2 x3 x4 x5 x7 : Option Value} {v : Int32} {st : List Value} {σ : gS} : wp d pr_267 Q 35 [x0, x1, x2, x3, x4, x5, some (.int v), x7] st σ ↔ wp d pr_267 Q 37 [x0, x1, x2, x3, x4, x5, some (.int v), x7] (.int v :: st) σ := w_iload (k := 6) (n := 2) rfl rfl
theorem e_267_37 {d : Nat} {Q : Option Value → gS → Prop} {x0 x1 x2 x4 x5 x6 x7 : Option Value} {v : Int32} {st : List Value} {σ : gS} : wp d pr_267 Q 37 [x0, x1, x2, some (.int v), x4, x5, x6, x7] st σ ↔ wp d pr_267 Q 38 [x0, x1, x2, some (.int v), x4, x5, x6, x7] (.int v :: st) σ := w_iload (k := 3) (n := 1) rfl rfl
theorem e_267_38 {d : Nat} {Q : Option Value → gS → Prop} {x0 x1 x2 x3 x4 x5 x6 x7 : Option Value} {x y : Int32} {st : List Value} {σ : gS} : wp d pr_267 Q 38 [x0, x1, x2, x3, x4, x5, x6, x7] (.int y :: .int x :: st) σ ↔ ((y < x) → wp d pr_267 Q 131 [x0, x1, x2, x3, x4, x5, x6, x7] (st) σ) ∧ (¬ (y < x) → wp d pr_267 Q 41 [x0, x1, x2, x3, x4, x5, x6, x7] (st) σ) := w_icmp rfl decide_eq_true_iff
theorem e_267_41 {d : Nat} {Q : Option Value → gS → Prop} {x0 x1 x2 x3 x4 x5 x6 x7 : Option Value}  {st : List Value} {σ : gS} : wp d pr_267 Q 41 [x0, x1, x2, x3, x4, x5, x6, x7] st σ ↔ wp d pr_267 Q 42 [x0, x1, x2, x3, x4, x5, x6, x7] (.int (0) :: st) σ := w_push (n := 1) rfl
theorem e_267_42 {d : Nat} {Q : Option Value → gS → Prop} {x0 x1 x2 x3 x4 x5 x6 x7 : Option Value} {v : Int32} {st : List Value} {σ : gS} : wp d pr_267 Q 42 [x0, x1, x2, x3, x4, x5, x6, x7] (.int v :: st) σ ↔ gPv x6 = true ∧ wp d pr_267 Q 44 [x0, x1, x2, x3, x4, x5, x6, some (.int v)] (st) σ := w_istore (k := 6) (n := 2) rfl (Nat.le_of_ble_eq_true rfl) rfl rfl
theorem e_267_44 {d : Nat} {Q : Option Value → gS → Prop} {x0 x1 x2 x3 x4 x6 x7 : Option Value} {v : Int32} {st : List Value} {σ : gS} : wp d pr_267 Q 44 [x0, x1, x2, x3, x4, some (.int v), x6, x7] st σ ↔ wp d pr_267 Q 46 [x0, x1, x2, x3, x4, some (.int v), x6, x7] (.int v :: st) σ := w_iload (k := 5) (n := 2) rfl rfl
theorem e_267_46 {d : Nat} {Q : Option Value → gS → Prop} {x0 x1 x2 x3 x4 x5 x6 : Option Value} {v : Int32} {st : List Value} {σ : gS} : wp d pr_267 Q 46 [x0, x1, x2, x3, x4, x5, x6, some (.int v)] st σ ↔ wp d pr_267 Q 48 [x0, x1, x2, x3, x4, x5, x6, some (.int v)] (.int v :: st) σ := w_iload (k := 7) (n := 2) rfl rfl
theorem e_267_48 {d : Nat} {Q : Option Value → gS → Prop} {x0 x1 x2 x3 x4 x5 x6 x7 : Option Value} {v0 v1 : Value}  {st : List Value} {σ : gS} : wp d pr_267 Q 48 [x0, x1, x2, x3, x4, x5, x6, x7] (v1 :: v0 :: st) σ ↔ st.length ≤ 4 ∧ wc d 166 [v0, v1] σ (fun r τ => wp d pr_267 Q 51 [x0, x1, x2, x3, x4, x5, x6, x7] (r.toList ++ st) τ) := w_callS rfl (by simp) rfl rfl
theorem e_267_51 {d : Nat} {Q : Option Value → gS → Prop} {x0 x1 x2 x3 x4 x5 x6 x7 : Option Value} {x : Int32} {st : List Value} {σ : gS} : wp d pr_267 Q 51 [x0, x1, x2, x3, x4, x5, x6, x7] (.int x :: st) σ ↔ ((x = 0) → wp d pr_267 Q 104 [x0, x1, x2, x3, x4, x5, x6, x7] (st) σ) ∧ (¬ (x = 0) → wp d pr_267 Q 54 [x0, x1, x2, x3, x4, x5, x6, x7] (st) σ) := w_if rfl decide_eq_true_iff
theorem e_267_54 {d : Nat} {Q : Option Value → gS → Prop} {x1 x2 x3 x4 x5 x6 x7 : Option Value} {v : Nat} {st : List Value} {σ : gS} : wp d pr_267 Q 54 [some (.ref v), x1, x2, x3, x4, x5, x6, x7] st σ ↔ wp d pr_267 Q 55 [some (.ref v), x1, x2, x3, x4, x5, x6, x7] (.ref v :: st) σ := w_aload (k := 0) (n := 1) rfl rfl
theorem e_267_55 {d : Nat} {Q : Option Value → gS → Prop} {x0 x1 x2 x3 x4 x5 x6 x7 : Option Value} {a : Nat} {st : List Value} {σ : gS} : wp d pr_267 Q 55 [x0, x1, x2, x3, x4, x5, x6, x7] (.ref a :: st) σ ↔ gK σ a = 13 ∧ ∃ q, gR σ a 44 = some q ∧ wp d pr_267 Q 58 [x0, x1, x2, x3, x4, x5, x6, x7] (.ref q :: st) σ := w_getR rfl
theorem e_267_58 {d : Nat} {Q : Option Value → gS → Prop} {x0 x1 x2 x3 x4 x5 x6 x7 : Option Value}  {st : List Value} {σ : gS} : wp d pr_267 Q 58 [x0, x1, x2, x3, x4, x5, x6, x7] st σ ↔ wp d pr_267 Q 60 [x0, x1, x2, x3, x4, x5, x6, x7] (.int (12) :: st) σ := w_push (n := 2) rfl
theorem e_267_60 {d : Nat} {Q : Option Value → gS → Prop} {x0 x1 x2 x3 x5 x6 x7 : Option Value} {v : Int32} {st : List Value} {σ : gS} : wp d pr_267 Q 60 [x0, x1, x2, x3, some (.int v), x5, x6, x7] st σ ↔ wp d pr_267 Q 62 [x0, x1, x2, x3, some (.int v), x5, x6, x7] (.int v :: st) σ := w_iload (k := 4) (n := 2) rfl rfl
theorem e_267_62 {d : Nat} {Q : Option Value → gS → Prop} {x0 x1 x2 x3 x4 x5 x6 x7 : Option Value} {x y : Int32} {st : List Value} {σ : gS} : wp d pr_267 Q 62 [x0, x1, x2, x3, x4, x5, x6, x7] (.int y :: .int x :: st) σ ↔ wp d pr_267 Q 63 [x0, x1, x2, x3, x4, x5, x6, x7] (.int (x * y) :: st) σ := w_bI (f := fun x y => x * y) rfl
theorem e_267_63 {d : Nat} {Q : Option Value → gS → Prop} {x0 x1 x2 x3 x4 x5 x6 : Option Value} {v : Int32} {st : List Value} {σ : gS} : wp d pr_267 Q 63 [x0, x1, x2, x3, x4, x5, x6, some (.int v)] st σ ↔ wp d pr_267 Q 65 [x0, x1, x2, x3, x4, x5, x6, some (.int v)] (.int v :: st) σ := w_iload (k := 7) (n := 2) rfl rfl
theorem e_267_65 {d : Nat} {Q : Option Value → gS → Prop} {x0 x1 x2 x3 x4 x5 x6 x7 : Option Value} {x y : Int32} {st : List Value} {σ : gS} : wp d pr_267 Q 65 [x0, x1, x2, x3, x4, x5, x6, x7] (.int y :: .int x :: st) σ ↔ wp d pr_267 Q 66 [x0, x1, x2, x3, x4, x5, x6, x7] (.int (x + y) :: st) σ := w_bI (f := fun x y => x + y) rfl
theorem e_267_66 {d : Nat} {Q : Option Value → gS → Prop} {x0 x1 x2 x3 x4 x5 x6 x7 : Option Value} {i : Int32} {a : Nat} {st : List Value} {σ : gS} : wp d pr_267 Q 66 [x0, x1, x2, x3, x4, x5, x6, x7] (.int i :: .ref a :: st) σ ↔ ((gK σ a = 21 ∨ gK σ a = 26) ∧ ¬ i < 0 ∧ i.toNatClampNeg < gN σ a) ∧ wp d pr_267 Q 67 [x0, x1, x2, x3, x4, x5, x6, x7] (.int (gI σ a i.toNatClampNeg) :: st) σ := w_iald rfl
theorem e_267_67 {d : Nat} {Q : Option Value → gS → Prop} {x1 x2 x3 x4 x5 x6 x7 : Option Value} {v : Nat} {st : List Value} {σ : gS} : wp d pr_267 Q 67 [some (.ref v), x1, x2, x3, x4, x5, x6, x7] st σ ↔ wp d pr_267 Q 68 [some (.ref v), x1, x2, x3, x4, x5, x6, x7] (.ref v :: st) σ := w_aload (k := 0) (n := 1) rfl rfl
theorem e_267_68 {d : Nat} {Q : Option Value → gS → Prop} {x0 x1 x2 x3 x4 x5 x6 x7 : Option Value} {a : Nat} {st : List Value} {σ : gS} : wp d pr_267 Q 68 [x0, x1, x2, x3, x4, x5, x6, x7] (.ref a :: st) σ ↔ gK σ a = 13 ∧ ∃ q, gR σ a 45 = some q ∧ wp d pr_267 Q 71 [x0, x1, x2, x3, x4, x5, x6, x7] (.ref q :: st) σ := w_getR rfl
theorem e_267_71 {d : Nat} {Q : Option Value → gS → Prop} {x0 x1 x2 x3 x4 x6 x7 : Option Value} {v : Int32} {st : List Value} {σ : gS} : wp d pr_267 Q 71 [x0, x1, x2, x3, x4, some (.int v), x6, x7] st σ ↔ wp d pr_267 Q 73 [x0, x1, x2, x3, x4, some (.int v), x6, x7] (.int v :: st) σ := w_iload (k := 5) (n := 2) rfl rfl
theorem e_267_73 {d : Nat} {Q : Option Value → gS → Prop} {x0 x1 x2 x3 x4 x5 x6 x7 : Option Value}  {st : List Value} {σ : gS} : wp d pr_267 Q 73 [x0, x1, x2, x3, x4, x5, x6, x7] st σ ↔ wp d pr_267 Q 74 [x0, x1, x2, x3, x4, x5, x6, x7] (.int (1) :: st) σ := w_push (n := 1) rfl
theorem e_267_74 {d : Nat} {Q : Option Value → gS → Prop} {x0 x1 x2 x3 x4 x5 x6 : Option Value} {v : Int32} {st : List Value} {σ : gS} : wp d pr_267 Q 74 [x0, x1, x2, x3, x4, x5, x6, some (.int v)] st σ ↔ wp d pr_267 Q 76 [x0, x1, x2, x3, x4, x5, x6, some (.int v)] (.int v :: st) σ := w_iload (k := 7) (n := 2) rfl rfl
theorem e_267_76 {d : Nat} {Q : Option Value → gS → Prop} {x0 x1 x2 x3 x4 x5 x6 x7 : Option Value} {x y : Int32} {st : List Value} {σ : gS} : wp d pr_267 Q 76 [x0, x1, x2, x3, x4, x5, x6, x7] (.int y :: .int x :: st) σ ↔ wp d pr_267 Q 77 [x0, x1, x2, x3, x4, x5, x6, x7] (.int (x <<< (y &&& 31)) :: st) σ := w_bI (f := fun x y => x <<< (y &&& 31)) rfl
theorem e_267_77 {d : Nat} {Q : Option Value → gS → Prop} {x0 x1 x2 x3 x4 x5 x6 x7 : Option Value}  {st : List Value} {σ : gS} : wp d pr_267 Q 77 [x0, x1, x2, x3, x4, x5, x6, x7] st σ ↔ wp d pr_267 Q 78 [x0, x1, x2, x3, x4, x5, x6, x7] (.int (-1) :: st) σ := w_push (n := 1) rfl
theorem e_267_78 {d : Nat} {Q : Option Value → gS → Prop} {x0 x1 x2 x3 x4 x5 x6 x7 : Option Value} {x y : Int32} {st : List Value} {σ : gS} : wp d pr_267 Q 78 [x0, x1, x2, x3, x4, x5, x6, x7] (.int y :: .int x :: st) σ ↔ wp d pr_267 Q 79 [x0, x1, x2, x3, x4, x5, x6, x7] (.int (x ^^^ y) :: st) σ := w_bI (f := fun x y => x ^^^ y) rfl
theorem e_267_79 {d : Nat} {Q : Option Value → gS → Prop} {x0 x1 x2 x3 x4 x5 x6 x7 : Option Value} {x y : Int32} {st : List Value} {σ : gS} : wp d pr_267 Q 79 [x0, x1, x2, x3, x4, x5, x6, x7] (.int y :: .int x :: st) σ ↔ wp d pr_267 Q 80 [x0, x1, x2, x3, x4, x5, x6, x7] (.int (x &&& y) :: st) σ := w_bI (f := fun x y => x &&& y) rfl
theorem e_267_80 {d : Nat} {Q : Option Value → gS → Prop} {x0 x1 x2 x3 x4 x5 x6 x7 : Option Value}  {st : List Value} {σ : gS} : wp d pr_267 Q 80 [x0, x1, x2, x3, x4, x5, x6, x7] st σ ↔ wp d pr_267 Q 82 [x0, x1, x2, x3, x4, x5, x6, x7] (.int (12) :: st) σ := w_push (n := 2) rfl
theorem e_267_82 {d : Nat} {Q : Option Value → gS → Prop} {x0 x1 x2 x3 x4 x5 x6 x7 : Option Value} {x y : Int32} {st : List Value} {σ : gS} : wp d pr_267 Q 82 [x0, x1, x2, x3, x4, x5, x6, x7] (.int y :: .int x :: st) σ ↔ wp d pr_267 Q 83 [x0, x1, x2, x3, x4, x5, x6, x7] (.int (x * y) :: st) σ := w_bI (f := fun x y => x * y) rfl
theorem e_267_83 {d : Nat} {Q : Option Value → gS → Prop} {x0 x1 x2 x3 x4 x5 x6 : Option Value} {v : Int32} {st : List Value} {σ : gS} : wp d pr_267 Q 83 [x0, x1, x2, x3, x4, x5, x6, some (.int v)] st σ ↔ wp d pr_267 Q 85 [x0, x1, x2, x3, x4, x5, x6, some (.int v)] (.int v :: st) σ := w_iload (k := 7) (n := 2) rfl rfl
theorem e_267_85 {d : Nat} {Q : Option Value → gS → Prop} {x0 x1 x2 x3 x4 x5 x6 x7 : Option Value} {x y : Int32} {st : List Value} {σ : gS} : wp d pr_267 Q 85 [x0, x1, x2, x3, x4, x5, x6, x7] (.int y :: .int x :: st) σ ↔ wp d pr_267 Q 86 [x0, x1, x2, x3, x4, x5, x6, x7] (.int (x + y) :: st) σ := w_bI (f := fun x y => x + y) rfl
theorem e_267_86 {d : Nat} {Q : Option Value → gS → Prop} {x0 x1 x2 x3 x4 x5 x6 x7 : Option Value} {i : Int32} {a : Nat} {st : List Value} {σ : gS} : wp d pr_267 Q 86 [x0, x1, x2, x3, x4, x5, x6, x7] (.int i :: .ref a :: st) σ ↔ ((gK σ a = 21 ∨ gK σ a = 26) ∧ ¬ i < 0 ∧ i.toNatClampNeg < gN σ a) ∧ wp d pr_267 Q 87 [x0, x1, x2, x3, x4, x5, x6, x7] (.int (gI σ a i.toNatClampNeg) :: st) σ := w_iald rfl
theorem e_267_87 {d : Nat} {Q : Option Value → gS → Prop} {x0 x1 x2 x3 x4 x5 x6 x7 : Option Value} {x y : Int32} {st : List Value} {σ : gS} : wp d pr_267 Q 87 [x0, x1, x2, x3, x4, x5, x6, x7] (.int y :: .int x :: st) σ ↔ wp d pr_267 Q 88 [x0, x1, x2, x3, x4, x5, x6, x7] (.int (x + y) :: st) σ := w_bI (f := fun x y => x + y) rfl
theorem e_267_88 {d : Nat} {Q : Option Value → gS → Prop} {x1 x2 x3 x4 x5 x6 x7 : Option Value} {v : Nat} {st : List Value} {σ : gS} : wp d pr_267 Q 88 [some (.ref v), x1, x2, x3, x4, x5, x6, x7] st σ ↔ wp d pr_267 Q 89 [some (.ref v), x1, x2, x3, x4, x5, x6, x7] (.ref v :: st) σ := w_aload (k := 0) (n := 1) rfl rfl
theorem e_267_89 {d : Nat} {Q : Option Value → gS → Prop} {x0 x1 x2 x3 x4 x5 x6 x7 : Option Value} {a : Nat} {st : List Value} {σ : gS} : wp d pr_267 Q 89 [x0, x1, x2, x3, x4, x5, x6, x7] (.ref a :: st) σ ↔ gK σ a = 13 ∧ ∃ q, gR σ a 45 = some q ∧ wp d pr_267 Q 92 [x0, x1, x2, x3, x4, x5, x6, x7] (.ref q :: st) σ := w_getR rfl
theorem e_267_92 {d : Nat} {Q : Option Value → gS → Prop} {x0 x1 x2 x3 x4 x6 x7 : Option Value} {v : Int32} {st : List Value} {σ : gS} : wp d pr_267 Q 92 [x0, x1, x2, x3, x4, some (.int v), x6, x7] st σ ↔ wp d pr_267 Q 94 [x0, x1, x2, x3, x4, some (.int v), x6, x7] (.int v :: st) σ := w_iload (k := 5) (n := 2) rfl rfl
theorem e_267_94 {d : Nat} {Q : Option Value → gS → Prop} {x0 x1 x2 x3 x4 x5 x6 x7 : Option Value}  {st : List Value} {σ : gS} : wp d pr_267 Q 94 [x0, x1, x2, x3, x4, x5, x6, x7] st σ ↔ wp d pr_267 Q 96 [x0, x1, x2, x3, x4, x5, x6, x7] (.int (12) :: st) σ := w_push (n := 2) rfl
theorem e_267_96 {d : Nat} {Q : Option Value → gS → Prop} {x0 x1 x2 x3 x4 x5 x6 x7 : Option Value} {x y : Int32} {st : List Value} {σ : gS} : wp d pr_267 Q 96 [x0, x1, x2, x3, x4, x5, x6, x7] (.int y :: .int x :: st) σ ↔ wp d pr_267 Q 97 [x0, x1, x2, x3, x4, x5, x6, x7] (.int (x * y) :: st) σ := w_bI (f := fun x y => x * y) rfl
theorem e_267_97 {d : Nat} {Q : Option Value → gS → Prop} {x0 x1 x2 x3 x5 x6 x7 : Option Value} {v : Int32} {st : List Value} {σ : gS} : wp d pr_267 Q 97 [x0, x1, x2, x3, some (.int v), x5, x6, x7] st σ ↔ wp d pr_267 Q 99 [x0, x1, x2, x3, some (.int v), x5, x6, x7] (.int v :: st) σ := w_iload (k := 4) (n := 2) rfl rfl
set_option maxRecDepth 100000 in
theorem e_267_99 {d : Nat} {Q : Option Value → gS → Prop} {x0 x1 x2 x3 x4 x5 x6 x7 : Option Value} {x y : Int32} {st : List Value} {σ : gS} : wp d pr_267 Q 99 [x0, x1, x2, x3, x4, x5, x6, x7] (.int y :: .int x :: st) σ ↔ wp d pr_267 Q 100 [x0, x1, x2, x3, x4, x5, x6, x7] (.int (x + y) :: st) σ := w_bI (f := fun x y => x + y) rfl
set_option maxRecDepth 100000 in
theorem e_267_100 {d : Nat} {Q : Option Value → gS → Prop} {x0 x1 x2 x3 x4 x5 x6 x7 : Option Value} {i : Int32} {a : Nat} {st : List Value} {σ : gS} : wp d pr_267 Q 100 [x0, x1, x2, x3, x4, x5, x6, x7] (.int i :: .ref a :: st) σ ↔ ((gK σ a = 21 ∨ gK σ a = 26) ∧ ¬ i < 0 ∧ i.toNatClampNeg < gN σ a) ∧ wp d pr_267 Q 101 [x0, x1, x2, x3, x4, x5, x6, x7] (.int (gI σ a i.toNatClampNeg) :: st) σ := w_iald rfl
set_option maxRecDepth 100000 in
theorem e_267_101 {d : Nat} {Q : Option Value → gS → Prop} {x0 x1 x2 x3 x4 x5 x6 x7 : Option Value} {x y : Int32} {st : List Value} {σ : gS} : wp d pr_267 Q 101 [x0, x1, x2, x3, x4, x5, x6, x7] (.int y :: .int x :: st) σ ↔ ((x = y) → wp d pr_267 Q 110 [x0, x1, x2, x3, x4, x5, x6, x7] (st) σ) ∧ (¬ (x = y) → wp d pr_267 Q 104 [x0, x1, x2, x3, x4, x5, x6, x7] (st) σ) := w_icmp rfl decide_eq_true_iff
set_option maxRecDepth 100000 in
theorem e_267_104 {d : Nat} {Q : Option Value → gS → Prop} {x0 x1 x2 x3 x4 x5 x6 : Option Value} {v : Int32} {st : List Value} {σ : gS} : wp d pr_267 Q 104 [x0, x1, x2, x3, x4, x5, x6, some (.int v)] st σ ↔ gPv x6 = true ∧ wp d pr_267 Q 107 [x0, x1, x2, x3, x4, x5, x6, some (.int (v + (1)))] (st) σ := w_iinc (k := 6) rfl rfl rfl rfl
set_option maxRecDepth 100000 in
theorem e_267_107 {d : Nat} {Q : Option Value → gS → Prop} {x0 x1 x2 x3 x4 x5 x6 x7 : Option Value}  {st : List Value} {σ : gS} : wp d pr_267 Q 107 [x0, x1, x2, x3, x4, x5, x6, x7] st σ ↔ wp d pr_267 Q 44 [x0, x1, x2, x3, x4, x5, x6, x7] (st) σ := w_goto rfl
set_option maxRecDepth 100000 in
theorem e_267_110 {d : Nat} {Q : Option Value → gS → Prop} {x0 x1 x2 x3 x4 x6 x7 : Option Value} {v : Int32} {st : List Value} {σ : gS} : wp d pr_267 Q 110 [x0, x1, x2, x3, x4, some (.int v), x6, x7] st σ ↔ wp d pr_267 Q 112 [x0, x1, x2, x3, x4, some (.int v), x6, x7] (.int v :: st) σ := w_iload (k := 5) (n := 2) rfl rfl
set_option maxRecDepth 100000 in
theorem e_267_112 {d : Nat} {Q : Option Value → gS → Prop} {x0 x1 x2 x3 x4 x5 x6 x7 : Option Value}  {st : List Value} {σ : gS} : wp d pr_267 Q 112 [x0, x1, x2, x3, x4, x5, x6, x7] st σ ↔ wp d pr_267 Q 113 [x0, x1, x2, x3, x4, x5, x6, x7] (.int (1) :: st) σ := w_push (n := 1) rfl
set_option maxRecDepth 100000 in
theorem e_267_113 {d : Nat} {Q : Option Value → gS → Prop} {x0 x1 x2 x3 x4 x5 x6 : Option Value} {v : Int32} {st : List Value} {σ : gS} : wp d pr_267 Q 113 [x0, x1, x2, x3, x4, x5, x6, some (.int v)] st σ ↔ wp d pr_267 Q 115 [x0, x1, x2, x3, x4, x5, x6, some (.int v)] (.int v :: st) σ := w_iload (k := 7) (n := 2) rfl rfl
set_option maxRecDepth 100000 in
theorem e_267_115 {d : Nat} {Q : Option Value → gS → Prop} {x0 x1 x2 x3 x4 x5 x6 x7 : Option Value} {x y : Int32} {st : List Value} {σ : gS} : wp d pr_267 Q 115 [x0, x1, x2, x3, x4, x5, x6, x7] (.int y :: .int x :: st) σ ↔ wp d pr_267 Q 116 [x0, x1, x2, x3, x4, x5, x6, x7] (.int (x <<< (y &&& 31)) :: st) σ := w_bI (f := fun x y => x <<< (y &&& 31)) rfl
set_option maxRecDepth 100000 in
theorem e_267_116 {d : Nat} {Q : Option Value → gS → Prop} {x0 x1 x2 x3 x4 x5 x6 x7 : Option Value}  {st : List Value} {σ : gS} : wp d pr_267 Q 116 [x0, x1, x2, x3, x4, x5, x6, x7] st σ ↔ wp d pr_267 Q 117 [x0, x1, x2, x3, x4, x5, x6, x7] (.int (-1) :: st) σ := w_push (n := 1) rfl
set_option maxRecDepth 100000 in
theorem e_267_117 {d : Nat} {Q : Option Value → gS → Prop} {x0 x1 x2 x3 x4 x5 x6 x7 : Option Value} {x y : Int32} {st : List Value} {σ : gS} : wp d pr_267 Q 117 [x0, x1, x2, x3, x4, x5, x6, x7] (.int y :: .int x :: st) σ ↔ wp d pr_267 Q 118 [x0, x1, x2, x3, x4, x5, x6, x7] (.int (x ^^^ y) :: st) σ := w_bI (f := fun x y => x ^^^ y) rfl
set_option maxRecDepth 100000 in
theorem e_267_118 {d : Nat} {Q : Option Value → gS → Prop} {x0 x1 x2 x3 x4 x5 x6 x7 : Option Value} {x y : Int32} {st : List Value} {σ : gS} : wp d pr_267 Q 118 [x0, x1, x2, x3, x4, x5, x6, x7] (.int y :: .int x :: st) σ ↔ wp d pr_267 Q 119 [x0, x1, x2, x3, x4, x5, x6, x7] (.int (x &&& y) :: st) σ := w_bI (f := fun x y => x &&& y) rfl
set_option maxRecDepth 100000 in
theorem e_267_119 {d : Nat} {Q : Option Value → gS → Prop} {x0 x1 x2 x3 x4 x5 x6 x7 : Option Value} {v : Int32} {st : List Value} {σ : gS} : wp d pr_267 Q 119 [x0, x1, x2, x3, x4, x5, x6, x7] (.int v :: st) σ ↔ gPv x4 = true ∧ wp d pr_267 Q 121 [x0, x1, x2, x3, x4, some (.int v), x6, x7] (st) σ := w_istore (k := 4) (n := 2) rfl (Nat.le_of_ble_eq_true rfl) rfl rfl
set_option maxRecDepth 100000 in
theorem e_267_121 {d : Nat} {Q : Option Value → gS → Prop} {x0 x1 x2 x3 x4 x5 x6 : Option Value} {v : Int32} {st : List Value} {σ : gS} : wp d pr_267 Q 121 [x0, x1, x2, x3, x4, x5, x6, some (.int v)] st σ ↔ wp d pr_267 Q 123 [x0, x1, x2, x3, x4, x5, x6, some (.int v)] (.int v :: st) σ := w_iload (k := 7) (n := 2) rfl rfl
set_option maxRecDepth 100000 in
theorem e_267_123 {d : Nat} {Q : Option Value → gS → Prop} {x0 x1 x2 x3 x4 x5 x6 x7 : Option Value} {v : Int32} {st : List Value} {σ : gS} : wp d pr_267 Q 123 [x0, x1, x2, x3, x4, x5, x6, x7] (.int v :: st) σ ↔ gPv x3 = true ∧ wp d pr_267 Q 125 [x0, x1, x2, x3, some (.int v), x5, x6, x7] (st) σ := w_istore (k := 3) (n := 2) rfl (Nat.le_of_ble_eq_true rfl) rfl rfl
set_option maxRecDepth 100000 in
theorem e_267_125 {d : Nat} {Q : Option Value → gS → Prop} {x0 x1 x2 x3 x4 x5 x7 : Option Value} {v : Int32} {st : List Value} {σ : gS} : wp d pr_267 Q 125 [x0, x1, x2, x3, x4, x5, some (.int v), x7] st σ ↔ gPv x5 = true ∧ wp d pr_267 Q 128 [x0, x1, x2, x3, x4, x5, some (.int (v + (1))), x7] (st) σ := w_iinc (k := 5) rfl rfl rfl rfl
set_option maxRecDepth 100000 in
theorem e_267_128 {d : Nat} {Q : Option Value → gS → Prop} {x0 x1 x2 x3 x4 x5 x6 x7 : Option Value}  {st : List Value} {σ : gS} : wp d pr_267 Q 128 [x0, x1, x2, x3, x4, x5, x6, x7] st σ ↔ wp d pr_267 Q 35 [x0, x1, x2, x3, x4, x5, x6, x7] (st) σ := w_goto rfl
set_option maxRecDepth 100000 in
theorem e_267_131 {d : Nat} {Q : Option Value → gS → Prop} {x0 x1 x2 x3 x5 x6 x7 : Option Value} {v : Int32} {st : List Value} {σ : gS} : wp d pr_267 Q 131 [x0, x1, x2, x3, some (.int v), x5, x6, x7] st σ ↔ wp d pr_267 Q 133 [x0, x1, x2, x3, some (.int v), x5, x6, x7] (.int v :: st) σ := w_iload (k := 4) (n := 2) rfl rfl
set_option maxRecDepth 100000 in
theorem e_267_133 {d : Nat} {Q : Option Value → gS → Prop} {x0 x1 x2 x3 x4 x5 x6 x7 : Option Value} {v : Int32} {σ : gS} : wp d pr_267 Q 133 [x0, x1, x2, x3, x4, x5, x6, x7] [.int v] σ ↔ Q (some (.int v)) σ := w_iret rfl
theorem c_267 {d : Nat} {Q : Option Value → gS → Prop} {a : Nat} {p0 : Int32} {p1 : Int32} {p2 : Int32} {σ : gS} : wc (d + 1) 267 [.ref a, .int p0, .int p1, .int p2] σ Q ↔ wp d pr_267 Q 0 [some (.ref a), some (.int p0), some (.int p1), some (.int p2), none, none, none, none] [] σ := wc_iff (Nat.le_of_ble_eq_true rfl) rfl
theorem e_268_0 {d : Nat} {Q : Option Value → gS → Prop} {x1 x2 x3 x4 x5 x6 x7 x8 x9 x10 : Option Value} {v : Nat} {st : List Value} {σ : gS} : wp d pr_268 Q 0 [some (.ref v), x1, x2, x3, x4, x5, x6, x7, x8, x9, x10] st σ ↔ wp d pr_268 Q 1 [some (.ref v), x1, x2, x3, x4, x5, x6, x7, x8, x9, x10] (.ref v :: st) σ := w_aload (k := 0) (n := 1) rfl rfl
theorem e_268_1 {d : Nat} {Q : Option Value → gS → Prop} {x0 x2 x3 x4 x5 x6 x7 x8 x9 x10 : Option Value} {v : Int32} {st : List Value} {σ : gS} : wp d pr_268 Q 1 [x0, some (.int v), x2, x3, x4, x5, x6, x7, x8, x9, x10] st σ ↔ wp d pr_268 Q 2 [x0, some (.int v), x2, x3, x4, x5, x6, x7, x8, x9, x10] (.int v :: st) σ := w_iload (k := 1) (n := 1) rfl rfl
theorem e_268_2 {d : Nat} {Q : Option Value → gS → Prop} {x0 x1 x2 x3 x4 x5 x6 x7 x8 x9 x10 : Option Value} {v0 : Value} {a : Nat}  {st : List Value} {σ : gS} : wp d pr_268 Q 2 [x0, x1, x2, x3, x4, x5, x6, x7, x8, x9, x10] (v0 :: .ref a :: st) σ ↔ (gK σ a = 13 ∧ st.length ≤ 4) ∧ wc d 172 [.ref a, v0] σ (fun r τ => wp d pr_268 Q 5 [x0, x1, x2, x3, x4, x5, x6, x7, x8, x9, x10] (r.toList ++ st) τ) := w_callV rfl (by simp) rfl rfl
theorem e_268_5 {d : Nat} {Q : Option Value → gS → Prop} {x0 x1 x2 x3 x4 x5 x6 x7 x8 x9 x10 : Option Value} {x : Int32} {st : List Value} {σ : gS} : wp d pr_268 Q 5 [x0, x1, x2, x3, x4, x5, x6, x7, x8, x9, x10] (.int x :: st) σ ↔ ((x = 0) → wp d pr_268 Q 25 [x0, x1, x2, x3, x4, x5, x6, x7, x8, x9, x10] (st) σ) ∧ (¬ (x = 0) → wp d pr_268 Q 8 [x0, x1, x2, x3, x4, x5, x6, x7, x8, x9, x10] (st) σ) := w_if rfl decide_eq_true_iff
theorem e_268_8 {d : Nat} {Q : Option Value → gS → Prop} {x1 x2 x3 x4 x5 x6 x7 x8 x9 x10 : Option Value} {v : Nat} {st : List Value} {σ : gS} : wp d pr_268 Q 8 [some (.ref v), x1, x2, x3, x4, x5, x6, x7, x8, x9, x10] st σ ↔ wp d pr_268 Q 9 [some (.ref v), x1, x2, x3, x4, x5, x6, x7, x8, x9, x10] (.ref v :: st) σ := w_aload (k := 0) (n := 1) rfl rfl
theorem e_268_9 {d : Nat} {Q : Option Value → gS → Prop} {x0 x1 x3 x4 x5 x6 x7 x8 x9 x10 : Option Value} {v : Int32} {st : List Value} {σ : gS} : wp d pr_268 Q 9 [x0, x1, some (.int v), x3, x4, x5, x6, x7, x8, x9, x10] st σ ↔ wp d pr_268 Q 10 [x0, x1, some (.int v), x3, x4, x5, x6, x7, x8, x9, x10] (.int v :: st) σ := w_iload (k := 2) (n := 1) rfl rfl
theorem e_268_10 {d : Nat} {Q : Option Value → gS → Prop} {x0 x1 x2 x3 x4 x5 x6 x7 x8 x9 x10 : Option Value} {v0 : Value} {a : Nat}  {st : List Value} {σ : gS} : wp d pr_268 Q 10 [x0, x1, x2, x3, x4, x5, x6, x7, x8, x9, x10] (v0 :: .ref a :: st) σ ↔ (gK σ a = 13 ∧ st.length ≤ 4) ∧ wc d 172 [.ref a, v0] σ (fun r τ => wp d pr_268 Q 13 [x0, x1, x2, x3, x4, x5, x6, x7, x8, x9, x10] (r.toList ++ st) τ) := w_callV rfl (by simp) rfl rfl
theorem e_268_13 {d : Nat} {Q : Option Value → gS → Prop} {x0 x1 x2 x3 x4 x5 x6 x7 x8 x9 x10 : Option Value} {x : Int32} {st : List Value} {σ : gS} : wp d pr_268 Q 13 [x0, x1, x2, x3, x4, x5, x6, x7, x8, x9, x10] (.int x :: st) σ ↔ ((x = 0) → wp d pr_268 Q 25 [x0, x1, x2, x3, x4, x5, x6, x7, x8, x9, x10] (st) σ) ∧ (¬ (x = 0) → wp d pr_268 Q 16 [x0, x1, x2, x3, x4, x5, x6, x7, x8, x9, x10] (st) σ) := w_if rfl decide_eq_true_iff
theorem e_268_16 {d : Nat} {Q : Option Value → gS → Prop} {x0 x1 x2 x4 x5 x6 x7 x8 x9 x10 : Option Value} {v : Int32} {st : List Value} {σ : gS} : wp d pr_268 Q 16 [x0, x1, x2, some (.int v), x4, x5, x6, x7, x8, x9, x10] st σ ↔ wp d pr_268 Q 17 [x0, x1, x2, some (.int v), x4, x5, x6, x7, x8, x9, x10] (.int v :: st) σ := w_iload (k := 3) (n := 1) rfl rfl
theorem e_268_17 {d : Nat} {Q : Option Value → gS → Prop} {x0 x1 x2 x3 x4 x5 x6 x7 x8 x9 x10 : Option Value}  {st : List Value} {σ : gS} : wp d pr_268 Q 17 [x0, x1, x2, x3, x4, x5, x6, x7, x8, x9, x10] st σ ↔ wp d pr_268 Q 18 [x0, x1, x2, x3, x4, x5, x6, x7, x8, x9, x10] (.int (0) :: st) σ := w_push (n := 1) rfl
theorem e_268_18 {d : Nat} {Q : Option Value → gS → Prop} {x0 x1 x2 x3 x4 x5 x6 x7 x8 x9 x10 : Option Value}  {st : List Value} {σ : gS} : wp d pr_268 Q 18 [x0, x1, x2, x3, x4, x5, x6, x7, x8, x9, x10] st σ ↔ wp d pr_268 Q 19 [x0, x1, x2, x3, x4, x5, x6, x7, x8, x9, x10] (.int (1) :: st) σ := w_push (n := 1) rfl
theorem e_268_19 {d : Nat} {Q : Option Value → gS → Prop} {x0 x1 x2 x3 x4 x5 x6 x7 x8 x9 x10 : Option Value} {v0 v1 v2 : Value}  {st : List Value} {σ : gS} : wp d pr_268 Q 19 [x0, x1, x2, x3, x4, x5, x6, x7, x8, x9, x10] (v2 :: v1 :: v0 :: st) σ ↔ st.length ≤ 4 ∧ wc d 163 [v0, v1, v2] σ (fun r τ => wp d pr_268 Q 22 [x0, x1, x2, x3, x4, x5, x6, x7, x8, x9, x10] (r.toList ++ st) τ) := w_callS rfl (by simp) rfl rfl
theorem e_268_22 {d : Nat} {Q : Option Value → gS → Prop} {x0 x1 x2 x3 x4 x5 x6 x7 x8 x9 x10 : Option Value} {x : Int32} {st : List Value} {σ : gS} : wp d pr_268 Q 22 [x0, x1, x2, x3, x4, x5, x6, x7, x8, x9, x10] (.int x :: st) σ ↔ ((x ≠ 0) → wp d pr_268 Q 27 [x0, x1, x2, x3, x4, x5, x6, x7, x8, x9, x10] (st) σ) ∧ (¬ (x ≠ 0) → wp d pr_268 Q 25 [x0, x1, x2, x3, x4, x5, x6, x7, x8, x9, x10] (st) σ) := w_if rfl decide_eq_true_iff
theorem e_268_25 {d : Nat} {Q : Option Value → gS → Prop} {x0 x1 x2 x3 x4 x5 x6 x7 x8 x9 x10 : Option Value}  {st : List Value} {σ : gS} : wp d pr_268 Q 25 [x0, x1, x2, x3, x4, x5, x6, x7, x8, x9, x10] st σ ↔ wp d pr_268 Q 26 [x0, x1, x2, x3, x4, x5, x6, x7, x8, x9, x10] (.int (-1) :: st) σ := w_push (n := 1) rfl
theorem e_268_26 {d : Nat} {Q : Option Value → gS → Prop} {x0 x1 x2 x3 x4 x5 x6 x7 x8 x9 x10 : Option Value} {v : Int32} {σ : gS} : wp d pr_268 Q 26 [x0, x1, x2, x3, x4, x5, x6, x7, x8, x9, x10] [.int v] σ ↔ Q (some (.int v)) σ := w_iret rfl
theorem e_268_27 {d : Nat} {Q : Option Value → gS → Prop} {x1 x2 x3 x4 x5 x6 x7 x8 x9 x10 : Option Value} {v : Nat} {st : List Value} {σ : gS} : wp d pr_268 Q 27 [some (.ref v), x1, x2, x3, x4, x5, x6, x7, x8, x9, x10] st σ ↔ wp d pr_268 Q 28 [some (.ref v), x1, x2, x3, x4, x5, x6, x7, x8, x9, x10] (.ref v :: st) σ := w_aload (k := 0) (n := 1) rfl rfl
theorem e_268_28 {d : Nat} {Q : Option Value → gS → Prop} {x0 x1 x2 x3 x4 x5 x6 x7 x8 x9 x10 : Option Value} {a : Nat}  {st : List Value} {σ : gS} : wp d pr_268 Q 28 [x0, x1, x2, x3, x4, x5, x6, x7, x8, x9, x10] (.ref a :: st) σ ↔ (gK σ a = 13 ∧ st.length ≤ 4) ∧ wc d 234 [.ref a] σ (fun r τ => wp d pr_268 Q 31 [x0, x1, x2, x3, x4, x5, x6, x7, x8, x9, x10] (r.toList ++ st) τ) := w_callV rfl (by simp) rfl rfl
theorem e_268_31 {d : Nat} {Q : Option Value → gS → Prop} {x1 x2 x3 x4 x5 x6 x7 x8 x9 x10 : Option Value} {v : Nat} {st : List Value} {σ : gS} : wp d pr_268 Q 31 [some (.ref v), x1, x2, x3, x4, x5, x6, x7, x8, x9, x10] st σ ↔ wp d pr_268 Q 32 [some (.ref v), x1, x2, x3, x4, x5, x6, x7, x8, x9, x10] (.ref v :: st) σ := w_aload (k := 0) (n := 1) rfl rfl
theorem e_268_32 {d : Nat} {Q : Option Value → gS → Prop} {x0 x1 x2 x3 x4 x5 x6 x7 x8 x9 x10 : Option Value} {a : Nat}  {st : List Value} {σ : gS} : wp d pr_268 Q 32 [x0, x1, x2, x3, x4, x5, x6, x7, x8, x9, x10] (.ref a :: st) σ ↔ (gK σ a = 13 ∧ st.length ≤ 4) ∧ wc d 263 [.ref a] σ (fun r τ => wp d pr_268 Q 35 [x0, x1, x2, x3, x4, x5, x6, x7, x8, x9, x10] (r.toList ++ st) τ) := w_callV rfl (by simp) rfl rfl
theorem e_268_35 {d : Nat} {Q : Option Value → gS → Prop} {x0 x1 x2 x3 x4 x5 x6 x7 x8 x9 x10 : Option Value}  {st : List Value} {σ : gS} : wp d pr_268 Q 35 [x0, x1, x2, x3, x4, x5, x6, x7, x8, x9, x10] st σ ↔ wp d pr_268 Q 36 [x0, x1, x2, x3, x4, x5, x6, x7, x8, x9, x10] (.int (-1) :: st) σ := w_push (n := 1) rfl
theorem e_268_36 {d : Nat} {Q : Option Value → gS → Prop} {x0 x1 x2 x3 x4 x5 x6 x7 x8 x9 x10 : Option Value} {v : Int32} {st : List Value} {σ : gS} : wp d pr_268 Q 36 [x0, x1, x2, x3, x4, x5, x6, x7, x8, x9, x10] (.int v :: st) σ ↔ gPv x3 = true ∧ wp d pr_268 Q 38 [x0, x1, x2, x3, some (.int v), x5, x6, x7, x8, x9, x10] (st) σ := w_istore (k := 3) (n := 2) rfl (Nat.le_of_ble_eq_true rfl) rfl rfl
theorem e_268_38 {d : Nat} {Q : Option Value → gS → Prop} {x0 x1 x2 x3 x4 x5 x6 x7 x8 x9 x10 : Option Value}  {st : List Value} {σ : gS} : wp d pr_268 Q 38 [x0, x1, x2, x3, x4, x5, x6, x7, x8, x9, x10] st σ ↔ wp d pr_268 Q 40 [x0, x1, x2, x3, x4, x5, x6, x7, x8, x9, x10] (.int (1000000) :: st) σ := w_push (n := 2) rfl
theorem e_268_40 {d : Nat} {Q : Option Value → gS → Prop} {x0 x1 x2 x3 x4 x5 x6 x7 x8 x9 x10 : Option Value} {v : Int32} {st : List Value} {σ : gS} : wp d pr_268 Q 40 [x0, x1, x2, x3, x4, x5, x6, x7, x8, x9, x10] (.int v :: st) σ ↔ gPv x4 = true ∧ wp d pr_268 Q 42 [x0, x1, x2, x3, x4, some (.int v), x6, x7, x8, x9, x10] (st) σ := w_istore (k := 4) (n := 2) rfl (Nat.le_of_ble_eq_true rfl) rfl rfl
theorem e_268_42 {d : Nat} {Q : Option Value → gS → Prop} {x0 x1 x2 x3 x4 x5 x6 x7 x8 x9 x10 : Option Value}  {st : List Value} {σ : gS} : wp d pr_268 Q 42 [x0, x1, x2, x3, x4, x5, x6, x7, x8, x9, x10] st σ ↔ wp d pr_268 Q 44 [x0, x1, x2, x3, x4, x5, x6, x7, x8, x9, x10] (.int (1000000) :: st) σ := w_push (n := 2) rfl
theorem e_268_44 {d : Nat} {Q : Option Value → gS → Prop} {x0 x1 x2 x3 x4 x5 x6 x7 x8 x9 x10 : Option Value} {v : Int32} {st : List Value} {σ : gS} : wp d pr_268 Q 44 [x0, x1, x2, x3, x4, x5, x6, x7, x8, x9, x10] (.int v :: st) σ ↔ gPv x5 = true ∧ wp d pr_268 Q 46 [x0, x1, x2, x3, x4, x5, some (.int v), x7, x8, x9, x10] (st) σ := w_istore (k := 5) (n := 2) rfl (Nat.le_of_ble_eq_true rfl) rfl rfl
theorem e_268_46 {d : Nat} {Q : Option Value → gS → Prop} {x0 x1 x2 x3 x4 x5 x6 x7 x8 x9 x10 : Option Value}  {st : List Value} {σ : gS} : wp d pr_268 Q 46 [x0, x1, x2, x3, x4, x5, x6, x7, x8, x9, x10] st σ ↔ wp d pr_268 Q 47 [x0, x1, x2, x3, x4, x5, x6, x7, x8, x9, x10] (.int (0) :: st) σ := w_push (n := 1) rfl
theorem e_268_47 {d : Nat} {Q : Option Value → gS → Prop} {x0 x1 x2 x3 x4 x5 x6 x7 x8 x9 x10 : Option Value} {v : Int32} {st : List Value} {σ : gS} : wp d pr_268 Q 47 [x0, x1, x2, x3, x4, x5, x6, x7, x8, x9, x10] (.int v :: st) σ ↔ gPv x6 = true ∧ wp d pr_268 Q 49 [x0, x1, x2, x3, x4, x5, x6, some (.int v), x8, x9, x10] (st) σ := w_istore (k := 6) (n := 2) rfl (Nat.le_of_ble_eq_true rfl) rfl rfl
theorem e_268_49 {d : Nat} {Q : Option Value → gS → Prop} {x0 x1 x2 x3 x4 x5 x6 x8 x9 x10 : Option Value} {v : Int32} {st : List Value} {σ : gS} : wp d pr_268 Q 49 [x0, x1, x2, x3, x4, x5, x6, some (.int v), x8, x9, x10] st σ ↔ wp d pr_268 Q 51 [x0, x1, x2, x3, x4, x5, x6, some (.int v), x8, x9, x10] (.int v :: st) σ := w_iload (k := 7) (n := 2) rfl rfl
theorem e_268_51 {d : Nat} {Q : Option Value → gS → Prop} {x1 x2 x3 x4 x5 x6 x7 x8 x9 x10 : Option Value} {v : Nat} {st : List Value} {σ : gS} : wp d pr_268 Q 51 [some (.ref v), x1, x2, x3, x4, x5, x6, x7, x8, x9, x10] st σ ↔ wp d pr_268 Q 52 [some (.ref v), x1, x2, x3, x4, x5, x6, x7, x8, x9, x10] (.ref v :: st) σ := w_aload (k := 0) (n := 1) rfl rfl
theorem e_268_52 {d : Nat} {Q : Option Value → gS → Prop} {x0 x1 x2 x3 x4 x5 x6 x7 x8 x9 x10 : Option Value} {a : Nat}  {st : List Value} {σ : gS} : wp d pr_268 Q 52 [x0, x1, x2, x3, x4, x5, x6, x7, x8, x9, x10] (.ref a :: st) σ ↔ (gK σ a = 13 ∧ st.length ≤ 4) ∧ wc d 171 [.ref a] σ (fun r τ => wp d pr_268 Q 55 [x0, x1, x2, x3, x4, x5, x6, x7, x8, x9, x10] (r.toList ++ st) τ) := w_callV rfl (by simp) rfl rfl
theorem e_268_55 {d : Nat} {Q : Option Value → gS → Prop} {x0 x1 x2 x3 x4 x5 x6 x7 x8 x9 x10 : Option Value} {x y : Int32} {st : List Value} {σ : gS} : wp d pr_268 Q 55 [x0, x1, x2, x3, x4, x5, x6, x7, x8, x9, x10] (.int y :: .int x :: st) σ ↔ ((y ≤ x) → wp d pr_268 Q 157 [x0, x1, x2, x3, x4, x5, x6, x7, x8, x9, x10] (st) σ) ∧ (¬ (y ≤ x) → wp d pr_268 Q 58 [x0, x1, x2, x3, x4, x5, x6, x7, x8, x9, x10] (st) σ) := w_icmp rfl decide_eq_true_iff
theorem e_268_58 {d : Nat} {Q : Option Value → gS → Prop} {x1 x2 x3 x4 x5 x6 x7 x8 x9 x10 : Option Value} {v : Nat} {st : List Value} {σ : gS} : wp d pr_268 Q 58 [some (.ref v), x1, x2, x3, x4, x5, x6, x7, x8, x9, x10] st σ ↔ wp d pr_268 Q 59 [some (.ref v), x1, x2, x3, x4, x5, x6, x7, x8, x9, x10] (.ref v :: st) σ := w_aload (k := 0) (n := 1) rfl rfl
theorem e_268_59 {d : Nat} {Q : Option Value → gS → Prop} {x0 x1 x2 x3 x4 x5 x6 x7 x8 x9 x10 : Option Value} {a : Nat} {st : List Value} {σ : gS} : wp d pr_268 Q 59 [x0, x1, x2, x3, x4, x5, x6, x7, x8, x9, x10] (.ref a :: st) σ ↔ gK σ a = 13 ∧ ∃ q, gR σ a 44 = some q ∧ wp d pr_268 Q 62 [x0, x1, x2, x3, x4, x5, x6, x7, x8, x9, x10] (.ref q :: st) σ := w_getR rfl
theorem e_268_62 {d : Nat} {Q : Option Value → gS → Prop} {x0 x1 x2 x3 x4 x5 x6 x7 x8 x9 x10 : Option Value}  {st : List Value} {σ : gS} : wp d pr_268 Q 62 [x0, x1, x2, x3, x4, x5, x6, x7, x8, x9, x10] st σ ↔ wp d pr_268 Q 64 [x0, x1, x2, x3, x4, x5, x6, x7, x8, x9, x10] (.int (12) :: st) σ := w_push (n := 2) rfl
theorem e_268_64 {d : Nat} {Q : Option Value → gS → Prop} {x0 x2 x3 x4 x5 x6 x7 x8 x9 x10 : Option Value} {v : Int32} {st : List Value} {σ : gS} : wp d pr_268 Q 64 [x0, some (.int v), x2, x3, x4, x5, x6, x7, x8, x9, x10] st σ ↔ wp d pr_268 Q 65 [x0, some (.int v), x2, x3, x4, x5, x6, x7, x8, x9, x10] (.int v :: st) σ := w_iload (k := 1) (n := 1) rfl rfl
theorem e_268_65 {d : Nat} {Q : Option Value → gS → Prop} {x0 x1 x2 x3 x4 x5 x6 x7 x8 x9 x10 : Option Value} {x y : Int32} {st : List Value} {σ : gS} : wp d pr_268 Q 65 [x0, x1, x2, x3, x4, x5, x6, x7, x8, x9, x10] (.int y :: .int x :: st) σ ↔ wp d pr_268 Q 66 [x0, x1, x2, x3, x4, x5, x6, x7, x8, x9, x10] (.int (x * y) :: st) σ := w_bI (f := fun x y => x * y) rfl
theorem e_268_66 {d : Nat} {Q : Option Value → gS → Prop} {x0 x1 x2 x3 x4 x5 x6 x8 x9 x10 : Option Value} {v : Int32} {st : List Value} {σ : gS} : wp d pr_268 Q 66 [x0, x1, x2, x3, x4, x5, x6, some (.int v), x8, x9, x10] st σ ↔ wp d pr_268 Q 68 [x0, x1, x2, x3, x4, x5, x6, some (.int v), x8, x9, x10] (.int v :: st) σ := w_iload (k := 7) (n := 2) rfl rfl
theorem e_268_68 {d : Nat} {Q : Option Value → gS → Prop} {x0 x1 x2 x3 x4 x5 x6 x7 x8 x9 x10 : Option Value} {x y : Int32} {st : List Value} {σ : gS} : wp d pr_268 Q 68 [x0, x1, x2, x3, x4, x5, x6, x7, x8, x9, x10] (.int y :: .int x :: st) σ ↔ wp d pr_268 Q 69 [x0, x1, x2, x3, x4, x5, x6, x7, x8, x9, x10] (.int (x + y) :: st) σ := w_bI (f := fun x y => x + y) rfl
theorem e_268_69 {d : Nat} {Q : Option Value → gS → Prop} {x0 x1 x2 x3 x4 x5 x6 x7 x8 x9 x10 : Option Value} {i : Int32} {a : Nat} {st : List Value} {σ : gS} : wp d pr_268 Q 69 [x0, x1, x2, x3, x4, x5, x6, x7, x8, x9, x10] (.int i :: .ref a :: st) σ ↔ ((gK σ a = 21 ∨ gK σ a = 26) ∧ ¬ i < 0 ∧ i.toNatClampNeg < gN σ a) ∧ wp d pr_268 Q 70 [x0, x1, x2, x3, x4, x5, x6, x7, x8, x9, x10] (.int (gI σ a i.toNatClampNeg) :: st) σ := w_iald rfl
theorem e_268_70 {d : Nat} {Q : Option Value → gS → Prop} {x0 x1 x2 x3 x4 x5 x6 x7 x8 x9 x10 : Option Value} {v : Int32} {st : List Value} {σ : gS} : wp d pr_268 Q 70 [x0, x1, x2, x3, x4, x5, x6, x7, x8, x9, x10] (.int v :: st) σ ↔ gPv x7 = true ∧ wp d pr_268 Q 72 [x0, x1, x2, x3, x4, x5, x6, x7, some (.int v), x9, x10] (st) σ := w_istore (k := 7) (n := 2) rfl (Nat.le_of_ble_eq_true rfl) rfl rfl
theorem e_268_72 {d : Nat} {Q : Option Value → gS → Prop} {x1 x2 x3 x4 x5 x6 x7 x8 x9 x10 : Option Value} {v : Nat} {st : List Value} {σ : gS} : wp d pr_268 Q 72 [some (.ref v), x1, x2, x3, x4, x5, x6, x7, x8, x9, x10] st σ ↔ wp d pr_268 Q 73 [some (.ref v), x1, x2, x3, x4, x5, x6, x7, x8, x9, x10] (.ref v :: st) σ := w_aload (k := 0) (n := 1) rfl rfl
theorem e_268_73 {d : Nat} {Q : Option Value → gS → Prop} {x0 x1 x2 x3 x4 x5 x6 x7 x8 x9 x10 : Option Value} {a : Nat} {st : List Value} {σ : gS} : wp d pr_268 Q 73 [x0, x1, x2, x3, x4, x5, x6, x7, x8, x9, x10] (.ref a :: st) σ ↔ gK σ a = 13 ∧ ∃ q, gR σ a 44 = some q ∧ wp d pr_268 Q 76 [x0, x1, x2, x3, x4, x5, x6, x7, x8, x9, x10] (.ref q :: st) σ := w_getR rfl
theorem e_268_76 {d : Nat} {Q : Option Value → gS → Prop} {x0 x1 x2 x3 x4 x5 x6 x7 x8 x9 x10 : Option Value}  {st : List Value} {σ : gS} : wp d pr_268 Q 76 [x0, x1, x2, x3, x4, x5, x6, x7, x8, x9, x10] st σ ↔ wp d pr_268 Q 78 [x0, x1, x2, x3, x4, x5, x6, x7, x8, x9, x10] (.int (12) :: st) σ := w_push (n := 2) rfl
theorem e_268_78 {d : Nat} {Q : Option Value → gS → Prop} {x0 x1 x3 x4 x5 x6 x7 x8 x9 x10 : Option Value} {v : Int32} {st : List Value} {σ : gS} : wp d pr_268 Q 78 [x0, x1, some (.int v), x3, x4, x5, x6, x7, x8, x9, x10] st σ ↔ wp d pr_268 Q 79 [x0, x1, some (.int v), x3, x4, x5, x6, x7, x8, x9, x10] (.int v :: st) σ := w_iload (k := 2) (n := 1) rfl rfl
theorem e_268_79 {d : Nat} {Q : Option Value → gS → Prop} {x0 x1 x2 x3 x4 x5 x6 x7 x8 x9 x10 : Option Value} {x y : Int32} {st : List Value} {σ : gS} : wp d pr_268 Q 79 [x0, x1, x2, x3, x4, x5, x6, x7, x8, x9, x10] (.int y :: .int x :: st) σ ↔ wp d pr_268 Q 80 [x0, x1, x2, x3, x4, x5, x6, x7, x8, x9, x10] (.int (x * y) :: st) σ := w_bI (f := fun x y => x * y) rfl
theorem e_268_80 {d : Nat} {Q : Option Value → gS → Prop} {x0 x1 x2 x3 x4 x5 x6 x8 x9 x10 : Option Value} {v : Int32} {st : List Value} {σ : gS} : wp d pr_268 Q 80 [x0, x1, x2, x3, x4, x5, x6, some (.int v), x8, x9, x10] st σ ↔ wp d pr_268 Q 82 [x0, x1, x2, x3, x4, x5, x6, some (.int v), x8, x9, x10] (.int v :: st) σ := w_iload (k := 7) (n := 2) rfl rfl
theorem e_268_82 {d : Nat} {Q : Option Value → gS → Prop} {x0 x1 x2 x3 x4 x5 x6 x7 x8 x9 x10 : Option Value} {x y : Int32} {st : List Value} {σ : gS} : wp d pr_268 Q 82 [x0, x1, x2, x3, x4, x5, x6, x7, x8, x9, x10] (.int y :: .int x :: st) σ ↔ wp d pr_268 Q 83 [x0, x1, x2, x3, x4, x5, x6, x7, x8, x9, x10] (.int (x + y) :: st) σ := w_bI (f := fun x y => x + y) rfl
theorem e_268_83 {d : Nat} {Q : Option Value → gS → Prop} {x0 x1 x2 x3 x4 x5 x6 x7 x8 x9 x10 : Option Value} {i : Int32} {a : Nat} {st : List Value} {σ : gS} : wp d pr_268 Q 83 [x0, x1, x2, x3, x4, x5, x6, x7, x8, x9, x10] (.int i :: .ref a :: st) σ ↔ ((gK σ a = 21 ∨ gK σ a = 26) ∧ ¬ i < 0 ∧ i.toNatClampNeg < gN σ a) ∧ wp d pr_268 Q 84 [x0, x1, x2, x3, x4, x5, x6, x7, x8, x9, x10] (.int (gI σ a i.toNatClampNeg) :: st) σ := w_iald rfl
theorem e_268_84 {d : Nat} {Q : Option Value → gS → Prop} {x0 x1 x2 x3 x4 x5 x6 x7 x8 x9 x10 : Option Value} {v : Int32} {st : List Value} {σ : gS} : wp d pr_268 Q 84 [x0, x1, x2, x3, x4, x5, x6, x7, x8, x9, x10] (.int v :: st) σ ↔ gPv x8 = true ∧ wp d pr_268 Q 86 [x0, x1, x2, x3, x4, x5, x6, x7, x8, some (.int v), x10] (st) σ := w_istore (k := 8) (n := 2) rfl (Nat.le_of_ble_eq_true rfl) rfl rfl
theorem e_268_86 {d : Nat} {Q : Option Value → gS → Prop} {x0 x1 x2 x3 x4 x5 x6 x7 x9 x10 : Option Value} {v : Int32} {st : List Value} {σ : gS} : wp d pr_268 Q 86 [x0, x1, x2, x3, x4, x5, x6, x7, some (.int v), x9, x10] st σ ↔ wp d pr_268 Q 88 [x0, x1, x2, x3, x4, x5, x6, x7, some (.int v), x9, x10] (.int v :: st) σ := w_iload (k := 8) (n := 2) rfl rfl
theorem e_268_88 {d : Nat} {Q : Option Value → gS → Prop} {x0 x1 x2 x3 x4 x5 x6 x7 x8 x10 : Option Value} {v : Int32} {st : List Value} {σ : gS} : wp d pr_268 Q 88 [x0, x1, x2, x3, x4, x5, x6, x7, x8, some (.int v), x10] st σ ↔ wp d pr_268 Q 90 [x0, x1, x2, x3, x4, x5, x6, x7, x8, some (.int v), x10] (.int v :: st) σ := w_iload (k := 9) (n := 2) rfl rfl
theorem e_268_90 {d : Nat} {Q : Option Value → gS → Prop} {x0 x1 x2 x3 x4 x5 x6 x7 x8 x9 x10 : Option Value} {x y : Int32} {st : List Value} {σ : gS} : wp d pr_268 Q 90 [x0, x1, x2, x3, x4, x5, x6, x7, x8, x9, x10] (.int y :: .int x :: st) σ ↔ ((x ≤ y) → wp d pr_268 Q 98 [x0, x1, x2, x3, x4, x5, x6, x7, x8, x9, x10] (st) σ) ∧ (¬ (x ≤ y) → wp d pr_268 Q 93 [x0, x1, x2, x3, x4, x5, x6, x7, x8, x9, x10] (st) σ) := w_icmp rfl decide_eq_true_iff
theorem e_268_93 {d : Nat} {Q : Option Value → gS → Prop} {x0 x1 x2 x3 x4 x5 x6 x7 x9 x10 : Option Value} {v : Int32} {st : List Value} {σ : gS} : wp d pr_268 Q 93 [x0, x1, x2, x3, x4, x5, x6, x7, some (.int v), x9, x10] st σ ↔ wp d pr_268 Q 95 [x0, x1, x2, x3, x4, x5, x6, x7, some (.int v), x9, x10] (.int v :: st) σ := w_iload (k := 8) (n := 2) rfl rfl
theorem e_268_95 {d : Nat} {Q : Option Value → gS → Prop} {x0 x1 x2 x3 x4 x5 x6 x7 x8 x9 x10 : Option Value}  {st : List Value} {σ : gS} : wp d pr_268 Q 95 [x0, x1, x2, x3, x4, x5, x6, x7, x8, x9, x10] st σ ↔ wp d pr_268 Q 100 [x0, x1, x2, x3, x4, x5, x6, x7, x8, x9, x10] (st) σ := w_goto rfl
theorem e_268_98 {d : Nat} {Q : Option Value → gS → Prop} {x0 x1 x2 x3 x4 x5 x6 x7 x8 x10 : Option Value} {v : Int32} {st : List Value} {σ : gS} : wp d pr_268 Q 98 [x0, x1, x2, x3, x4, x5, x6, x7, x8, some (.int v), x10] st σ ↔ wp d pr_268 Q 100 [x0, x1, x2, x3, x4, x5, x6, x7, x8, some (.int v), x10] (.int v :: st) σ := w_iload (k := 9) (n := 2) rfl rfl
theorem e_268_100 {d : Nat} {Q : Option Value → gS → Prop} {x0 x1 x2 x3 x4 x5 x6 x7 x8 x9 x10 : Option Value} {v : Int32} {st : List Value} {σ : gS} : wp d pr_268 Q 100 [x0, x1, x2, x3, x4, x5, x6, x7, x8, x9, x10] (.int v :: st) σ ↔ gPv x9 = true ∧ wp d pr_268 Q 102 [x0, x1, x2, x3, x4, x5, x6, x7, x8, x9, some (.int v)] (st) σ := w_istore (k := 9) (n := 2) rfl (Nat.le_of_ble_eq_true rfl) rfl rfl
theorem e_268_102 {d : Nat} {Q : Option Value → gS → Prop} {x0 x1 x2 x3 x4 x5 x6 x7 x8 x9 : Option Value} {v : Int32} {st : List Value} {σ : gS} : wp d pr_268 Q 102 [x0, x1, x2, x3, x4, x5, x6, x7, x8, x9, some (.int v)] st σ ↔ wp d pr_268 Q 104 [x0, x1, x2, x3, x4, x5, x6, x7, x8, x9, some (.int v)] (.int v :: st) σ := w_iload (k := 10) (n := 2) rfl rfl
theorem e_268_104 {d : Nat} {Q : Option Value → gS → Prop} {x0 x1 x2 x3 x4 x5 x6 x7 x8 x9 x10 : Option Value}  {st : List Value} {σ : gS} : wp d pr_268 Q 104 [x0, x1, x2, x3, x4, x5, x6, x7, x8, x9, x10] st σ ↔ wp d pr_268 Q 106 [x0, x1, x2, x3, x4, x5, x6, x7, x8, x9, x10] (.int (1000000) :: st) σ := w_push (n := 2) rfl
theorem e_268_106 {d : Nat} {Q : Option Value → gS → Prop} {x0 x1 x2 x3 x4 x5 x6 x7 x8 x9 x10 : Option Value} {x y : Int32} {st : List Value} {σ : gS} : wp d pr_268 Q 106 [x0, x1, x2, x3, x4, x5, x6, x7, x8, x9, x10] (.int y :: .int x :: st) σ ↔ ((y ≤ x) → wp d pr_268 Q 151 [x0, x1, x2, x3, x4, x5, x6, x7, x8, x9, x10] (st) σ) ∧ (¬ (y ≤ x) → wp d pr_268 Q 109 [x0, x1, x2, x3, x4, x5, x6, x7, x8, x9, x10] (st) σ) := w_icmp rfl decide_eq_true_iff
theorem e_268_109 {d : Nat} {Q : Option Value → gS → Prop} {x0 x1 x2 x3 x4 x5 x6 x7 x8 x9 : Option Value} {v : Int32} {st : List Value} {σ : gS} : wp d pr_268 Q 109 [x0, x1, x2, x3, x4, x5, x6, x7, x8, x9, some (.int v)] st σ ↔ wp d pr_268 Q 111 [x0, x1, x2, x3, x4, x5, x6, x7, x8, x9, some (.int v)] (.int v :: st) σ := w_iload (k := 10) (n := 2) rfl rfl
set_option maxRecDepth 100000 in
theorem e_268_111 {d : Nat} {Q : Option Value → gS → Prop} {x0 x1 x2 x3 x4 x6 x7 x8 x9 x10 : Option Value} {v : Int32} {st : List Value} {σ : gS} : wp d pr_268 Q 111 [x0, x1, x2, x3, x4, some (.int v), x6, x7, x8, x9, x10] st σ ↔ wp d pr_268 Q 113 [x0, x1, x2, x3, x4, some (.int v), x6, x7, x8, x9, x10] (.int v :: st) σ := w_iload (k := 5) (n := 2) rfl rfl
set_option maxRecDepth 100000 in
theorem e_268_113 {d : Nat} {Q : Option Value → gS → Prop} {x0 x1 x2 x3 x4 x5 x6 x7 x8 x9 x10 : Option Value} {x y : Int32} {st : List Value} {σ : gS} : wp d pr_268 Q 113 [x0, x1, x2, x3, x4, x5, x6, x7, x8, x9, x10] (.int y :: .int x :: st) σ ↔ ((y < x) → wp d pr_268 Q 151 [x0, x1, x2, x3, x4, x5, x6, x7, x8, x9, x10] (st) σ) ∧ (¬ (y < x) → wp d pr_268 Q 116 [x0, x1, x2, x3, x4, x5, x6, x7, x8, x9, x10] (st) σ) := w_icmp rfl decide_eq_true_iff
set_option maxRecDepth 100000 in
theorem e_268_116 {d : Nat} {Q : Option Value → gS → Prop} {x0 x1 x2 x3 x4 x5 x6 x7 x8 x9 : Option Value} {v : Int32} {st : List Value} {σ : gS} : wp d pr_268 Q 116 [x0, x1, x2, x3, x4, x5, x6, x7, x8, x9, some (.int v)] st σ ↔ wp d pr_268 Q 118 [x0, x1, x2, x3, x4, x5, x6, x7, x8, x9, some (.int v)] (.int v :: st) σ := w_iload (k := 10) (n := 2) rfl rfl
set_option maxRecDepth 100000 in
theorem e_268_118 {d : Nat} {Q : Option Value → gS → Prop} {x0 x1 x2 x3 x4 x6 x7 x8 x9 x10 : Option Value} {v : Int32} {st : List Value} {σ : gS} : wp d pr_268 Q 118 [x0, x1, x2, x3, x4, some (.int v), x6, x7, x8, x9, x10] st σ ↔ wp d pr_268 Q 120 [x0, x1, x2, x3, x4, some (.int v), x6, x7, x8, x9, x10] (.int v :: st) σ := w_iload (k := 5) (n := 2) rfl rfl
set_option maxRecDepth 100000 in
theorem e_268_120 {d : Nat} {Q : Option Value → gS → Prop} {x0 x1 x2 x3 x4 x5 x6 x7 x8 x9 x10 : Option Value} {x y : Int32} {st : List Value} {σ : gS} : wp d pr_268 Q 120 [x0, x1, x2, x3, x4, x5, x6, x7, x8, x9, x10] (.int y :: .int x :: st) σ ↔ ((x ≠ y) → wp d pr_268 Q 136 [x0, x1, x2, x3, x4, x5, x6, x7, x8, x9, x10] (st) σ) ∧ (¬ (x ≠ y) → wp d pr_268 Q 123 [x0, x1, x2, x3, x4, x5, x6, x7, x8, x9, x10] (st) σ) := w_icmp rfl decide_eq_true_iff
set_option maxRecDepth 100000 in
theorem e_268_123 {d : Nat} {Q : Option Value → gS → Prop} {x0 x1 x2 x3 x4 x5 x6 x7 x9 x10 : Option Value} {v : Int32} {st : List Value} {σ : gS} : wp d pr_268 Q 123 [x0, x1, x2, x3, x4, x5, x6, x7, some (.int v), x9, x10] st σ ↔ wp d pr_268 Q 125 [x0, x1, x2, x3, x4, x5, x6, x7, some (.int v), x9, x10] (.int v :: st) σ := w_iload (k := 8) (n := 2) rfl rfl
set_option maxRecDepth 100000 in
theorem e_268_125 {d : Nat} {Q : Option Value → gS → Prop} {x0 x1 x2 x3 x4 x5 x6 x7 x8 x10 : Option Value} {v : Int32} {st : List Value} {σ : gS} : wp d pr_268 Q 125 [x0, x1, x2, x3, x4, x5, x6, x7, x8, some (.int v), x10] st σ ↔ wp d pr_268 Q 127 [x0, x1, x2, x3, x4, x5, x6, x7, x8, some (.int v), x10] (.int v :: st) σ := w_iload (k := 9) (n := 2) rfl rfl
set_option maxRecDepth 100000 in
theorem e_268_127 {d : Nat} {Q : Option Value → gS → Prop} {x0 x1 x2 x3 x4 x5 x6 x7 x8 x9 x10 : Option Value} {x y : Int32} {st : List Value} {σ : gS} : wp d pr_268 Q 127 [x0, x1, x2, x3, x4, x5, x6, x7, x8, x9, x10] (.int y :: .int x :: st) σ ↔ wp d pr_268 Q 128 [x0, x1, x2, x3, x4, x5, x6, x7, x8, x9, x10] (.int (x + y) :: st) σ := w_bI (f := fun x y => x + y) rfl
set_option maxRecDepth 100000 in
theorem e_268_128 {d : Nat} {Q : Option Value → gS → Prop} {x0 x1 x2 x3 x4 x5 x7 x8 x9 x10 : Option Value} {v : Int32} {st : List Value} {σ : gS} : wp d pr_268 Q 128 [x0, x1, x2, x3, x4, x5, some (.int v), x7, x8, x9, x10] st σ ↔ wp d pr_268 Q 130 [x0, x1, x2, x3, x4, x5, some (.int v), x7, x8, x9, x10] (.int v :: st) σ := w_iload (k := 6) (n := 2) rfl rfl
set_option maxRecDepth 100000 in
theorem e_268_130 {d : Nat} {Q : Option Value → gS → Prop} {x0 x1 x2 x3 x4 x5 x6 x7 x8 x9 x10 : Option Value} {x y : Int32} {st : List Value} {σ : gS} : wp d pr_268 Q 130 [x0, x1, x2, x3, x4, x5, x6, x7, x8, x9, x10] (.int y :: .int x :: st) σ ↔ ((x < y) → wp d pr_268 Q 136 [x0, x1, x2, x3, x4, x5, x6, x7, x8, x9, x10] (st) σ) ∧ (¬ (x < y) → wp d pr_268 Q 133 [x0, x1, x2, x3, x4, x5, x6, x7, x8, x9, x10] (st) σ) := w_icmp rfl decide_eq_true_iff
set_option maxRecDepth 100000 in
theorem e_268_133 {d : Nat} {Q : Option Value → gS → Prop} {x0 x1 x2 x3 x4 x5 x6 x7 x8 x9 x10 : Option Value}  {st : List Value} {σ : gS} : wp d pr_268 Q 133 [x0, x1, x2, x3, x4, x5, x6, x7, x8, x9, x10] st σ ↔ wp d pr_268 Q 151 [x0, x1, x2, x3, x4, x5, x6, x7, x8, x9, x10] (st) σ := w_goto rfl
set_option maxRecDepth 100000 in
theorem e_268_136 {d : Nat} {Q : Option Value → gS → Prop} {x0 x1 x2 x3 x4 x5 x6 x8 x9 x10 : Option Value} {v : Int32} {st : List Value} {σ : gS} : wp d pr_268 Q 136 [x0, x1, x2, x3, x4, x5, x6, some (.int v), x8, x9, x10] st σ ↔ wp d pr_268 Q 138 [x0, x1, x2, x3, x4, x5, x6, some (.int v), x8, x9, x10] (.int v :: st) σ := w_iload (k := 7) (n := 2) rfl rfl
set_option maxRecDepth 100000 in
theorem e_268_138 {d : Nat} {Q : Option Value → gS → Prop} {x0 x1 x2 x3 x4 x5 x6 x7 x8 x9 x10 : Option Value} {v : Int32} {st : List Value} {σ : gS} : wp d pr_268 Q 138 [x0, x1, x2, x3, x4, x5, x6, x7, x8, x9, x10] (.int v :: st) σ ↔ gPv x3 = true ∧ wp d pr_268 Q 140 [x0, x1, x2, x3, some (.int v), x5, x6, x7, x8, x9, x10] (st) σ := w_istore (k := 3) (n := 2) rfl (Nat.le_of_ble_eq_true rfl) rfl rfl
set_option maxRecDepth 100000 in
theorem e_268_140 {d : Nat} {Q : Option Value → gS → Prop} {x0 x1 x2 x3 x4 x5 x6 x7 x8 x9 : Option Value} {v : Int32} {st : List Value} {σ : gS} : wp d pr_268 Q 140 [x0, x1, x2, x3, x4, x5, x6, x7, x8, x9, some (.int v)] st σ ↔ wp d pr_268 Q 142 [x0, x1, x2, x3, x4, x5, x6, x7, x8, x9, some (.int v)] (.int v :: st) σ := w_iload (k := 10) (n := 2) rfl rfl
set_option maxRecDepth 100000 in
theorem e_268_142 {d : Nat} {Q : Option Value → gS → Prop} {x0 x1 x2 x3 x4 x5 x6 x7 x8 x9 x10 : Option Value} {v : Int32} {st : List Value} {σ : gS} : wp d pr_268 Q 142 [x0, x1, x2, x3, x4, x5, x6, x7, x8, x9, x10] (.int v :: st) σ ↔ gPv x4 = true ∧ wp d pr_268 Q 144 [x0, x1, x2, x3, x4, some (.int v), x6, x7, x8, x9, x10] (st) σ := w_istore (k := 4) (n := 2) rfl (Nat.le_of_ble_eq_true rfl) rfl rfl
set_option maxRecDepth 100000 in
theorem e_268_144 {d : Nat} {Q : Option Value → gS → Prop} {x0 x1 x2 x3 x4 x5 x6 x7 x9 x10 : Option Value} {v : Int32} {st : List Value} {σ : gS} : wp d pr_268 Q 144 [x0, x1, x2, x3, x4, x5, x6, x7, some (.int v), x9, x10] st σ ↔ wp d pr_268 Q 146 [x0, x1, x2, x3, x4, x5, x6, x7, some (.int v), x9, x10] (.int v :: st) σ := w_iload (k := 8) (n := 2) rfl rfl
set_option maxRecDepth 100000 in
theorem e_268_146 {d : Nat} {Q : Option Value → gS → Prop} {x0 x1 x2 x3 x4 x5 x6 x7 x8 x10 : Option Value} {v : Int32} {st : List Value} {σ : gS} : wp d pr_268 Q 146 [x0, x1, x2, x3, x4, x5, x6, x7, x8, some (.int v), x10] st σ ↔ wp d pr_268 Q 148 [x0, x1, x2, x3, x4, x5, x6, x7, x8, some (.int v), x10] (.int v :: st) σ := w_iload (k := 9) (n := 2) rfl rfl
set_option maxRecDepth 100000 in
theorem e_268_148 {d : Nat} {Q : Option Value → gS → Prop} {x0 x1 x2 x3 x4 x5 x6 x7 x8 x9 x10 : Option Value} {x y : Int32} {st : List Value} {σ : gS} : wp d pr_268 Q 148 [x0, x1, x2, x3, x4, x5, x6, x7, x8, x9, x10] (.int y :: .int x :: st) σ ↔ wp d pr_268 Q 149 [x0, x1, x2, x3, x4, x5, x6, x7, x8, x9, x10] (.int (x + y) :: st) σ := w_bI (f := fun x y => x + y) rfl
set_option maxRecDepth 100000 in
theorem e_268_149 {d : Nat} {Q : Option Value → gS → Prop} {x0 x1 x2 x3 x4 x5 x6 x7 x8 x9 x10 : Option Value} {v : Int32} {st : List Value} {σ : gS} : wp d pr_268 Q 149 [x0, x1, x2, x3, x4, x5, x6, x7, x8, x9, x10] (.int v :: st) σ ↔ gPv x5 = true ∧ wp d pr_268 Q 151 [x0, x1, x2, x3, x4, x5, some (.int v), x7, x8, x9, x10] (st) σ := w_istore (k := 5) (n := 2) rfl (Nat.le_of_ble_eq_true rfl) rfl rfl
set_option maxRecDepth 100000 in
theorem e_268_151 {d : Nat} {Q : Option Value → gS → Prop} {x0 x1 x2 x3 x4 x5 x6 x8 x9 x10 : Option Value} {v : Int32} {st : List Value} {σ : gS} : wp d pr_268 Q 151 [x0, x1, x2, x3, x4, x5, x6, some (.int v), x8, x9, x10] st σ ↔ gPv x6 = true ∧ wp d pr_268 Q 154 [x0, x1, x2, x3, x4, x5, x6, some (.int (v + (1))), x8, x9, x10] (st) σ := w_iinc (k := 6) rfl rfl rfl rfl
set_option maxRecDepth 100000 in
theorem e_268_154 {d : Nat} {Q : Option Value → gS → Prop} {x0 x1 x2 x3 x4 x5 x6 x7 x8 x9 x10 : Option Value}  {st : List Value} {σ : gS} : wp d pr_268 Q 154 [x0, x1, x2, x3, x4, x5, x6, x7, x8, x9, x10] st σ ↔ wp d pr_268 Q 49 [x0, x1, x2, x3, x4, x5, x6, x7, x8, x9, x10] (st) σ := w_goto rfl
set_option maxRecDepth 100000 in
theorem e_268_157 {d : Nat} {Q : Option Value → gS → Prop} {x0 x1 x2 x3 x5 x6 x7 x8 x9 x10 : Option Value} {v : Int32} {st : List Value} {σ : gS} : wp d pr_268 Q 157 [x0, x1, x2, x3, some (.int v), x5, x6, x7, x8, x9, x10] st σ ↔ wp d pr_268 Q 159 [x0, x1, x2, x3, some (.int v), x5, x6, x7, x8, x9, x10] (.int v :: st) σ := w_iload (k := 4) (n := 2) rfl rfl
set_option maxRecDepth 100000 in
theorem e_268_159 {d : Nat} {Q : Option Value → gS → Prop} {x0 x1 x2 x3 x4 x5 x6 x7 x8 x9 x10 : Option Value}  {st : List Value} {σ : gS} : wp d pr_268 Q 159 [x0, x1, x2, x3, x4, x5, x6, x7, x8, x9, x10] st σ ↔ wp d pr_268 Q 160 [x0, x1, x2, x3, x4, x5, x6, x7, x8, x9, x10] (.int (-1) :: st) σ := w_push (n := 1) rfl
set_option maxRecDepth 100000 in
theorem e_268_160 {d : Nat} {Q : Option Value → gS → Prop} {x0 x1 x2 x3 x4 x5 x6 x7 x8 x9 x10 : Option Value} {x y : Int32} {st : List Value} {σ : gS} : wp d pr_268 Q 160 [x0, x1, x2, x3, x4, x5, x6, x7, x8, x9, x10] (.int y :: .int x :: st) σ ↔ ((x = y) → wp d pr_268 Q 167 [x0, x1, x2, x3, x4, x5, x6, x7, x8, x9, x10] (st) σ) ∧ (¬ (x = y) → wp d pr_268 Q 163 [x0, x1, x2, x3, x4, x5, x6, x7, x8, x9, x10] (st) σ) := w_icmp rfl decide_eq_true_iff
set_option maxRecDepth 100000 in
theorem e_268_163 {d : Nat} {Q : Option Value → gS → Prop} {x0 x1 x2 x4 x5 x6 x7 x8 x9 x10 : Option Value} {v : Int32} {st : List Value} {σ : gS} : wp d pr_268 Q 163 [x0, x1, x2, some (.int v), x4, x5, x6, x7, x8, x9, x10] st σ ↔ wp d pr_268 Q 164 [x0, x1, x2, some (.int v), x4, x5, x6, x7, x8, x9, x10] (.int v :: st) σ := w_iload (k := 3) (n := 1) rfl rfl
set_option maxRecDepth 100000 in
theorem e_268_164 {d : Nat} {Q : Option Value → gS → Prop} {x0 x1 x2 x3 x4 x5 x6 x7 x8 x9 x10 : Option Value} {x : Int32} {st : List Value} {σ : gS} : wp d pr_268 Q 164 [x0, x1, x2, x3, x4, x5, x6, x7, x8, x9, x10] (.int x :: st) σ ↔ ((x ≠ 0) → wp d pr_268 Q 172 [x0, x1, x2, x3, x4, x5, x6, x7, x8, x9, x10] (st) σ) ∧ (¬ (x ≠ 0) → wp d pr_268 Q 167 [x0, x1, x2, x3, x4, x5, x6, x7, x8, x9, x10] (st) σ) := w_if rfl decide_eq_true_iff
set_option maxRecDepth 100000 in
theorem e_268_167 {d : Nat} {Q : Option Value → gS → Prop} {x0 x1 x2 x3 x5 x6 x7 x8 x9 x10 : Option Value} {v : Int32} {st : List Value} {σ : gS} : wp d pr_268 Q 167 [x0, x1, x2, x3, some (.int v), x5, x6, x7, x8, x9, x10] st σ ↔ wp d pr_268 Q 169 [x0, x1, x2, x3, some (.int v), x5, x6, x7, x8, x9, x10] (.int v :: st) σ := w_iload (k := 4) (n := 2) rfl rfl
set_option maxRecDepth 100000 in
theorem e_268_169 {d : Nat} {Q : Option Value → gS → Prop} {x0 x1 x2 x3 x4 x5 x6 x7 x8 x9 x10 : Option Value}  {st : List Value} {σ : gS} : wp d pr_268 Q 169 [x0, x1, x2, x3, x4, x5, x6, x7, x8, x9, x10] st σ ↔ wp d pr_268 Q 174 [x0, x1, x2, x3, x4, x5, x6, x7, x8, x9, x10] (st) σ := w_goto rfl
set_option maxRecDepth 100000 in
theorem e_268_172 {d : Nat} {Q : Option Value → gS → Prop} {x0 x1 x2 x3 x4 x6 x7 x8 x9 x10 : Option Value} {v : Int32} {st : List Value} {σ : gS} : wp d pr_268 Q 172 [x0, x1, x2, x3, x4, some (.int v), x6, x7, x8, x9, x10] st σ ↔ wp d pr_268 Q 174 [x0, x1, x2, x3, x4, some (.int v), x6, x7, x8, x9, x10] (.int v :: st) σ := w_iload (k := 5) (n := 2) rfl rfl
set_option maxRecDepth 100000 in
theorem e_268_174 {d : Nat} {Q : Option Value → gS → Prop} {x0 x1 x2 x3 x4 x5 x6 x7 x8 x9 x10 : Option Value} {v : Int32} {σ : gS} : wp d pr_268 Q 174 [x0, x1, x2, x3, x4, x5, x6, x7, x8, x9, x10] [.int v] σ ↔ Q (some (.int v)) σ := w_iret rfl
theorem c_268 {d : Nat} {Q : Option Value → gS → Prop} {a : Nat} {p0 : Int32} {p1 : Int32} {p2 : Int32} {σ : gS} : wc (d + 1) 268 [.ref a, .int p0, .int p1, .int p2] σ Q ↔ wp d pr_268 Q 0 [some (.ref a), some (.int p0), some (.int p1), some (.int p2), none, none, none, none, none, none, none] [] σ := wc_iff (Nat.le_of_ble_eq_true rfl) rfl
theorem e_269_0 {d : Nat} {Q : Option Value → gS → Prop} {x0 x2 x3 x4 x5 x6 x7 x8 x9 x10 x11 x12 x13 : Option Value} {v : Int32} {st : List Value} {σ : gS} : wp d pr_269 Q 0 [x0, some (.int v), x2, x3, x4, x5, x6, x7, x8, x9, x10, x11, x12, x13] st σ ↔ wp d pr_269 Q 1 [x0, some (.int v), x2, x3, x4, x5, x6, x7, x8, x9, x10, x11, x12, x13] (.int v :: st) σ := w_iload (k := 1) (n := 1) rfl rfl
theorem e_269_1 {d : Nat} {Q : Option Value → gS → Prop} {x0 x1 x2 x3 x4 x5 x6 x7 x8 x9 x10 x11 x12 x13 : Option Value}  {st : List Value} {σ : gS} : wp d pr_269 Q 1 [x0, x1, x2, x3, x4, x5, x6, x7, x8, x9, x10, x11, x12, x13] st σ ↔ wp d pr_269 Q 2 [x0, x1, x2, x3, x4, x5, x6, x7, x8, x9, x10, x11, x12, x13] (.int (1) :: st) σ := w_push (n := 1) rfl
theorem e_269_2 {d : Nat} {Q : Option Value → gS → Prop} {x0 x1 x2 x3 x4 x5 x6 x7 x8 x9 x10 x11 x12 x13 : Option Value}  {st : List Value} {σ : gS} : wp d pr_269 Q 2 [x0, x1, x2, x3, x4, x5, x6, x7, x8, x9, x10, x11, x12, x13] st σ ↔ wp d pr_269 Q 3 [x0, x1, x2, x3, x4, x5, x6, x7, x8, x9, x10, x11, x12, x13] (.int (3) :: st) σ := w_push (n := 1) rfl
theorem e_269_3 {d : Nat} {Q : Option Value → gS → Prop} {x0 x1 x2 x3 x4 x5 x6 x7 x8 x9 x10 x11 x12 x13 : Option Value} {v0 v1 v2 : Value}  {st : List Value} {σ : gS} : wp d pr_269 Q 3 [x0, x1, x2, x3, x4, x5, x6, x7, x8, x9, x10, x11, x12, x13] (v2 :: v1 :: v0 :: st) σ ↔ st.length ≤ 4 ∧ wc d 163 [v0, v1, v2] σ (fun r τ => wp d pr_269 Q 6 [x0, x1, x2, x3, x4, x5, x6, x7, x8, x9, x10, x11, x12, x13] (r.toList ++ st) τ) := w_callS rfl (by simp) rfl rfl
theorem e_269_6 {d : Nat} {Q : Option Value → gS → Prop} {x0 x1 x2 x3 x4 x5 x6 x7 x8 x9 x10 x11 x12 x13 : Option Value} {x : Int32} {st : List Value} {σ : gS} : wp d pr_269 Q 6 [x0, x1, x2, x3, x4, x5, x6, x7, x8, x9, x10, x11, x12, x13] (.int x :: st) σ ↔ ((x = 0) → wp d pr_269 Q 65 [x0, x1, x2, x3, x4, x5, x6, x7, x8, x9, x10, x11, x12, x13] (st) σ) ∧ (¬ (x = 0) → wp d pr_269 Q 9 [x0, x1, x2, x3, x4, x5, x6, x7, x8, x9, x10, x11, x12, x13] (st) σ) := w_if rfl decide_eq_true_iff
theorem e_269_9 {d : Nat} {Q : Option Value → gS → Prop} {x0 x1 x3 x4 x5 x6 x7 x8 x9 x10 x11 x12 x13 : Option Value} {v : Int32} {st : List Value} {σ : gS} : wp d pr_269 Q 9 [x0, x1, some (.int v), x3, x4, x5, x6, x7, x8, x9, x10, x11, x12, x13] st σ ↔ wp d pr_269 Q 10 [x0, x1, some (.int v), x3, x4, x5, x6, x7, x8, x9, x10, x11, x12, x13] (.int v :: st) σ := w_iload (k := 2) (n := 1) rfl rfl
theorem e_269_10 {d : Nat} {Q : Option Value → gS → Prop} {x0 x1 x2 x3 x4 x5 x6 x7 x8 x9 x10 x11 x12 x13 : Option Value}  {st : List Value} {σ : gS} : wp d pr_269 Q 10 [x0, x1, x2, x3, x4, x5, x6, x7, x8, x9, x10, x11, x12, x13] st σ ↔ wp d pr_269 Q 11 [x0, x1, x2, x3, x4, x5, x6, x7, x8, x9, x10, x11, x12, x13] (.int (1) :: st) σ := w_push (n := 1) rfl
theorem e_269_11 {d : Nat} {Q : Option Value → gS → Prop} {x0 x1 x2 x3 x4 x5 x6 x7 x8 x9 x10 x11 x12 x13 : Option Value}  {st : List Value} {σ : gS} : wp d pr_269 Q 11 [x0, x1, x2, x3, x4, x5, x6, x7, x8, x9, x10, x11, x12, x13] st σ ↔ wp d pr_269 Q 12 [x0, x1, x2, x3, x4, x5, x6, x7, x8, x9, x10, x11, x12, x13] (.int (3) :: st) σ := w_push (n := 1) rfl
theorem e_269_12 {d : Nat} {Q : Option Value → gS → Prop} {x0 x1 x2 x3 x4 x5 x6 x7 x8 x9 x10 x11 x12 x13 : Option Value} {v0 v1 v2 : Value}  {st : List Value} {σ : gS} : wp d pr_269 Q 12 [x0, x1, x2, x3, x4, x5, x6, x7, x8, x9, x10, x11, x12, x13] (v2 :: v1 :: v0 :: st) σ ↔ st.length ≤ 4 ∧ wc d 163 [v0, v1, v2] σ (fun r τ => wp d pr_269 Q 15 [x0, x1, x2, x3, x4, x5, x6, x7, x8, x9, x10, x11, x12, x13] (r.toList ++ st) τ) := w_callS rfl (by simp) rfl rfl
theorem e_269_15 {d : Nat} {Q : Option Value → gS → Prop} {x0 x1 x2 x3 x4 x5 x6 x7 x8 x9 x10 x11 x12 x13 : Option Value} {x : Int32} {st : List Value} {σ : gS} : wp d pr_269 Q 15 [x0, x1, x2, x3, x4, x5, x6, x7, x8, x9, x10, x11, x12, x13] (.int x :: st) σ ↔ ((x = 0) → wp d pr_269 Q 65 [x0, x1, x2, x3, x4, x5, x6, x7, x8, x9, x10, x11, x12, x13] (st) σ) ∧ (¬ (x = 0) → wp d pr_269 Q 18 [x0, x1, x2, x3, x4, x5, x6, x7, x8, x9, x10, x11, x12, x13] (st) σ) := w_if rfl decide_eq_true_iff
theorem e_269_18 {d : Nat} {Q : Option Value → gS → Prop} {x0 x1 x2 x4 x5 x6 x7 x8 x9 x10 x11 x12 x13 : Option Value} {v : Int32} {st : List Value} {σ : gS} : wp d pr_269 Q 18 [x0, x1, x2, some (.int v), x4, x5, x6, x7, x8, x9, x10, x11, x12, x13] st σ ↔ wp d pr_269 Q 19 [x0, x1, x2, some (.int v), x4, x5, x6, x7, x8, x9, x10, x11, x12, x13] (.int v :: st) σ := w_iload (k := 3) (n := 1) rfl rfl
theorem e_269_19 {d : Nat} {Q : Option Value → gS → Prop} {x0 x1 x2 x3 x4 x5 x6 x7 x8 x9 x10 x11 x12 x13 : Option Value}  {st : List Value} {σ : gS} : wp d pr_269 Q 19 [x0, x1, x2, x3, x4, x5, x6, x7, x8, x9, x10, x11, x12, x13] st σ ↔ wp d pr_269 Q 20 [x0, x1, x2, x3, x4, x5, x6, x7, x8, x9, x10, x11, x12, x13] (.int (0) :: st) σ := w_push (n := 1) rfl
theorem e_269_20 {d : Nat} {Q : Option Value → gS → Prop} {x0 x1 x2 x3 x4 x5 x6 x7 x8 x9 x10 x11 x12 x13 : Option Value}  {st : List Value} {σ : gS} : wp d pr_269 Q 20 [x0, x1, x2, x3, x4, x5, x6, x7, x8, x9, x10, x11, x12, x13] st σ ↔ wp d pr_269 Q 23 [x0, x1, x2, x3, x4, x5, x6, x7, x8, x9, x10, x11, x12, x13] (.int (4095) :: st) σ := w_push (n := 3) rfl
theorem e_269_23 {d : Nat} {Q : Option Value → gS → Prop} {x0 x1 x2 x3 x4 x5 x6 x7 x8 x9 x10 x11 x12 x13 : Option Value} {v0 v1 v2 : Value}  {st : List Value} {σ : gS} : wp d pr_269 Q 23 [x0, x1, x2, x3, x4, x5, x6, x7, x8, x9, x10, x11, x12, x13] (v2 :: v1 :: v0 :: st) σ ↔ st.length ≤ 4 ∧ wc d 163 [v0, v1, v2] σ (fun r τ => wp d pr_269 Q 26 [x0, x1, x2, x3, x4, x5, x6, x7, x8, x9, x10, x11, x12, x13] (r.toList ++ st) τ) := w_callS rfl (by simp) rfl rfl
theorem e_269_26 {d : Nat} {Q : Option Value → gS → Prop} {x0 x1 x2 x3 x4 x5 x6 x7 x8 x9 x10 x11 x12 x13 : Option Value} {x : Int32} {st : List Value} {σ : gS} : wp d pr_269 Q 26 [x0, x1, x2, x3, x4, x5, x6, x7, x8, x9, x10, x11, x12, x13] (.int x :: st) σ ↔ ((x = 0) → wp d pr_269 Q 65 [x0, x1, x2, x3, x4, x5, x6, x7, x8, x9, x10, x11, x12, x13] (st) σ) ∧ (¬ (x = 0) → wp d pr_269 Q 29 [x0, x1, x2, x3, x4, x5, x6, x7, x8, x9, x10, x11, x12, x13] (st) σ) := w_if rfl decide_eq_true_iff
theorem e_269_29 {d : Nat} {Q : Option Value → gS → Prop} {x0 x1 x2 x3 x5 x6 x7 x8 x9 x10 x11 x12 x13 : Option Value} {v : Int32} {st : List Value} {σ : gS} : wp d pr_269 Q 29 [x0, x1, x2, x3, some (.int v), x5, x6, x7, x8, x9, x10, x11, x12, x13] st σ ↔ wp d pr_269 Q 31 [x0, x1, x2, x3, some (.int v), x5, x6, x7, x8, x9, x10, x11, x12, x13] (.int v :: st) σ := w_iload (k := 4) (n := 2) rfl rfl
theorem e_269_31 {d : Nat} {Q : Option Value → gS → Prop} {x0 x1 x2 x3 x4 x5 x6 x7 x8 x9 x10 x11 x12 x13 : Option Value}  {st : List Value} {σ : gS} : wp d pr_269 Q 31 [x0, x1, x2, x3, x4, x5, x6, x7, x8, x9, x10, x11, x12, x13] st σ ↔ wp d pr_269 Q 32 [x0, x1, x2, x3, x4, x5, x6, x7, x8, x9, x10, x11, x12, x13] (.int (0) :: st) σ := w_push (n := 1) rfl
theorem e_269_32 {d : Nat} {Q : Option Value → gS → Prop} {x0 x1 x2 x3 x4 x5 x6 x7 x8 x9 x10 x11 x12 x13 : Option Value}  {st : List Value} {σ : gS} : wp d pr_269 Q 32 [x0, x1, x2, x3, x4, x5, x6, x7, x8, x9, x10, x11, x12, x13] st σ ↔ wp d pr_269 Q 35 [x0, x1, x2, x3, x4, x5, x6, x7, x8, x9, x10, x11, x12, x13] (.int (4095) :: st) σ := w_push (n := 3) rfl
theorem e_269_35 {d : Nat} {Q : Option Value → gS → Prop} {x0 x1 x2 x3 x4 x5 x6 x7 x8 x9 x10 x11 x12 x13 : Option Value} {v0 v1 v2 : Value}  {st : List Value} {σ : gS} : wp d pr_269 Q 35 [x0, x1, x2, x3, x4, x5, x6, x7, x8, x9, x10, x11, x12, x13] (v2 :: v1 :: v0 :: st) σ ↔ st.length ≤ 4 ∧ wc d 163 [v0, v1, v2] σ (fun r τ => wp d pr_269 Q 38 [x0, x1, x2, x3, x4, x5, x6, x7, x8, x9, x10, x11, x12, x13] (r.toList ++ st) τ) := w_callS rfl (by simp) rfl rfl
theorem e_269_38 {d : Nat} {Q : Option Value → gS → Prop} {x0 x1 x2 x3 x4 x5 x6 x7 x8 x9 x10 x11 x12 x13 : Option Value} {x : Int32} {st : List Value} {σ : gS} : wp d pr_269 Q 38 [x0, x1, x2, x3, x4, x5, x6, x7, x8, x9, x10, x11, x12, x13] (.int x :: st) σ ↔ ((x = 0) → wp d pr_269 Q 65 [x0, x1, x2, x3, x4, x5, x6, x7, x8, x9, x10, x11, x12, x13] (st) σ) ∧ (¬ (x = 0) → wp d pr_269 Q 41 [x0, x1, x2, x3, x4, x5, x6, x7, x8, x9, x10, x11, x12, x13] (st) σ) := w_if rfl decide_eq_true_iff
theorem e_269_41 {d : Nat} {Q : Option Value → gS → Prop} {x0 x1 x2 x4 x5 x6 x7 x8 x9 x10 x11 x12 x13 : Option Value} {v : Int32} {st : List Value} {σ : gS} : wp d pr_269 Q 41 [x0, x1, x2, some (.int v), x4, x5, x6, x7, x8, x9, x10, x11, x12, x13] st σ ↔ wp d pr_269 Q 42 [x0, x1, x2, some (.int v), x4, x5, x6, x7, x8, x9, x10, x11, x12, x13] (.int v :: st) σ := w_iload (k := 3) (n := 1) rfl rfl
theorem e_269_42 {d : Nat} {Q : Option Value → gS → Prop} {x0 x1 x2 x3 x5 x6 x7 x8 x9 x10 x11 x12 x13 : Option Value} {v : Int32} {st : List Value} {σ : gS} : wp d pr_269 Q 42 [x0, x1, x2, x3, some (.int v), x5, x6, x7, x8, x9, x10, x11, x12, x13] st σ ↔ wp d pr_269 Q 44 [x0, x1, x2, x3, some (.int v), x5, x6, x7, x8, x9, x10, x11, x12, x13] (.int v :: st) σ := w_iload (k := 4) (n := 2) rfl rfl
theorem e_269_44 {d : Nat} {Q : Option Value → gS → Prop} {x0 x1 x2 x3 x4 x5 x6 x7 x8 x9 x10 x11 x12 x13 : Option Value} {x y : Int32} {st : List Value} {σ : gS} : wp d pr_269 Q 44 [x0, x1, x2, x3, x4, x5, x6, x7, x8, x9, x10, x11, x12, x13] (.int y :: .int x :: st) σ ↔ wp d pr_269 Q 45 [x0, x1, x2, x3, x4, x5, x6, x7, x8, x9, x10, x11, x12, x13] (.int (x ||| y) :: st) σ := w_bI (f := fun x y => x ||| y) rfl
theorem e_269_45 {d : Nat} {Q : Option Value → gS → Prop} {x1 x2 x3 x4 x5 x6 x7 x8 x9 x10 x11 x12 x13 : Option Value} {v : Nat} {st : List Value} {σ : gS} : wp d pr_269 Q 45 [some (.ref v), x1, x2, x3, x4, x5, x6, x7, x8, x9, x10, x11, x12, x13] st σ ↔ wp d pr_269 Q 46 [some (.ref v), x1, x2, x3, x4, x5, x6, x7, x8, x9, x10, x11, x12, x13] (.ref v :: st) σ := w_aload (k := 0) (n := 1) rfl rfl
theorem e_269_46 {d : Nat} {Q : Option Value → gS → Prop} {x0 x1 x2 x3 x4 x5 x6 x7 x8 x9 x10 x11 x12 x13 : Option Value} {a : Nat}  {st : List Value} {σ : gS} : wp d pr_269 Q 46 [x0, x1, x2, x3, x4, x5, x6, x7, x8, x9, x10, x11, x12, x13] (.ref a :: st) σ ↔ (gK σ a = 13 ∧ st.length ≤ 4) ∧ wc d 175 [.ref a] σ (fun r τ => wp d pr_269 Q 49 [x0, x1, x2, x3, x4, x5, x6, x7, x8, x9, x10, x11, x12, x13] (r.toList ++ st) τ) := w_callV rfl (by simp) rfl rfl
theorem e_269_49 {d : Nat} {Q : Option Value → gS → Prop} {x0 x1 x2 x3 x4 x5 x6 x7 x8 x9 x10 x11 x12 x13 : Option Value}  {st : List Value} {σ : gS} : wp d pr_269 Q 49 [x0, x1, x2, x3, x4, x5, x6, x7, x8, x9, x10, x11, x12, x13] st σ ↔ wp d pr_269 Q 50 [x0, x1, x2, x3, x4, x5, x6, x7, x8, x9, x10, x11, x12, x13] (.int (-1) :: st) σ := w_push (n := 1) rfl
theorem e_269_50 {d : Nat} {Q : Option Value → gS → Prop} {x0 x1 x2 x3 x4 x5 x6 x7 x8 x9 x10 x11 x12 x13 : Option Value} {x y : Int32} {st : List Value} {σ : gS} : wp d pr_269 Q 50 [x0, x1, x2, x3, x4, x5, x6, x7, x8, x9, x10, x11, x12, x13] (.int y :: .int x :: st) σ ↔ wp d pr_269 Q 51 [x0, x1, x2, x3, x4, x5, x6, x7, x8, x9, x10, x11, x12, x13] (.int (x ^^^ y) :: st) σ := w_bI (f := fun x y => x ^^^ y) rfl
theorem e_269_51 {d : Nat} {Q : Option Value → gS → Prop} {x0 x1 x2 x3 x4 x5 x6 x7 x8 x9 x10 x11 x12 x13 : Option Value} {x y : Int32} {st : List Value} {σ : gS} : wp d pr_269 Q 51 [x0, x1, x2, x3, x4, x5, x6, x7, x8, x9, x10, x11, x12, x13] (.int y :: .int x :: st) σ ↔ wp d pr_269 Q 52 [x0, x1, x2, x3, x4, x5, x6, x7, x8, x9, x10, x11, x12, x13] (.int (x &&& y) :: st) σ := w_bI (f := fun x y => x &&& y) rfl
theorem e_269_52 {d : Nat} {Q : Option Value → gS → Prop} {x0 x1 x2 x3 x4 x5 x6 x7 x8 x9 x10 x11 x12 x13 : Option Value} {x : Int32} {st : List Value} {σ : gS} : wp d pr_269 Q 52 [x0, x1, x2, x3, x4, x5, x6, x7, x8, x9, x10, x11, x12, x13] (.int x :: st) σ ↔ ((x ≠ 0) → wp d pr_269 Q 65 [x0, x1, x2, x3, x4, x5, x6, x7, x8, x9, x10, x11, x12, x13] (st) σ) ∧ (¬ (x ≠ 0) → wp d pr_269 Q 55 [x0, x1, x2, x3, x4, x5, x6, x7, x8, x9, x10, x11, x12, x13] (st) σ) := w_if rfl decide_eq_true_iff
theorem e_269_55 {d : Nat} {Q : Option Value → gS → Prop} {x0 x1 x2 x3 x4 x6 x7 x8 x9 x10 x11 x12 x13 : Option Value} {v : Int32} {st : List Value} {σ : gS} : wp d pr_269 Q 55 [x0, x1, x2, x3, x4, some (.int v), x6, x7, x8, x9, x10, x11, x12, x13] st σ ↔ wp d pr_269 Q 57 [x0, x1, x2, x3, x4, some (.int v), x6, x7, x8, x9, x10, x11, x12, x13] (.int v :: st) σ := w_iload (k := 5) (n := 2) rfl rfl
theorem e_269_57 {d : Nat} {Q : Option Value → gS → Prop} {x0 x1 x2 x3 x4 x5 x6 x7 x8 x9 x10 x11 x12 x13 : Option Value}  {st : List Value} {σ : gS} : wp d pr_269 Q 57 [x0, x1, x2, x3, x4, x5, x6, x7, x8, x9, x10, x11, x12, x13] st σ ↔ wp d pr_269 Q 58 [x0, x1, x2, x3, x4, x5, x6, x7, x8, x9, x10, x11, x12, x13] (.int (0) :: st) σ := w_push (n := 1) rfl
theorem e_269_58 {d : Nat} {Q : Option Value → gS → Prop} {x0 x1 x2 x3 x4 x5 x6 x7 x8 x9 x10 x11 x12 x13 : Option Value}  {st : List Value} {σ : gS} : wp d pr_269 Q 58 [x0, x1, x2, x3, x4, x5, x6, x7, x8, x9, x10, x11, x12, x13] st σ ↔ wp d pr_269 Q 59 [x0, x1, x2, x3, x4, x5, x6, x7, x8, x9, x10, x11, x12, x13] (.int (2) :: st) σ := w_push (n := 1) rfl
theorem e_269_59 {d : Nat} {Q : Option Value → gS → Prop} {x0 x1 x2 x3 x4 x5 x6 x7 x8 x9 x10 x11 x12 x13 : Option Value} {v0 v1 v2 : Value}  {st : List Value} {σ : gS} : wp d pr_269 Q 59 [x0, x1, x2, x3, x4, x5, x6, x7, x8, x9, x10, x11, x12, x13] (v2 :: v1 :: v0 :: st) σ ↔ st.length ≤ 4 ∧ wc d 163 [v0, v1, v2] σ (fun r τ => wp d pr_269 Q 62 [x0, x1, x2, x3, x4, x5, x6, x7, x8, x9, x10, x11, x12, x13] (r.toList ++ st) τ) := w_callS rfl (by simp) rfl rfl
theorem e_269_62 {d : Nat} {Q : Option Value → gS → Prop} {x0 x1 x2 x3 x4 x5 x6 x7 x8 x9 x10 x11 x12 x13 : Option Value} {x : Int32} {st : List Value} {σ : gS} : wp d pr_269 Q 62 [x0, x1, x2, x3, x4, x5, x6, x7, x8, x9, x10, x11, x12, x13] (.int x :: st) σ ↔ ((x ≠ 0) → wp d pr_269 Q 67 [x0, x1, x2, x3, x4, x5, x6, x7, x8, x9, x10, x11, x12, x13] (st) σ) ∧ (¬ (x ≠ 0) → wp d pr_269 Q 65 [x0, x1, x2, x3, x4, x5, x6, x7, x8, x9, x10, x11, x12, x13] (st) σ) := w_if rfl decide_eq_true_iff
theorem e_269_65 {d : Nat} {Q : Option Value → gS → Prop} {x0 x1 x2 x3 x4 x5 x6 x7 x8 x9 x10 x11 x12 x13 : Option Value}  {st : List Value} {σ : gS} : wp d pr_269 Q 65 [x0, x1, x2, x3, x4, x5, x6, x7, x8, x9, x10, x11, x12, x13] st σ ↔ wp d pr_269 Q 66 [x0, x1, x2, x3, x4, x5, x6, x7, x8, x9, x10, x11, x12, x13] (.int (-1) :: st) σ := w_push (n := 1) rfl
theorem e_269_66 {d : Nat} {Q : Option Value → gS → Prop} {x0 x1 x2 x3 x4 x5 x6 x7 x8 x9 x10 x11 x12 x13 : Option Value} {v : Int32} {σ : gS} : wp d pr_269 Q 66 [x0, x1, x2, x3, x4, x5, x6, x7, x8, x9, x10, x11, x12, x13] [.int v] σ ↔ Q (some (.int v)) σ := w_iret rfl
theorem e_269_67 {d : Nat} {Q : Option Value → gS → Prop} {x0 x1 x2 x3 x4 x5 x6 x7 x8 x9 x10 x11 x12 x13 : Option Value}  {st : List Value} {σ : gS} : wp d pr_269 Q 67 [x0, x1, x2, x3, x4, x5, x6, x7, x8, x9, x10, x11, x12, x13] st σ ↔ wp d pr_269 Q 68 [x0, x1, x2, x3, x4, x5, x6, x7, x8, x9, x10, x11, x12, x13] (.int (0) :: st) σ := w_push (n := 1) rfl
theorem e_269_68 {d : Nat} {Q : Option Value → gS → Prop} {x0 x1 x2 x3 x4 x5 x6 x7 x8 x9 x10 x11 x12 x13 : Option Value} {v : Int32} {st : List Value} {σ : gS} : wp d pr_269 Q 68 [x0, x1, x2, x3, x4, x5, x6, x7, x8, x9, x10, x11, x12, x13] (.int v :: st) σ ↔ gPv x5 = true ∧ wp d pr_269 Q 70 [x0, x1, x2, x3, x4, x5, some (.int v), x7, x8, x9, x10, x11, x12, x13] (st) σ := w_istore (k := 5) (n := 2) rfl (Nat.le_of_ble_eq_true rfl) rfl rfl
theorem e_269_70 {d : Nat} {Q : Option Value → gS → Prop} {x0 x1 x2 x3 x4 x5 x6 x7 x8 x9 x10 x11 x12 x13 : Option Value}  {st : List Value} {σ : gS} : wp d pr_269 Q 70 [x0, x1, x2, x3, x4, x5, x6, x7, x8, x9, x10, x11, x12, x13] st σ ↔ wp d pr_269 Q 71 [x0, x1, x2, x3, x4, x5, x6, x7, x8, x9, x10, x11, x12, x13] (.int (-1) :: st) σ := w_push (n := 1) rfl
theorem e_269_71 {d : Nat} {Q : Option Value → gS → Prop} {x0 x1 x2 x3 x4 x5 x6 x7 x8 x9 x10 x11 x12 x13 : Option Value} {v : Int32} {st : List Value} {σ : gS} : wp d pr_269 Q 71 [x0, x1, x2, x3, x4, x5, x6, x7, x8, x9, x10, x11, x12, x13] (.int v :: st) σ ↔ gPv x6 = true ∧ wp d pr_269 Q 73 [x0, x1, x2, x3, x4, x5, x6, some (.int v), x8, x9, x10, x11, x12, x13] (st) σ := w_istore (k := 6) (n := 2) rfl (Nat.le_of_ble_eq_true rfl) rfl rfl
theorem e_269_73 {d : Nat} {Q : Option Value → gS → Prop} {x0 x1 x2 x3 x4 x5 x6 x7 x8 x9 x10 x11 x12 x13 : Option Value}  {st : List Value} {σ : gS} : wp d pr_269 Q 73 [x0, x1, x2, x3, x4, x5, x6, x7, x8, x9, x10, x11, x12, x13] st σ ↔ wp d pr_269 Q 74 [x0, x1, x2, x3, x4, x5, x6, x7, x8, x9, x10, x11, x12, x13] (.int (0) :: st) σ := w_push (n := 1) rfl
theorem e_269_74 {d : Nat} {Q : Option Value → gS → Prop} {x0 x1 x2 x3 x4 x5 x6 x7 x8 x9 x10 x11 x12 x13 : Option Value} {v : Int32} {st : List Value} {σ : gS} : wp d pr_269 Q 74 [x0, x1, x2, x3, x4, x5, x6, x7, x8, x9, x10, x11, x12, x13] (.int v :: st) σ ↔ gPv x7 = true ∧ wp d pr_269 Q 76 [x0, x1, x2, x3, x4, x5, x6, x7, some (.int v), x9, x10, x11, x12, x13] (st) σ := w_istore (k := 7) (n := 2) rfl (Nat.le_of_ble_eq_true rfl) rfl rfl
theorem e_269_76 {d : Nat} {Q : Option Value → gS → Prop} {x0 x1 x2 x3 x4 x5 x6 x7 x9 x10 x11 x12 x13 : Option Value} {v : Int32} {st : List Value} {σ : gS} : wp d pr_269 Q 76 [x0, x1, x2, x3, x4, x5, x6, x7, some (.int v), x9, x10, x11, x12, x13] st σ ↔ wp d pr_269 Q 78 [x0, x1, x2, x3, x4, x5, x6, x7, some (.int v), x9, x10, x11, x12, x13] (.int v :: st) σ := w_iload (k := 8) (n := 2) rfl rfl
theorem e_269_78 {d : Nat} {Q : Option Value → gS → Prop} {x0 x1 x2 x3 x4 x5 x6 x7 x8 x9 x10 x11 x12 x13 : Option Value}  {st : List Value} {σ : gS} : wp d pr_269 Q 78 [x0, x1, x2, x3, x4, x5, x6, x7, x8, x9, x10, x11, x12, x13] st σ ↔ wp d pr_269 Q 80 [x0, x1, x2, x3, x4, x5, x6, x7, x8, x9, x10, x11, x12, x13] (.int (64) :: st) σ := w_push (n := 2) rfl
theorem e_269_80 {d : Nat} {Q : Option Value → gS → Prop} {x0 x1 x2 x3 x4 x5 x6 x7 x8 x9 x10 x11 x12 x13 : Option Value} {x y : Int32} {st : List Value} {σ : gS} : wp d pr_269 Q 80 [x0, x1, x2, x3, x4, x5, x6, x7, x8, x9, x10, x11, x12, x13] (.int y :: .int x :: st) σ ↔ ((y ≤ x) → wp d pr_269 Q 234 [x0, x1, x2, x3, x4, x5, x6, x7, x8, x9, x10, x11, x12, x13] (st) σ) ∧ (¬ (y ≤ x) → wp d pr_269 Q 83 [x0, x1, x2, x3, x4, x5, x6, x7, x8, x9, x10, x11, x12, x13] (st) σ) := w_icmp rfl decide_eq_true_iff
theorem e_269_83 {d : Nat} {Q : Option Value → gS → Prop} {x0 x1 x2 x3 x4 x5 x6 x7 x9 x10 x11 x12 x13 : Option Value} {v : Int32} {st : List Value} {σ : gS} : wp d pr_269 Q 83 [x0, x1, x2, x3, x4, x5, x6, x7, some (.int v), x9, x10, x11, x12, x13] st σ ↔ wp d pr_269 Q 85 [x0, x1, x2, x3, x4, x5, x6, x7, some (.int v), x9, x10, x11, x12, x13] (.int v :: st) σ := w_iload (k := 8) (n := 2) rfl rfl
theorem e_269_85 {d : Nat} {Q : Option Value → gS → Prop} {x0 x1 x2 x3 x4 x5 x6 x7 x8 x9 x10 x11 x12 x13 : Option Value}  {st : List Value} {σ : gS} : wp d pr_269 Q 85 [x0, x1, x2, x3, x4, x5, x6, x7, x8, x9, x10, x11, x12, x13] st σ ↔ wp d pr_269 Q 87 [x0, x1, x2, x3, x4, x5, x6, x7, x8, x9, x10, x11, x12, x13] (.int (8) :: st) σ := w_push (n := 2) rfl
theorem e_269_87 {d : Nat} {Q : Option Value → gS → Prop} {x0 x1 x2 x3 x4 x5 x6 x7 x8 x9 x10 x11 x12 x13 : Option Value} {x y : Int32} {st : List Value} {σ : gS} : wp d pr_269 Q 87 [x0, x1, x2, x3, x4, x5, x6, x7, x8, x9, x10, x11, x12, x13] (.int y :: .int x :: st) σ ↔ ¬ y = 0 ∧ wp d pr_269 Q 88 [x0, x1, x2, x3, x4, x5, x6, x7, x8, x9, x10, x11, x12, x13] (.int (x - x / y * y) :: st) σ := w_bId (f := fun x y => x - x / y * y) rfl
theorem e_269_88 {d : Nat} {Q : Option Value → gS → Prop} {x0 x1 x2 x3 x4 x5 x6 x7 x8 x9 x10 x11 x12 x13 : Option Value} {v : Int32} {st : List Value} {σ : gS} : wp d pr_269 Q 88 [x0, x1, x2, x3, x4, x5, x6, x7, x8, x9, x10, x11, x12, x13] (.int v :: st) σ ↔ gPv x8 = true ∧ wp d pr_269 Q 90 [x0, x1, x2, x3, x4, x5, x6, x7, x8, some (.int v), x10, x11, x12, x13] (st) σ := w_istore (k := 8) (n := 2) rfl (Nat.le_of_ble_eq_true rfl) rfl rfl
theorem e_269_90 {d : Nat} {Q : Option Value → gS → Prop} {x0 x1 x2 x3 x4 x5 x6 x7 x9 x10 x11 x12 x13 : Option Value} {v : Int32} {st : List Value} {σ : gS} : wp d pr_269 Q 90 [x0, x1, x2, x3, x4, x5, x6, x7, some (.int v), x9, x10, x11, x12, x13] st σ ↔ wp d pr_269 Q 92 [x0, x1, x2, x3, x4, x5, x6, x7, some (.int v), x9, x10, x11, x12, x13] (.int v :: st) σ := w_iload (k := 8) (n := 2) rfl rfl
theorem e_269_92 {d : Nat} {Q : Option Value → gS → Prop} {x0 x1 x2 x3 x4 x5 x6 x7 x8 x9 x10 x11 x12 x13 : Option Value}  {st : List Value} {σ : gS} : wp d pr_269 Q 92 [x0, x1, x2, x3, x4, x5, x6, x7, x8, x9, x10, x11, x12, x13] st σ ↔ wp d pr_269 Q 94 [x0, x1, x2, x3, x4, x5, x6, x7, x8, x9, x10, x11, x12, x13] (.int (8) :: st) σ := w_push (n := 2) rfl
theorem e_269_94 {d : Nat} {Q : Option Value → gS → Prop} {x0 x1 x2 x3 x4 x5 x6 x7 x8 x9 x10 x11 x12 x13 : Option Value} {x y : Int32} {st : List Value} {σ : gS} : wp d pr_269 Q 94 [x0, x1, x2, x3, x4, x5, x6, x7, x8, x9, x10, x11, x12, x13] (.int y :: .int x :: st) σ ↔ ¬ y = 0 ∧ wp d pr_269 Q 95 [x0, x1, x2, x3, x4, x5, x6, x7, x8, x9, x10, x11, x12, x13] (.int (x / y) :: st) σ := w_bId (f := fun x y => x / y) rfl
theorem e_269_95 {d : Nat} {Q : Option Value → gS → Prop} {x0 x1 x2 x3 x4 x5 x6 x7 x8 x9 x10 x11 x12 x13 : Option Value} {v : Int32} {st : List Value} {σ : gS} : wp d pr_269 Q 95 [x0, x1, x2, x3, x4, x5, x6, x7, x8, x9, x10, x11, x12, x13] (.int v :: st) σ ↔ gPv x9 = true ∧ wp d pr_269 Q 97 [x0, x1, x2, x3, x4, x5, x6, x7, x8, x9, some (.int v), x11, x12, x13] (st) σ := w_istore (k := 9) (n := 2) rfl (Nat.le_of_ble_eq_true rfl) rfl rfl
theorem e_269_97 {d : Nat} {Q : Option Value → gS → Prop} {x0 x1 x2 x3 x4 x5 x6 x7 x8 x10 x11 x12 x13 : Option Value} {v : Int32} {st : List Value} {σ : gS} : wp d pr_269 Q 97 [x0, x1, x2, x3, x4, x5, x6, x7, x8, some (.int v), x10, x11, x12, x13] st σ ↔ wp d pr_269 Q 99 [x0, x1, x2, x3, x4, x5, x6, x7, x8, some (.int v), x10, x11, x12, x13] (.int v :: st) σ := w_iload (k := 9) (n := 2) rfl rfl
theorem e_269_99 {d : Nat} {Q : Option Value → gS → Prop} {x0 x1 x2 x3 x4 x5 x6 x7 x8 x9 x11 x12 x13 : Option Value} {v : Int32} {st : List Value} {σ : gS} : wp d pr_269 Q 99 [x0, x1, x2, x3, x4, x5, x6, x7, x8, x9, some (.int v), x11, x12, x13] st σ ↔ wp d pr_269 Q 101 [x0, x1, x2, x3, x4, x5, x6, x7, x8, x9, some (.int v), x11, x12, x13] (.int v :: st) σ := w_iload (k := 10) (n := 2) rfl rfl
theorem e_269_101 {d : Nat} {Q : Option Value → gS → Prop} {x0 x2 x3 x4 x5 x6 x7 x8 x9 x10 x11 x12 x13 : Option Value} {v : Int32} {st : List Value} {σ : gS} : wp d pr_269 Q 101 [x0, some (.int v), x2, x3, x4, x5, x6, x7, x8, x9, x10, x11, x12, x13] st σ ↔ wp d pr_269 Q 102 [x0, some (.int v), x2, x3, x4, x5, x6, x7, x8, x9, x10, x11, x12, x13] (.int v :: st) σ := w_iload (k := 1) (n := 1) rfl rfl
theorem e_269_102 {d : Nat} {Q : Option Value → gS → Prop} {x0 x1 x3 x4 x5 x6 x7 x8 x9 x10 x11 x12 x13 : Option Value} {v : Int32} {st : List Value} {σ : gS} : wp d pr_269 Q 102 [x0, x1, some (.int v), x3, x4, x5, x6, x7, x8, x9, x10, x11, x12, x13] st σ ↔ wp d pr_269 Q 103 [x0, x1, some (.int v), x3, x4, x5, x6, x7, x8, x9, x10, x11, x12, x13] (.int v :: st) σ := w_iload (k := 2) (n := 1) rfl rfl
theorem e_269_103 {d : Nat} {Q : Option Value → gS → Prop} {x0 x1 x2 x3 x4 x5 x6 x7 x8 x9 x10 x11 x12 x13 : Option Value} {v0 v1 v2 v3 : Value}  {st : List Value} {σ : gS} : wp d pr_269 Q 103 [x0, x1, x2, x3, x4, x5, x6, x7, x8, x9, x10, x11, x12, x13] (v3 :: v2 :: v1 :: v0 :: st) σ ↔ st.length ≤ 4 ∧ wc d 178 [v0, v1, v2, v3] σ (fun r τ => wp d pr_269 Q 106 [x0, x1, x2, x3, x4, x5, x6, x7, x8, x9, x10, x11, x12, x13] (r.toList ++ st) τ) := w_callS rfl (by simp) rfl rfl
theorem e_269_106 {d : Nat} {Q : Option Value → gS → Prop} {x0 x1 x2 x3 x4 x5 x6 x7 x8 x9 x10 x11 x12 x13 : Option Value} {x : Int32} {st : List Value} {σ : gS} : wp d pr_269 Q 106 [x0, x1, x2, x3, x4, x5, x6, x7, x8, x9, x10, x11, x12, x13] (.int x :: st) σ ↔ ((x = 0) → wp d pr_269 Q 228 [x0, x1, x2, x3, x4, x5, x6, x7, x8, x9, x10, x11, x12, x13] (st) σ) ∧ (¬ (x = 0) → wp d pr_269 Q 109 [x0, x1, x2, x3, x4, x5, x6, x7, x8, x9, x10, x11, x12, x13] (st) σ) := w_if rfl decide_eq_true_iff
theorem e_269_109 {d : Nat} {Q : Option Value → gS → Prop} {x1 x2 x3 x4 x5 x6 x7 x8 x9 x10 x11 x12 x13 : Option Value} {v : Nat} {st : List Value} {σ : gS} : wp d pr_269 Q 109 [some (.ref v), x1, x2, x3, x4, x5, x6, x7, x8, x9, x10, x11, x12, x13] st σ ↔ wp d pr_269 Q 110 [some (.ref v), x1, x2, x3, x4, x5, x6, x7, x8, x9, x10, x11, x12, x13] (.ref v :: st) σ := w_aload (k := 0) (n := 1) rfl rfl
set_option maxRecDepth 100000 in
theorem e_269_110 {d : Nat} {Q : Option Value → gS → Prop} {x0 x1 x2 x3 x4 x5 x6 x7 x8 x10 x11 x12 x13 : Option Value} {v : Int32} {st : List Value} {σ : gS} : wp d pr_269 Q 110 [x0, x1, x2, x3, x4, x5, x6, x7, x8, some (.int v), x10, x11, x12, x13] st σ ↔ wp d pr_269 Q 112 [x0, x1, x2, x3, x4, x5, x6, x7, x8, some (.int v), x10, x11, x12, x13] (.int v :: st) σ := w_iload (k := 9) (n := 2) rfl rfl
set_option maxRecDepth 100000 in
theorem e_269_112 {d : Nat} {Q : Option Value → gS → Prop} {x0 x1 x2 x3 x4 x5 x6 x7 x8 x9 x11 x12 x13 : Option Value} {v : Int32} {st : List Value} {σ : gS} : wp d pr_269 Q 112 [x0, x1, x2, x3, x4, x5, x6, x7, x8, x9, some (.int v), x11, x12, x13] st σ ↔ wp d pr_269 Q 114 [x0, x1, x2, x3, x4, x5, x6, x7, x8, x9, some (.int v), x11, x12, x13] (.int v :: st) σ := w_iload (k := 10) (n := 2) rfl rfl
set_option maxRecDepth 100000 in
theorem e_269_114 {d : Nat} {Q : Option Value → gS → Prop} {x0 x2 x3 x4 x5 x6 x7 x8 x9 x10 x11 x12 x13 : Option Value} {v : Int32} {st : List Value} {σ : gS} : wp d pr_269 Q 114 [x0, some (.int v), x2, x3, x4, x5, x6, x7, x8, x9, x10, x11, x12, x13] st σ ↔ wp d pr_269 Q 115 [x0, some (.int v), x2, x3, x4, x5, x6, x7, x8, x9, x10, x11, x12, x13] (.int v :: st) σ := w_iload (k := 1) (n := 1) rfl rfl
set_option maxRecDepth 100000 in
theorem e_269_115 {d : Nat} {Q : Option Value → gS → Prop} {x0 x1 x3 x4 x5 x6 x7 x8 x9 x10 x11 x12 x13 : Option Value} {v : Int32} {st : List Value} {σ : gS} : wp d pr_269 Q 115 [x0, x1, some (.int v), x3, x4, x5, x6, x7, x8, x9, x10, x11, x12, x13] st σ ↔ wp d pr_269 Q 116 [x0, x1, some (.int v), x3, x4, x5, x6, x7, x8, x9, x10, x11, x12, x13] (.int v :: st) σ := w_iload (k := 2) (n := 1) rfl rfl
set_option maxRecDepth 100000 in
theorem e_269_116 {d : Nat} {Q : Option Value → gS → Prop} {x0 x1 x2 x3 x4 x5 x6 x7 x8 x9 x10 x11 x12 x13 : Option Value} {v0 v1 v2 v3 : Value} {a : Nat}  {st : List Value} {σ : gS} : wp d pr_269 Q 116 [x0, x1, x2, x3, x4, x5, x6, x7, x8, x9, x10, x11, x12, x13] (v3 :: v2 :: v1 :: v0 :: .ref a :: st) σ ↔ (gK σ a = 13 ∧ st.length ≤ 4) ∧ wc d 179 [.ref a, v0, v1, v2, v3] σ (fun r τ => wp d pr_269 Q 119 [x0, x1, x2, x3, x4, x5, x6, x7, x8, x9, x10, x11, x12, x13] (r.toList ++ st) τ) := w_callV rfl (by simp) rfl rfl
set_option maxRecDepth 100000 in
theorem e_269_119 {d : Nat} {Q : Option Value → gS → Prop} {x0 x1 x2 x3 x4 x5 x6 x7 x8 x9 x10 x11 x12 x13 : Option Value} {x : Int32} {st : List Value} {σ : gS} : wp d pr_269 Q 119 [x0, x1, x2, x3, x4, x5, x6, x7, x8, x9, x10, x11, x12, x13] (.int x :: st) σ ↔ ((x ≠ 0) → wp d pr_269 Q 125 [x0, x1, x2, x3, x4, x5, x6, x7, x8, x9, x10, x11, x12, x13] (st) σ) ∧ (¬ (x ≠ 0) → wp d pr_269 Q 122 [x0, x1, x2, x3, x4, x5, x6, x7, x8, x9, x10, x11, x12, x13] (st) σ) := w_if rfl decide_eq_true_iff
set_option maxRecDepth 100000 in
theorem e_269_122 {d : Nat} {Q : Option Value → gS → Prop} {x0 x1 x2 x3 x4 x5 x6 x7 x8 x9 x10 x11 x12 x13 : Option Value}  {st : List Value} {σ : gS} : wp d pr_269 Q 122 [x0, x1, x2, x3, x4, x5, x6, x7, x8, x9, x10, x11, x12, x13] st σ ↔ wp d pr_269 Q 228 [x0, x1, x2, x3, x4, x5, x6, x7, x8, x9, x10, x11, x12, x13] (st) σ := w_goto rfl
set_option maxRecDepth 100000 in
theorem e_269_125 {d : Nat} {Q : Option Value → gS → Prop} {x0 x1 x2 x3 x4 x5 x6 x7 x8 x9 x10 x11 x12 x13 : Option Value}  {st : List Value} {σ : gS} : wp d pr_269 Q 125 [x0, x1, x2, x3, x4, x5, x6, x7, x8, x9, x10, x11, x12, x13] st σ ↔ wp d pr_269 Q 126 [x0, x1, x2, x3, x4, x5, x6, x7, x8, x9, x10, x11, x12, x13] (.int (1) :: st) σ := w_push (n := 1) rfl
set_option maxRecDepth 100000 in
theorem e_269_126 {d : Nat} {Q : Option Value → gS → Prop} {x0 x1 x2 x3 x4 x5 x6 x7 x8 x9 x10 x11 x12 x13 : Option Value} {v : Int32} {st : List Value} {σ : gS} : wp d pr_269 Q 126 [x0, x1, x2, x3, x4, x5, x6, x7, x8, x9, x10, x11, x12, x13] (.int v :: st) σ ↔ gPv x10 = true ∧ wp d pr_269 Q 128 [x0, x1, x2, x3, x4, x5, x6, x7, x8, x9, x10, some (.int v), x12, x13] (st) σ := w_istore (k := 10) (n := 2) rfl (Nat.le_of_ble_eq_true rfl) rfl rfl
set_option maxRecDepth 100000 in
theorem e_269_128 {d : Nat} {Q : Option Value → gS → Prop} {x0 x1 x2 x3 x4 x5 x6 x7 x8 x9 x10 x11 x12 x13 : Option Value}  {st : List Value} {σ : gS} : wp d pr_269 Q 128 [x0, x1, x2, x3, x4, x5, x6, x7, x8, x9, x10, x11, x12, x13] st σ ↔ wp d pr_269 Q 129 [x0, x1, x2, x3, x4, x5, x6, x7, x8, x9, x10, x11, x12, x13] (.int (0) :: st) σ := w_push (n := 1) rfl
set_option maxRecDepth 100000 in
theorem e_269_129 {d : Nat} {Q : Option Value → gS → Prop} {x0 x1 x2 x3 x4 x5 x6 x7 x8 x9 x10 x11 x12 x13 : Option Value} {v : Int32} {st : List Value} {σ : gS} : wp d pr_269 Q 129 [x0, x1, x2, x3, x4, x5, x6, x7, x8, x9, x10, x11, x12, x13] (.int v :: st) σ ↔ gPv x11 = true ∧ wp d pr_269 Q 131 [x0, x1, x2, x3, x4, x5, x6, x7, x8, x9, x10, x11, some (.int v), x13] (st) σ := w_istore (k := 11) (n := 2) rfl (Nat.le_of_ble_eq_true rfl) rfl rfl
set_option maxRecDepth 100000 in
theorem e_269_131 {d : Nat} {Q : Option Value → gS → Prop} {x0 x1 x2 x3 x4 x5 x6 x7 x8 x9 x10 x11 x13 : Option Value} {v : Int32} {st : List Value} {σ : gS} : wp d pr_269 Q 131 [x0, x1, x2, x3, x4, x5, x6, x7, x8, x9, x10, x11, some (.int v), x13] st σ ↔ wp d pr_269 Q 133 [x0, x1, x2, x3, x4, x5, x6, x7, x8, x9, x10, x11, some (.int v), x13] (.int v :: st) σ := w_iload (k := 12) (n := 2) rfl rfl
set_option maxRecDepth 100000 in
theorem e_269_133 {d : Nat} {Q : Option Value → gS → Prop} {x1 x2 x3 x4 x5 x6 x7 x8 x9 x10 x11 x12 x13 : Option Value} {v : Nat} {st : List Value} {σ : gS} : wp d pr_269 Q 133 [some (.ref v), x1, x2, x3, x4, x5, x6, x7, x8, x9, x10, x11, x12, x13] st σ ↔ wp d pr_269 Q 134 [some (.ref v), x1, x2, x3, x4, x5, x6, x7, x8, x9, x10, x11, x12, x13] (.ref v :: st) σ := w_aload (k := 0) (n := 1) rfl rfl
set_option maxRecDepth 100000 in
theorem e_269_134 {d : Nat} {Q : Option Value → gS → Prop} {x0 x1 x2 x3 x4 x5 x6 x7 x8 x9 x10 x11 x12 x13 : Option Value} {a : Nat}  {st : List Value} {σ : gS} : wp d pr_269 Q 134 [x0, x1, x2, x3, x4, x5, x6, x7, x8, x9, x10, x11, x12, x13] (.ref a :: st) σ ↔ (gK σ a = 13 ∧ st.length ≤ 4) ∧ wc d 171 [.ref a] σ (fun r τ => wp d pr_269 Q 137 [x0, x1, x2, x3, x4, x5, x6, x7, x8, x9, x10, x11, x12, x13] (r.toList ++ st) τ) := w_callV rfl (by simp) rfl rfl
set_option maxRecDepth 100000 in
theorem e_269_137 {d : Nat} {Q : Option Value → gS → Prop} {x0 x1 x2 x3 x4 x5 x6 x7 x8 x9 x10 x11 x12 x13 : Option Value} {x y : Int32} {st : List Value} {σ : gS} : wp d pr_269 Q 137 [x0, x1, x2, x3, x4, x5, x6, x7, x8, x9, x10, x11, x12, x13] (.int y :: .int x :: st) σ ↔ ((y ≤ x) → wp d pr_269 Q 202 [x0, x1, x2, x3, x4, x5, x6, x7, x8, x9, x10, x11, x12, x13] (st) σ) ∧ (¬ (y ≤ x) → wp d pr_269 Q 140 [x0, x1, x2, x3, x4, x5, x6, x7, x8, x9, x10, x11, x12, x13] (st) σ) := w_icmp rfl decide_eq_true_iff
set_option maxRecDepth 100000 in
theorem e_269_140 {d : Nat} {Q : Option Value → gS → Prop} {x0 x1 x2 x3 x4 x5 x6 x7 x8 x9 x10 x12 x13 : Option Value} {v : Int32} {st : List Value} {σ : gS} : wp d pr_269 Q 140 [x0, x1, x2, x3, x4, x5, x6, x7, x8, x9, x10, some (.int v), x12, x13] st σ ↔ wp d pr_269 Q 142 [x0, x1, x2, x3, x4, x5, x6, x7, x8, x9, x10, some (.int v), x12, x13] (.int v :: st) σ := w_iload (k := 11) (n := 2) rfl rfl
set_option maxRecDepth 100000 in
theorem e_269_142 {d : Nat} {Q : Option Value → gS → Prop} {x0 x1 x2 x3 x4 x5 x6 x7 x8 x9 x10 x11 x12 x13 : Option Value} {x : Int32} {st : List Value} {σ : gS} : wp d pr_269 Q 142 [x0, x1, x2, x3, x4, x5, x6, x7, x8, x9, x10, x11, x12, x13] (.int x :: st) σ ↔ ((x = 0) → wp d pr_269 Q 202 [x0, x1, x2, x3, x4, x5, x6, x7, x8, x9, x10, x11, x12, x13] (st) σ) ∧ (¬ (x = 0) → wp d pr_269 Q 145 [x0, x1, x2, x3, x4, x5, x6, x7, x8, x9, x10, x11, x12, x13] (st) σ) := w_if rfl decide_eq_true_iff
set_option maxRecDepth 100000 in
theorem e_269_145 {d : Nat} {Q : Option Value → gS → Prop} {x1 x2 x3 x4 x5 x6 x7 x8 x9 x10 x11 x12 x13 : Option Value} {v : Nat} {st : List Value} {σ : gS} : wp d pr_269 Q 145 [some (.ref v), x1, x2, x3, x4, x5, x6, x7, x8, x9, x10, x11, x12, x13] st σ ↔ wp d pr_269 Q 146 [some (.ref v), x1, x2, x3, x4, x5, x6, x7, x8, x9, x10, x11, x12, x13] (.ref v :: st) σ := w_aload (k := 0) (n := 1) rfl rfl
set_option maxRecDepth 100000 in
theorem e_269_146 {d : Nat} {Q : Option Value → gS → Prop} {x0 x1 x2 x3 x4 x5 x6 x7 x8 x10 x11 x12 x13 : Option Value} {v : Int32} {st : List Value} {σ : gS} : wp d pr_269 Q 146 [x0, x1, x2, x3, x4, x5, x6, x7, x8, some (.int v), x10, x11, x12, x13] st σ ↔ wp d pr_269 Q 148 [x0, x1, x2, x3, x4, x5, x6, x7, x8, some (.int v), x10, x11, x12, x13] (.int v :: st) σ := w_iload (k := 9) (n := 2) rfl rfl
set_option maxRecDepth 100000 in
theorem e_269_148 {d : Nat} {Q : Option Value → gS → Prop} {x0 x1 x2 x3 x4 x5 x6 x7 x8 x9 x11 x12 x13 : Option Value} {v : Int32} {st : List Value} {σ : gS} : wp d pr_269 Q 148 [x0, x1, x2, x3, x4, x5, x6, x7, x8, x9, some (.int v), x11, x12, x13] st σ ↔ wp d pr_269 Q 150 [x0, x1, x2, x3, x4, x5, x6, x7, x8, x9, some (.int v), x11, x12, x13] (.int v :: st) σ := w_iload (k := 10) (n := 2) rfl rfl
set_option maxRecDepth 100000 in
theorem e_269_150 {d : Nat} {Q : Option Value → gS → Prop} {x0 x2 x3 x4 x5 x6 x7 x8 x9 x10 x11 x12 x13 : Option Value} {v : Int32} {st : List Value} {σ : gS} : wp d pr_269 Q 150 [x0, some (.int v), x2, x3, x4, x5, x6, x7, x8, x9, x10, x11, x12, x13] st σ ↔ wp d pr_269 Q 151 [x0, some (.int v), x2, x3, x4, x5, x6, x7, x8, x9, x10, x11, x12, x13] (.int v :: st) σ := w_iload (k := 1) (n := 1) rfl rfl
set_option maxRecDepth 100000 in
theorem e_269_151 {d : Nat} {Q : Option Value → gS → Prop} {x0 x1 x3 x4 x5 x6 x7 x8 x9 x10 x11 x12 x13 : Option Value} {v : Int32} {st : List Value} {σ : gS} : wp d pr_269 Q 151 [x0, x1, some (.int v), x3, x4, x5, x6, x7, x8, x9, x10, x11, x12, x13] st σ ↔ wp d pr_269 Q 152 [x0, x1, some (.int v), x3, x4, x5, x6, x7, x8, x9, x10, x11, x12, x13] (.int v :: st) σ := w_iload (k := 2) (n := 1) rfl rfl
set_option maxRecDepth 100000 in
theorem e_269_152 {d : Nat} {Q : Option Value → gS → Prop} {x0 x1 x2 x3 x4 x5 x6 x7 x8 x9 x10 x11 x13 : Option Value} {v : Int32} {st : List Value} {σ : gS} : wp d pr_269 Q 152 [x0, x1, x2, x3, x4, x5, x6, x7, x8, x9, x10, x11, some (.int v), x13] st σ ↔ wp d pr_269 Q 154 [x0, x1, x2, x3, x4, x5, x6, x7, x8, x9, x10, x11, some (.int v), x13] (.int v :: st) σ := w_iload (k := 12) (n := 2) rfl rfl
set_option maxRecDepth 100000 in
theorem e_269_154 {d : Nat} {Q : Option Value → gS → Prop} {x0 x1 x2 x3 x4 x5 x6 x7 x8 x9 x10 x11 x12 x13 : Option Value} {v0 v1 v2 v3 v4 : Value} {a : Nat}  {st : List Value} {σ : gS} : wp d pr_269 Q 154 [x0, x1, x2, x3, x4, x5, x6, x7, x8, x9, x10, x11, x12, x13] (v4 :: v3 :: v2 :: v1 :: v0 :: .ref a :: st) σ ↔ (gK σ a = 13 ∧ st.length ≤ 4) ∧ wc d 230 [.ref a, v0, v1, v2, v3, v4] σ (fun r τ => wp d pr_269 Q 157 [x0, x1, x2, x3, x4, x5, x6, x7, x8, x9, x10, x11, x12, x13] (r.toList ++ st) τ) := w_callV rfl (by simp) rfl rfl
set_option maxRecDepth 100000 in
theorem e_269_157 {d : Nat} {Q : Option Value → gS → Prop} {x0 x1 x2 x3 x4 x5 x6 x7 x8 x9 x10 x11 x12 x13 : Option Value} {v : Int32} {st : List Value} {σ : gS} : wp d pr_269 Q 157 [x0, x1, x2, x3, x4, x5, x6, x7, x8, x9, x10, x11, x12, x13] (.int v :: st) σ ↔ gPv x12 = true ∧ wp d pr_269 Q 159 [x0, x1, x2, x3, x4, x5, x6, x7, x8, x9, x10, x11, x12, some (.int v)] (st) σ := w_istore (k := 12) (n := 2) rfl (Nat.le_of_ble_eq_true rfl) rfl rfl
set_option maxRecDepth 100000 in
theorem e_269_159 {d : Nat} {Q : Option Value → gS → Prop} {x0 x1 x2 x4 x5 x6 x7 x8 x9 x10 x11 x12 x13 : Option Value} {v : Int32} {st : List Value} {σ : gS} : wp d pr_269 Q 159 [x0, x1, x2, some (.int v), x4, x5, x6, x7, x8, x9, x10, x11, x12, x13] st σ ↔ wp d pr_269 Q 160 [x0, x1, x2, some (.int v), x4, x5, x6, x7, x8, x9, x10, x11, x12, x13] (.int v :: st) σ := w_iload (k := 3) (n := 1) rfl rfl
set_option maxRecDepth 100000 in
theorem e_269_160 {d : Nat} {Q : Option Value → gS → Prop} {x0 x1 x2 x3 x4 x5 x6 x7 x8 x9 x10 x11 x13 : Option Value} {v : Int32} {st : List Value} {σ : gS} : wp d pr_269 Q 160 [x0, x1, x2, x3, x4, x5, x6, x7, x8, x9, x10, x11, some (.int v), x13] st σ ↔ wp d pr_269 Q 162 [x0, x1, x2, x3, x4, x5, x6, x7, x8, x9, x10, x11, some (.int v), x13] (.int v :: st) σ := w_iload (k := 12) (n := 2) rfl rfl
set_option maxRecDepth 100000 in
theorem e_269_162 {d : Nat} {Q : Option Value → gS → Prop} {x0 x1 x2 x3 x4 x5 x6 x7 x8 x9 x10 x11 x12 x13 : Option Value} {v0 v1 : Value}  {st : List Value} {σ : gS} : wp d pr_269 Q 162 [x0, x1, x2, x3, x4, x5, x6, x7, x8, x9, x10, x11, x12, x13] (v1 :: v0 :: st) σ ↔ st.length ≤ 4 ∧ wc d 166 [v0, v1] σ (fun r τ => wp d pr_269 Q 165 [x0, x1, x2, x3, x4, x5, x6, x7, x8, x9, x10, x11, x12, x13] (r.toList ++ st) τ) := w_callS rfl (by simp) rfl rfl
set_option maxRecDepth 100000 in
theorem e_269_165 {d : Nat} {Q : Option Value → gS → Prop} {x0 x1 x2 x3 x4 x5 x6 x7 x8 x9 x10 x11 x12 x13 : Option Value} {x : Int32} {st : List Value} {σ : gS} : wp d pr_269 Q 165 [x0, x1, x2, x3, x4, x5, x6, x7, x8, x9, x10, x11, x12, x13] (.int x :: st) σ ↔ ((x = 0) → wp d pr_269 Q 174 [x0, x1, x2, x3, x4, x5, x6, x7, x8, x9, x10, x11, x12, x13] (st) σ) ∧ (¬ (x = 0) → wp d pr_269 Q 168 [x0, x1, x2, x3, x4, x5, x6, x7, x8, x9, x10, x11, x12, x13] (st) σ) := w_if rfl decide_eq_true_iff
set_option maxRecDepth 100000 in
theorem e_269_168 {d : Nat} {Q : Option Value → gS → Prop} {x0 x1 x2 x3 x4 x5 x6 x7 x8 x9 x10 x11 x12 : Option Value} {v : Int32} {st : List Value} {σ : gS} : wp d pr_269 Q 168 [x0, x1, x2, x3, x4, x5, x6, x7, x8, x9, x10, x11, x12, some (.int v)] st σ ↔ wp d pr_269 Q 170 [x0, x1, x2, x3, x4, x5, x6, x7, x8, x9, x10, x11, x12, some (.int v)] (.int v :: st) σ := w_iload (k := 13) (n := 2) rfl rfl
set_option maxRecDepth 100000 in
theorem e_269_170 {d : Nat} {Q : Option Value → gS → Prop} {x0 x1 x2 x3 x4 x5 x6 x7 x8 x9 x10 x11 x12 x13 : Option Value}  {st : List Value} {σ : gS} : wp d pr_269 Q 170 [x0, x1, x2, x3, x4, x5, x6, x7, x8, x9, x10, x11, x12, x13] st σ ↔ wp d pr_269 Q 171 [x0, x1, x2, x3, x4, x5, x6, x7, x8, x9, x10, x11, x12, x13] (.int (1) :: st) σ := w_push (n := 1) rfl
set_option maxRecDepth 100000 in
theorem e_269_171 {d : Nat} {Q : Option Value → gS → Prop} {x0 x1 x2 x3 x4 x5 x6 x7 x8 x9 x10 x11 x12 x13 : Option Value} {x y : Int32} {st : List Value} {σ : gS} : wp d pr_269 Q 171 [x0, x1, x2, x3, x4, x5, x6, x7, x8, x9, x10, x11, x12, x13] (.int y :: .int x :: st) σ ↔ ((x ≠ y) → wp d pr_269 Q 193 [x0, x1, x2, x3, x4, x5, x6, x7, x8, x9, x10, x11, x12, x13] (st) σ) ∧ (¬ (x ≠ y) → wp d pr_269 Q 174 [x0, x1, x2, x3, x4, x5, x6, x7, x8, x9, x10, x11, x12, x13] (st) σ) := w_icmp rfl decide_eq_true_iff
set_option maxRecDepth 100000 in
theorem e_269_174 {d : Nat} {Q : Option Value → gS → Prop} {x0 x1 x2 x3 x5 x6 x7 x8 x9 x10 x11 x12 x13 : Option Value} {v : Int32} {st : List Value} {σ : gS} : wp d pr_269 Q 174 [x0, x1, x2, x3, some (.int v), x5, x6, x7, x8, x9, x10, x11, x12, x13] st σ ↔ wp d pr_269 Q 176 [x0, x1, x2, x3, some (.int v), x5, x6, x7, x8, x9, x10, x11, x12, x13] (.int v :: st) σ := w_iload (k := 4) (n := 2) rfl rfl
set_option maxRecDepth 100000 in
theorem e_269_176 {d : Nat} {Q : Option Value → gS → Prop} {x0 x1 x2 x3 x4 x5 x6 x7 x8 x9 x10 x11 x13 : Option Value} {v : Int32} {st : List Value} {σ : gS} : wp d pr_269 Q 176 [x0, x1, x2, x3, x4, x5, x6, x7, x8, x9, x10, x11, some (.int v), x13] st σ ↔ wp d pr_269 Q 178 [x0, x1, x2, x3, x4, x5, x6, x7, x8, x9, x10, x11, some (.int v), x13] (.int v :: st) σ := w_iload (k := 12) (n := 2) rfl rfl
set_option maxRecDepth 100000 in
theorem e_269_178 {d : Nat} {Q : Option Value → gS → Prop} {x0 x1 x2 x3 x4 x5 x6 x7 x8 x9 x10 x11 x12 x13 : Option Value} {v0 v1 : Value}  {st : List Value} {σ : gS} : wp d pr_269 Q 178 [x0, x1, x2, x3, x4, x5, x6, x7, x8, x9, x10, x11, x12, x13] (v1 :: v0 :: st) σ ↔ st.length ≤ 4 ∧ wc d 166 [v0, v1] σ (fun r τ => wp d pr_269 Q 181 [x0, x1, x2, x3, x4, x5, x6, x7, x8, x9, x10, x11, x12, x13] (r.toList ++ st) τ) := w_callS rfl (by simp) rfl rfl
set_option maxRecDepth 100000 in
theorem e_269_181 {d : Nat} {Q : Option Value → gS → Prop} {x0 x1 x2 x3 x4 x5 x6 x7 x8 x9 x10 x11 x12 x13 : Option Value} {x : Int32} {st : List Value} {σ : gS} : wp d pr_269 Q 181 [x0, x1, x2, x3, x4, x5, x6, x7, x8, x9, x10, x11, x12, x13] (.int x :: st) σ ↔ ((x = 0) → wp d pr_269 Q 189 [x0, x1, x2, x3, x4, x5, x6, x7, x8, x9, x10, x11, x12, x13] (st) σ) ∧ (¬ (x = 0) → wp d pr_269 Q 184 [x0, x1, x2, x3, x4, x5, x6, x7, x8, x9, x10, x11, x12, x13] (st) σ) := w_if rfl decide_eq_true_iff
set_option maxRecDepth 100000 in
theorem e_269_184 {d : Nat} {Q : Option Value → gS → Prop} {x0 x1 x2 x3 x4 x5 x6 x7 x8 x9 x10 x11 x12 : Option Value} {v : Int32} {st : List Value} {σ : gS} : wp d pr_269 Q 184 [x0, x1, x2, x3, x4, x5, x6, x7, x8, x9, x10, x11, x12, some (.int v)] st σ ↔ wp d pr_269 Q 186 [x0, x1, x2, x3, x4, x5, x6, x7, x8, x9, x10, x11, x12, some (.int v)] (.int v :: st) σ := w_iload (k := 13) (n := 2) rfl rfl
set_option maxRecDepth 100000 in
theorem e_269_186 {d : Nat} {Q : Option Value → gS → Prop} {x0 x1 x2 x3 x4 x5 x6 x7 x8 x9 x10 x11 x12 x13 : Option Value} {x : Int32} {st : List Value} {σ : gS} : wp d pr_269 Q 186 [x0, x1, x2, x3, x4, x5, x6, x7, x8, x9, x10, x11, x12, x13] (.int x :: st) σ ↔ ((x ≠ 0) → wp d pr_269 Q 193 [x0, x1, x2, x3, x4, x5, x6, x7, x8, x9, x10, x11, x12, x13] (st) σ) ∧ (¬ (x ≠ 0) → wp d pr_269 Q 189 [x0, x1, x2, x3, x4, x5, x6, x7, x8, x9, x10, x11, x12, x13] (st) σ) := w_if rfl decide_eq_true_iff
set_option maxRecDepth 100000 in
theorem e_269_189 {d : Nat} {Q : Option Value → gS → Prop} {x0 x1 x2 x3 x4 x5 x6 x7 x8 x9 x10 x11 x12 x13 : Option Value}  {st : List Value} {σ : gS} : wp d pr_269 Q 189 [x0, x1, x2, x3, x4, x5, x6, x7, x8, x9, x10, x11, x12, x13] st σ ↔ wp d pr_269 Q 190 [x0, x1, x2, x3, x4, x5, x6, x7, x8, x9, x10, x11, x12, x13] (.int (1) :: st) σ := w_push (n := 1) rfl
set_option maxRecDepth 100000 in
theorem e_269_190 {d : Nat} {Q : Option Value → gS → Prop} {x0 x1 x2 x3 x4 x5 x6 x7 x8 x9 x10 x11 x12 x13 : Option Value}  {st : List Value} {σ : gS} : wp d pr_269 Q 190 [x0, x1, x2, x3, x4, x5, x6, x7, x8, x9, x10, x11, x12, x13] st σ ↔ wp d pr_269 Q 194 [x0, x1, x2, x3, x4, x5, x6, x7, x8, x9, x10, x11, x12, x13] (st) σ := w_goto rfl
set_option maxRecDepth 100000 in
theorem e_269_193 {d : Nat} {Q : Option Value → gS → Prop} {x0 x1 x2 x3 x4 x5 x6 x7 x8 x9 x10 x11 x12 x13 : Option Value}  {st : List Value} {σ : gS} : wp d pr_269 Q 193 [x0, x1, x2, x3, x4, x5, x6, x7, x8, x9, x10, x11, x12, x13] st σ ↔ wp d pr_269 Q 194 [x0, x1, x2, x3, x4, x5, x6, x7, x8, x9, x10, x11, x12, x13] (.int (0) :: st) σ := w_push (n := 1) rfl
set_option maxRecDepth 100000 in
theorem e_269_194 {d : Nat} {Q : Option Value → gS → Prop} {x0 x1 x2 x3 x4 x5 x6 x7 x8 x9 x10 x11 x12 x13 : Option Value} {v : Int32} {st : List Value} {σ : gS} : wp d pr_269 Q 194 [x0, x1, x2, x3, x4, x5, x6, x7, x8, x9, x10, x11, x12, x13] (.int v :: st) σ ↔ gPv x10 = true ∧ wp d pr_269 Q 196 [x0, x1, x2, x3, x4, x5, x6, x7, x8, x9, x10, some (.int v), x12, x13] (st) σ := w_istore (k := 10) (n := 2) rfl (Nat.le_of_ble_eq_true rfl) rfl rfl
set_option maxRecDepth 100000 in
theorem e_269_196 {d : Nat} {Q : Option Value → gS → Prop} {x0 x1 x2 x3 x4 x5 x6 x7 x8 x9 x10 x11 x13 : Option Value} {v : Int32} {st : List Value} {σ : gS} : wp d pr_269 Q 196 [x0, x1, x2, x3, x4, x5, x6, x7, x8, x9, x10, x11, some (.int v), x13] st σ ↔ gPv x11 = true ∧ wp d pr_269 Q 199 [x0, x1, x2, x3, x4, x5, x6, x7, x8, x9, x10, x11, some (.int (v + (1))), x13] (st) σ := w_iinc (k := 11) rfl rfl rfl rfl
set_option maxRecDepth 100000 in
theorem e_269_199 {d : Nat} {Q : Option Value → gS → Prop} {x0 x1 x2 x3 x4 x5 x6 x7 x8 x9 x10 x11 x12 x13 : Option Value}  {st : List Value} {σ : gS} : wp d pr_269 Q 199 [x0, x1, x2, x3, x4, x5, x6, x7, x8, x9, x10, x11, x12, x13] st σ ↔ wp d pr_269 Q 131 [x0, x1, x2, x3, x4, x5, x6, x7, x8, x9, x10, x11, x12, x13] (st) σ := w_goto rfl
set_option maxRecDepth 100000 in
theorem e_269_202 {d : Nat} {Q : Option Value → gS → Prop} {x0 x1 x2 x3 x4 x5 x6 x7 x8 x9 x10 x12 x13 : Option Value} {v : Int32} {st : List Value} {σ : gS} : wp d pr_269 Q 202 [x0, x1, x2, x3, x4, x5, x6, x7, x8, x9, x10, some (.int v), x12, x13] st σ ↔ wp d pr_269 Q 204 [x0, x1, x2, x3, x4, x5, x6, x7, x8, x9, x10, some (.int v), x12, x13] (.int v :: st) σ := w_iload (k := 11) (n := 2) rfl rfl
set_option maxRecDepth 100000 in
theorem e_269_204 {d : Nat} {Q : Option Value → gS → Prop} {x0 x1 x2 x3 x4 x5 x6 x7 x8 x9 x10 x11 x12 x13 : Option Value} {x : Int32} {st : List Value} {σ : gS} : wp d pr_269 Q 204 [x0, x1, x2, x3, x4, x5, x6, x7, x8, x9, x10, x11, x12, x13] (.int x :: st) σ ↔ ((x ≠ 0) → wp d pr_269 Q 210 [x0, x1, x2, x3, x4, x5, x6, x7, x8, x9, x10, x11, x12, x13] (st) σ) ∧ (¬ (x ≠ 0) → wp d pr_269 Q 207 [x0, x1, x2, x3, x4, x5, x6, x7, x8, x9, x10, x11, x12, x13] (st) σ) := w_if rfl decide_eq_true_iff
set_option maxRecDepth 100000 in
theorem e_269_207 {d : Nat} {Q : Option Value → gS → Prop} {x0 x1 x2 x3 x4 x5 x6 x7 x8 x9 x10 x11 x12 x13 : Option Value}  {st : List Value} {σ : gS} : wp d pr_269 Q 207 [x0, x1, x2, x3, x4, x5, x6, x7, x8, x9, x10, x11, x12, x13] st σ ↔ wp d pr_269 Q 228 [x0, x1, x2, x3, x4, x5, x6, x7, x8, x9, x10, x11, x12, x13] (st) σ := w_goto rfl
set_option maxRecDepth 100000 in
theorem e_269_210 {d : Nat} {Q : Option Value → gS → Prop} {x0 x1 x2 x3 x4 x5 x6 x8 x9 x10 x11 x12 x13 : Option Value} {v : Int32} {st : List Value} {σ : gS} : wp d pr_269 Q 210 [x0, x1, x2, x3, x4, x5, x6, some (.int v), x8, x9, x10, x11, x12, x13] st σ ↔ wp d pr_269 Q 212 [x0, x1, x2, x3, x4, x5, x6, some (.int v), x8, x9, x10, x11, x12, x13] (.int v :: st) σ := w_iload (k := 7) (n := 2) rfl rfl
set_option maxRecDepth 100000 in
theorem e_269_212 {d : Nat} {Q : Option Value → gS → Prop} {x0 x1 x2 x3 x4 x5 x6 x7 x8 x9 x10 x11 x12 x13 : Option Value}  {st : List Value} {σ : gS} : wp d pr_269 Q 212 [x0, x1, x2, x3, x4, x5, x6, x7, x8, x9, x10, x11, x12, x13] st σ ↔ wp d pr_269 Q 213 [x0, x1, x2, x3, x4, x5, x6, x7, x8, x9, x10, x11, x12, x13] (.int (-1) :: st) σ := w_push (n := 1) rfl
set_option maxRecDepth 100000 in
theorem e_269_213 {d : Nat} {Q : Option Value → gS → Prop} {x0 x1 x2 x3 x4 x5 x6 x7 x8 x9 x10 x11 x12 x13 : Option Value} {x y : Int32} {st : List Value} {σ : gS} : wp d pr_269 Q 213 [x0, x1, x2, x3, x4, x5, x6, x7, x8, x9, x10, x11, x12, x13] (.int y :: .int x :: st) σ ↔ ((x ≠ y) → wp d pr_269 Q 221 [x0, x1, x2, x3, x4, x5, x6, x7, x8, x9, x10, x11, x12, x13] (st) σ) ∧ (¬ (x ≠ y) → wp d pr_269 Q 216 [x0, x1, x2, x3, x4, x5, x6, x7, x8, x9, x10, x11, x12, x13] (st) σ) := w_icmp rfl decide_eq_true_iff
set_option maxRecDepth 100000 in
theorem e_269_216 {d : Nat} {Q : Option Value → gS → Prop} {x0 x1 x2 x3 x4 x5 x6 x7 x9 x10 x11 x12 x13 : Option Value} {v : Int32} {st : List Value} {σ : gS} : wp d pr_269 Q 216 [x0, x1, x2, x3, x4, x5, x6, x7, some (.int v), x9, x10, x11, x12, x13] st σ ↔ wp d pr_269 Q 218 [x0, x1, x2, x3, x4, x5, x6, x7, some (.int v), x9, x10, x11, x12, x13] (.int v :: st) σ := w_iload (k := 8) (n := 2) rfl rfl
set_option maxRecDepth 100000 in
theorem e_269_218 {d : Nat} {Q : Option Value → gS → Prop} {x0 x1 x2 x3 x4 x5 x6 x7 x8 x9 x10 x11 x12 x13 : Option Value}  {st : List Value} {σ : gS} : wp d pr_269 Q 218 [x0, x1, x2, x3, x4, x5, x6, x7, x8, x9, x10, x11, x12, x13] st σ ↔ wp d pr_269 Q 223 [x0, x1, x2, x3, x4, x5, x6, x7, x8, x9, x10, x11, x12, x13] (st) σ := w_goto rfl
set_option maxRecDepth 100000 in
theorem e_269_221 {d : Nat} {Q : Option Value → gS → Prop} {x0 x1 x2 x3 x4 x5 x6 x8 x9 x10 x11 x12 x13 : Option Value} {v : Int32} {st : List Value} {σ : gS} : wp d pr_269 Q 221 [x0, x1, x2, x3, x4, x5, x6, some (.int v), x8, x9, x10, x11, x12, x13] st σ ↔ wp d pr_269 Q 223 [x0, x1, x2, x3, x4, x5, x6, some (.int v), x8, x9, x10, x11, x12, x13] (.int v :: st) σ := w_iload (k := 7) (n := 2) rfl rfl
set_option maxRecDepth 100000 in
theorem e_269_223 {d : Nat} {Q : Option Value → gS → Prop} {x0 x1 x2 x3 x4 x5 x6 x7 x8 x9 x10 x11 x12 x13 : Option Value} {v : Int32} {st : List Value} {σ : gS} : wp d pr_269 Q 223 [x0, x1, x2, x3, x4, x5, x6, x7, x8, x9, x10, x11, x12, x13] (.int v :: st) σ ↔ gPv x6 = true ∧ wp d pr_269 Q 225 [x0, x1, x2, x3, x4, x5, x6, some (.int v), x8, x9, x10, x11, x12, x13] (st) σ := w_istore (k := 6) (n := 2) rfl (Nat.le_of_ble_eq_true rfl) rfl rfl
set_option maxRecDepth 100000 in
theorem e_269_225 {d : Nat} {Q : Option Value → gS → Prop} {x0 x1 x2 x3 x4 x5 x7 x8 x9 x10 x11 x12 x13 : Option Value} {v : Int32} {st : List Value} {σ : gS} : wp d pr_269 Q 225 [x0, x1, x2, x3, x4, x5, some (.int v), x7, x8, x9, x10, x11, x12, x13] st σ ↔ gPv x5 = true ∧ wp d pr_269 Q 228 [x0, x1, x2, x3, x4, x5, some (.int (v + (1))), x7, x8, x9, x10, x11, x12, x13] (st) σ := w_iinc (k := 5) rfl rfl rfl rfl
set_option maxRecDepth 100000 in
theorem e_269_228 {d : Nat} {Q : Option Value → gS → Prop} {x0 x1 x2 x3 x4 x5 x6 x7 x9 x10 x11 x12 x13 : Option Value} {v : Int32} {st : List Value} {σ : gS} : wp d pr_269 Q 228 [x0, x1, x2, x3, x4, x5, x6, x7, some (.int v), x9, x10, x11, x12, x13] st σ ↔ gPv x7 = true ∧ wp d pr_269 Q 231 [x0, x1, x2, x3, x4, x5, x6, x7, some (.int (v + (1))), x9, x10, x11, x12, x13] (st) σ := w_iinc (k := 7) rfl rfl rfl rfl
set_option maxRecDepth 100000 in
theorem e_269_231 {d : Nat} {Q : Option Value → gS → Prop} {x0 x1 x2 x3 x4 x5 x6 x7 x8 x9 x10 x11 x12 x13 : Option Value}  {st : List Value} {σ : gS} : wp d pr_269 Q 231 [x0, x1, x2, x3, x4, x5, x6, x7, x8, x9, x10, x11, x12, x13] st σ ↔ wp d pr_269 Q 76 [x0, x1, x2, x3, x4, x5, x6, x7, x8, x9, x10, x11, x12, x13] (st) σ := w_goto rfl
set_option maxRecDepth 100000 in
theorem e_269_234 {d : Nat} {Q : Option Value → gS → Prop} {x0 x1 x2 x3 x4 x6 x7 x8 x9 x10 x11 x12 x13 : Option Value} {v : Int32} {st : List Value} {σ : gS} : wp d pr_269 Q 234 [x0, x1, x2, x3, x4, some (.int v), x6, x7, x8, x9, x10, x11, x12, x13] st σ ↔ wp d pr_269 Q 236 [x0, x1, x2, x3, x4, some (.int v), x6, x7, x8, x9, x10, x11, x12, x13] (.int v :: st) σ := w_iload (k := 5) (n := 2) rfl rfl
set_option maxRecDepth 100000 in
theorem e_269_236 {d : Nat} {Q : Option Value → gS → Prop} {x0 x1 x2 x3 x4 x5 x6 x7 x8 x9 x10 x11 x12 x13 : Option Value} {x : Int32} {st : List Value} {σ : gS} : wp d pr_269 Q 236 [x0, x1, x2, x3, x4, x5, x6, x7, x8, x9, x10, x11, x12, x13] (.int x :: st) σ ↔ ((x ≠ 0) → wp d pr_269 Q 244 [x0, x1, x2, x3, x4, x5, x6, x7, x8, x9, x10, x11, x12, x13] (st) σ) ∧ (¬ (x ≠ 0) → wp d pr_269 Q 239 [x0, x1, x2, x3, x4, x5, x6, x7, x8, x9, x10, x11, x12, x13] (st) σ) := w_if rfl decide_eq_true_iff
set_option maxRecDepth 100000 in
theorem e_269_239 {d : Nat} {Q : Option Value → gS → Prop} {x0 x1 x2 x3 x4 x5 x7 x8 x9 x10 x11 x12 x13 : Option Value} {v : Int32} {st : List Value} {σ : gS} : wp d pr_269 Q 239 [x0, x1, x2, x3, x4, x5, some (.int v), x7, x8, x9, x10, x11, x12, x13] st σ ↔ wp d pr_269 Q 241 [x0, x1, x2, x3, x4, x5, some (.int v), x7, x8, x9, x10, x11, x12, x13] (.int v :: st) σ := w_iload (k := 6) (n := 2) rfl rfl
set_option maxRecDepth 100000 in
theorem e_269_241 {d : Nat} {Q : Option Value → gS → Prop} {x0 x1 x2 x3 x4 x5 x6 x7 x8 x9 x10 x11 x12 x13 : Option Value}  {st : List Value} {σ : gS} : wp d pr_269 Q 241 [x0, x1, x2, x3, x4, x5, x6, x7, x8, x9, x10, x11, x12, x13] st σ ↔ wp d pr_269 Q 273 [x0, x1, x2, x3, x4, x5, x6, x7, x8, x9, x10, x11, x12, x13] (st) σ := w_goto rfl
set_option maxRecDepth 100000 in
theorem e_269_244 {d : Nat} {Q : Option Value → gS → Prop} {x0 x1 x2 x3 x4 x5 x6 x8 x9 x10 x11 x12 x13 : Option Value} {v : Int32} {st : List Value} {σ : gS} : wp d pr_269 Q 244 [x0, x1, x2, x3, x4, x5, x6, some (.int v), x8, x9, x10, x11, x12, x13] st σ ↔ wp d pr_269 Q 246 [x0, x1, x2, x3, x4, x5, x6, some (.int v), x8, x9, x10, x11, x12, x13] (.int v :: st) σ := w_iload (k := 7) (n := 2) rfl rfl
set_option maxRecDepth 100000 in
theorem e_269_246 {d : Nat} {Q : Option Value → gS → Prop} {x0 x1 x2 x3 x4 x5 x6 x7 x8 x9 x10 x11 x12 x13 : Option Value}  {st : List Value} {σ : gS} : wp d pr_269 Q 246 [x0, x1, x2, x3, x4, x5, x6, x7, x8, x9, x10, x11, x12, x13] st σ ↔ wp d pr_269 Q 247 [x0, x1, x2, x3, x4, x5, x6, x7, x8, x9, x10, x11, x12, x13] (.int (-1) :: st) σ := w_push (n := 1) rfl
set_option maxRecDepth 100000 in
theorem e_269_247 {d : Nat} {Q : Option Value → gS → Prop} {x0 x1 x2 x3 x4 x5 x6 x7 x8 x9 x10 x11 x12 x13 : Option Value} {x y : Int32} {st : List Value} {σ : gS} : wp d pr_269 Q 247 [x0, x1, x2, x3, x4, x5, x6, x7, x8, x9, x10, x11, x12, x13] (.int y :: .int x :: st) σ ↔ ((x ≠ y) → wp d pr_269 Q 254 [x0, x1, x2, x3, x4, x5, x6, x7, x8, x9, x10, x11, x12, x13] (st) σ) ∧ (¬ (x ≠ y) → wp d pr_269 Q 250 [x0, x1, x2, x3, x4, x5, x6, x7, x8, x9, x10, x11, x12, x13] (st) σ) := w_icmp rfl decide_eq_true_iff
set_option maxRecDepth 100000 in
theorem e_269_250 {d : Nat} {Q : Option Value → gS → Prop} {x0 x1 x2 x3 x4 x5 x6 x7 x8 x9 x10 x11 x12 x13 : Option Value}  {st : List Value} {σ : gS} : wp d pr_269 Q 250 [x0, x1, x2, x3, x4, x5, x6, x7, x8, x9, x10, x11, x12, x13] st σ ↔ wp d pr_269 Q 251 [x0, x1, x2, x3, x4, x5, x6, x7, x8, x9, x10, x11, x12, x13] (.int (-1) :: st) σ := w_push (n := 1) rfl
set_option maxRecDepth 100000 in
theorem e_269_251 {d : Nat} {Q : Option Value → gS → Prop} {x0 x1 x2 x3 x4 x5 x6 x7 x8 x9 x10 x11 x12 x13 : Option Value}  {st : List Value} {σ : gS} : wp d pr_269 Q 251 [x0, x1, x2, x3, x4, x5, x6, x7, x8, x9, x10, x11, x12, x13] st σ ↔ wp d pr_269 Q 273 [x0, x1, x2, x3, x4, x5, x6, x7, x8, x9, x10, x11, x12, x13] (st) σ := w_goto rfl
set_option maxRecDepth 100000 in
theorem e_269_254 {d : Nat} {Q : Option Value → gS → Prop} {x0 x1 x2 x3 x4 x6 x7 x8 x9 x10 x11 x12 x13 : Option Value} {v : Int32} {st : List Value} {σ : gS} : wp d pr_269 Q 254 [x0, x1, x2, x3, x4, some (.int v), x6, x7, x8, x9, x10, x11, x12, x13] st σ ↔ wp d pr_269 Q 256 [x0, x1, x2, x3, x4, some (.int v), x6, x7, x8, x9, x10, x11, x12, x13] (.int v :: st) σ := w_iload (k := 5) (n := 2) rfl rfl
set_option maxRecDepth 100000 in
theorem e_269_256 {d : Nat} {Q : Option Value → gS → Prop} {x0 x1 x2 x3 x4 x5 x6 x7 x8 x9 x10 x11 x12 x13 : Option Value}  {st : List Value} {σ : gS} : wp d pr_269 Q 256 [x0, x1, x2, x3, x4, x5, x6, x7, x8, x9, x10, x11, x12, x13] st σ ↔ wp d pr_269 Q 257 [x0, x1, x2, x3, x4, x5, x6, x7, x8, x9, x10, x11, x12, x13] (.int (1) :: st) σ := w_push (n := 1) rfl
set_option maxRecDepth 100000 in
theorem e_269_257 {d : Nat} {Q : Option Value → gS → Prop} {x0 x1 x2 x3 x4 x5 x6 x7 x8 x9 x10 x11 x12 x13 : Option Value} {x y : Int32} {st : List Value} {σ : gS} : wp d pr_269 Q 257 [x0, x1, x2, x3, x4, x5, x6, x7, x8, x9, x10, x11, x12, x13] (.int y :: .int x :: st) σ ↔ ((x ≠ y) → wp d pr_269 Q 268 [x0, x1, x2, x3, x4, x5, x6, x7, x8, x9, x10, x11, x12, x13] (st) σ) ∧ (¬ (x ≠ y) → wp d pr_269 Q 260 [x0, x1, x2, x3, x4, x5, x6, x7, x8, x9, x10, x11, x12, x13] (st) σ) := w_icmp rfl decide_eq_true_iff
set_option maxRecDepth 100000 in
theorem e_269_260 {d : Nat} {Q : Option Value → gS → Prop} {x0 x1 x2 x3 x4 x5 x6 x8 x9 x10 x11 x12 x13 : Option Value} {v : Int32} {st : List Value} {σ : gS} : wp d pr_269 Q 260 [x0, x1, x2, x3, x4, x5, x6, some (.int v), x8, x9, x10, x11, x12, x13] st σ ↔ wp d pr_269 Q 262 [x0, x1, x2, x3, x4, x5, x6, some (.int v), x8, x9, x10, x11, x12, x13] (.int v :: st) σ := w_iload (k := 7) (n := 2) rfl rfl
set_option maxRecDepth 100000 in
theorem e_269_262 {d : Nat} {Q : Option Value → gS → Prop} {x0 x1 x2 x3 x4 x5 x6 x7 x8 x9 x10 x11 x12 x13 : Option Value}  {st : List Value} {σ : gS} : wp d pr_269 Q 262 [x0, x1, x2, x3, x4, x5, x6, x7, x8, x9, x10, x11, x12, x13] st σ ↔ wp d pr_269 Q 264 [x0, x1, x2, x3, x4, x5, x6, x7, x8, x9, x10, x11, x12, x13] (.int (8) :: st) σ := w_push (n := 2) rfl
set_option maxRecDepth 100000 in
theorem e_269_264 {d : Nat} {Q : Option Value → gS → Prop} {x0 x1 x2 x3 x4 x5 x6 x7 x8 x9 x10 x11 x12 x13 : Option Value} {x y : Int32} {st : List Value} {σ : gS} : wp d pr_269 Q 264 [x0, x1, x2, x3, x4, x5, x6, x7, x8, x9, x10, x11, x12, x13] (.int y :: .int x :: st) σ ↔ ¬ y = 0 ∧ wp d pr_269 Q 265 [x0, x1, x2, x3, x4, x5, x6, x7, x8, x9, x10, x11, x12, x13] (.int (x - x / y * y) :: st) σ := w_bId (f := fun x y => x - x / y * y) rfl
set_option maxRecDepth 100000 in
theorem e_269_265 {d : Nat} {Q : Option Value → gS → Prop} {x0 x1 x2 x3 x4 x5 x6 x7 x8 x9 x10 x11 x12 x13 : Option Value}  {st : List Value} {σ : gS} : wp d pr_269 Q 265 [x0, x1, x2, x3, x4, x5, x6, x7, x8, x9, x10, x11, x12, x13] st σ ↔ wp d pr_269 Q 273 [x0, x1, x2, x3, x4, x5, x6, x7, x8, x9, x10, x11, x12, x13] (st) σ := w_goto rfl
set_option maxRecDepth 100000 in
theorem e_269_268 {d : Nat} {Q : Option Value → gS → Prop} {x0 x1 x2 x3 x4 x5 x6 x8 x9 x10 x11 x12 x13 : Option Value} {v : Int32} {st : List Value} {σ : gS} : wp d pr_269 Q 268 [x0, x1, x2, x3, x4, x5, x6, some (.int v), x8, x9, x10, x11, x12, x13] st σ ↔ wp d pr_269 Q 270 [x0, x1, x2, x3, x4, x5, x6, some (.int v), x8, x9, x10, x11, x12, x13] (.int v :: st) σ := w_iload (k := 7) (n := 2) rfl rfl
set_option maxRecDepth 100000 in
theorem e_269_270 {d : Nat} {Q : Option Value → gS → Prop} {x0 x1 x2 x3 x4 x5 x6 x7 x8 x9 x10 x11 x12 x13 : Option Value}  {st : List Value} {σ : gS} : wp d pr_269 Q 270 [x0, x1, x2, x3, x4, x5, x6, x7, x8, x9, x10, x11, x12, x13] st σ ↔ wp d pr_269 Q 272 [x0, x1, x2, x3, x4, x5, x6, x7, x8, x9, x10, x11, x12, x13] (.int (8) :: st) σ := w_push (n := 2) rfl
set_option maxRecDepth 100000 in
theorem e_269_272 {d : Nat} {Q : Option Value → gS → Prop} {x0 x1 x2 x3 x4 x5 x6 x7 x8 x9 x10 x11 x12 x13 : Option Value} {x y : Int32} {st : List Value} {σ : gS} : wp d pr_269 Q 272 [x0, x1, x2, x3, x4, x5, x6, x7, x8, x9, x10, x11, x12, x13] (.int y :: .int x :: st) σ ↔ ¬ y = 0 ∧ wp d pr_269 Q 273 [x0, x1, x2, x3, x4, x5, x6, x7, x8, x9, x10, x11, x12, x13] (.int (x / y) :: st) σ := w_bId (f := fun x y => x / y) rfl
set_option maxRecDepth 100000 in
theorem e_269_273 {d : Nat} {Q : Option Value → gS → Prop} {x0 x1 x2 x3 x4 x5 x6 x7 x8 x9 x10 x11 x12 x13 : Option Value} {v : Int32} {σ : gS} : wp d pr_269 Q 273 [x0, x1, x2, x3, x4, x5, x6, x7, x8, x9, x10, x11, x12, x13] [.int v] σ ↔ Q (some (.int v)) σ := w_iret rfl
theorem c_269 {d : Nat} {Q : Option Value → gS → Prop} {a : Nat} {p0 : Int32} {p1 : Int32} {p2 : Int32} {p3 : Int32} {p4 : Int32} {σ : gS} : wc (d + 1) 269 [.ref a, .int p0, .int p1, .int p2, .int p3, .int p4] σ Q ↔ wp d pr_269 Q 0 [some (.ref a), some (.int p0), some (.int p1), some (.int p2), some (.int p3), some (.int p4), none, none, none, none, none, none, none, none] [] σ := wc_iff (Nat.le_of_ble_eq_true rfl) rfl
theorem e_270_0 {d : Nat} {Q : Option Value → gS → Prop} {x1 : Option Value} {v : Nat} {st : List Value} {σ : gS} : wp d pr_270 Q 0 [some (.ref v), x1] st σ ↔ wp d pr_270 Q 1 [some (.ref v), x1] (.ref v :: st) σ := w_aload (k := 0) (n := 1) rfl rfl
theorem e_270_1 {d : Nat} {Q : Option Value → gS → Prop} {x0 x1 : Option Value}  {st : List Value} {σ : gS} : wp d pr_270 Q 1 [x0, x1] st σ ↔ wp d pr_270 Q 4 [x0, x1] (.long (1103) :: st) σ := w_push (n := 3) rfl
theorem e_270_4 {d : Nat} {Q : Option Value → gS → Prop} {x1 : Option Value} {v : Nat} {st : List Value} {σ : gS} : wp d pr_270 Q 4 [some (.ref v), x1] st σ ↔ wp d pr_270 Q 5 [some (.ref v), x1] (.ref v :: st) σ := w_aload (k := 0) (n := 1) rfl rfl
theorem e_270_5 {d : Nat} {Q : Option Value → gS → Prop} {x0 x1 : Option Value} {a : Nat} {st : List Value} {σ : gS} : wp d pr_270 Q 5 [x0, x1] (.ref a :: st) σ ↔ gK σ a = 13 ∧ wp d pr_270 Q 8 [x0, x1] (.int (gI σ a 49) :: st) σ := w_getI rfl
theorem e_270_8 {d : Nat} {Q : Option Value → gS → Prop} {x0 x1 : Option Value} {x : Int32} {st : List Value} {σ : gS} : wp d pr_270 Q 8 [x0, x1] (.int x :: st) σ ↔ wp d pr_270 Q 9 [x0, x1] (.long x.toInt64 :: st) σ := w_i2l rfl
theorem e_270_9 {d : Nat} {Q : Option Value → gS → Prop} {x0 x1 : Option Value} {x y : Int64} {st : List Value} {σ : gS} : wp d pr_270 Q 9 [x0, x1] (.long y :: .long x :: st) σ ↔ wp d pr_270 Q 10 [x0, x1] (.long (x * y) :: st) σ := w_bJ (f := fun x y => x * y) rfl
theorem e_270_10 {d : Nat} {Q : Option Value → gS → Prop} {x0 x1 : Option Value}  {st : List Value} {σ : gS} : wp d pr_270 Q 10 [x0, x1] st σ ↔ wp d pr_270 Q 13 [x0, x1] (.long (12345) :: st) σ := w_push (n := 3) rfl
theorem e_270_13 {d : Nat} {Q : Option Value → gS → Prop} {x0 x1 : Option Value} {x y : Int64} {st : List Value} {σ : gS} : wp d pr_270 Q 13 [x0, x1] (.long y :: .long x :: st) σ ↔ wp d pr_270 Q 14 [x0, x1] (.long (x + y) :: st) σ := w_bJ (f := fun x y => x + y) rfl
theorem e_270_14 {d : Nat} {Q : Option Value → gS → Prop} {x0 x1 : Option Value}  {st : List Value} {σ : gS} : wp d pr_270 Q 14 [x0, x1] st σ ↔ wp d pr_270 Q 17 [x0, x1] (.long (1000003) :: st) σ := w_push (n := 3) rfl
theorem e_270_17 {d : Nat} {Q : Option Value → gS → Prop} {x0 x1 : Option Value} {x y : Int64} {st : List Value} {σ : gS} : wp d pr_270 Q 17 [x0, x1] (.long y :: .long x :: st) σ ↔ ¬ y = 0 ∧ wp d pr_270 Q 18 [x0, x1] (.long (x - x / y * y) :: st) σ := w_bJd (f := fun x y => x - x / y * y) rfl
theorem e_270_18 {d : Nat} {Q : Option Value → gS → Prop} {x0 x1 : Option Value} {x : Int64} {st : List Value} {σ : gS} : wp d pr_270 Q 18 [x0, x1] (.long x :: st) σ ↔ wp d pr_270 Q 19 [x0, x1] (.int x.toInt32 :: st) σ := w_l2i rfl
theorem e_270_19 {d : Nat} {Q : Option Value → gS → Prop} {x0 x1 : Option Value} {x : Int32} {a : Nat} {st : List Value} {σ : gS} : wp d pr_270 Q 19 [x0, x1] (.int x :: .ref a :: st) σ ↔ gK σ a = 13 ∧ wp d pr_270 Q 22 [x0, x1] (st) (sI σ a 49 x) := w_putI rfl
theorem e_270_22 {d : Nat} {Q : Option Value → gS → Prop} {x1 : Option Value} {v : Nat} {st : List Value} {σ : gS} : wp d pr_270 Q 22 [some (.ref v), x1] st σ ↔ wp d pr_270 Q 23 [some (.ref v), x1] (.ref v :: st) σ := w_aload (k := 0) (n := 1) rfl rfl
theorem e_270_23 {d : Nat} {Q : Option Value → gS → Prop} {x0 x1 : Option Value} {a : Nat} {st : List Value} {σ : gS} : wp d pr_270 Q 23 [x0, x1] (.ref a :: st) σ ↔ gK σ a = 13 ∧ wp d pr_270 Q 26 [x0, x1] (.int (gI σ a 49) :: st) σ := w_getI rfl
theorem e_270_26 {d : Nat} {Q : Option Value → gS → Prop} {x0 : Option Value} {v : Int32} {st : List Value} {σ : gS} : wp d pr_270 Q 26 [x0, some (.int v)] st σ ↔ wp d pr_270 Q 27 [x0, some (.int v)] (.int v :: st) σ := w_iload (k := 1) (n := 1) rfl rfl
theorem e_270_27 {d : Nat} {Q : Option Value → gS → Prop} {x0 x1 : Option Value} {x y : Int32} {st : List Value} {σ : gS} : wp d pr_270 Q 27 [x0, x1] (.int y :: .int x :: st) σ ↔ ¬ y = 0 ∧ wp d pr_270 Q 28 [x0, x1] (.int (x - x / y * y) :: st) σ := w_bId (f := fun x y => x - x / y * y) rfl
theorem e_270_28 {d : Nat} {Q : Option Value → gS → Prop} {x0 x1 : Option Value} {v : Int32} {σ : gS} : wp d pr_270 Q 28 [x0, x1] [.int v] σ ↔ Q (some (.int v)) σ := w_iret rfl
theorem c_270 {d : Nat} {Q : Option Value → gS → Prop} {a : Nat} {p0 : Int32} {σ : gS} : wc (d + 1) 270 [.ref a, .int p0] σ Q ↔ wp d pr_270 Q 0 [some (.ref a), some (.int p0)] [] σ := wc_iff (Nat.le_of_ble_eq_true rfl) rfl
theorem e_271_0 {d : Nat} {Q : Option Value → gS → Prop} {x0 x2 x3 x4 x5 x6 : Option Value} {v : Int32} {st : List Value} {σ : gS} : wp d pr_271 Q 0 [x0, some (.int v), x2, x3, x4, x5, x6] st σ ↔ wp d pr_271 Q 1 [x0, some (.int v), x2, x3, x4, x5, x6] (.int v :: st) σ := w_iload (k := 1) (n := 1) rfl rfl
theorem e_271_1 {d : Nat} {Q : Option Value → gS → Prop} {x0 x1 x2 x3 x4 x5 x6 : Option Value}  {st : List Value} {σ : gS} : wp d pr_271 Q 1 [x0, x1, x2, x3, x4, x5, x6] st σ ↔ wp d pr_271 Q 2 [x0, x1, x2, x3, x4, x5, x6] (.int (0) :: st) σ := w_push (n := 1) rfl
theorem e_271_2 {d : Nat} {Q : Option Value → gS → Prop} {x0 x1 x2 x3 x4 x5 x6 : Option Value}  {st : List Value} {σ : gS} : wp d pr_271 Q 2 [x0, x1, x2, x3, x4, x5, x6] st σ ↔ wp d pr_271 Q 4 [x0, x1, x2, x3, x4, x5, x6] (.int (1000000) :: st) σ := w_push (n := 2) rfl
theorem e_271_4 {d : Nat} {Q : Option Value → gS → Prop} {x0 x1 x2 x3 x4 x5 x6 : Option Value} {v0 v1 v2 : Value}  {st : List Value} {σ : gS} : wp d pr_271 Q 4 [x0, x1, x2, x3, x4, x5, x6] (v2 :: v1 :: v0 :: st) σ ↔ st.length ≤ 4 ∧ wc d 163 [v0, v1, v2] σ (fun r τ => wp d pr_271 Q 7 [x0, x1, x2, x3, x4, x5, x6] (r.toList ++ st) τ) := w_callS rfl (by simp) rfl rfl
theorem e_271_7 {d : Nat} {Q : Option Value → gS → Prop} {x0 x1 x2 x3 x4 x5 x6 : Option Value} {x : Int32} {st : List Value} {σ : gS} : wp d pr_271 Q 7 [x0, x1, x2, x3, x4, x5, x6] (.int x :: st) σ ↔ ((x = 0) → wp d pr_271 Q 20 [x0, x1, x2, x3, x4, x5, x6] (st) σ) ∧ (¬ (x = 0) → wp d pr_271 Q 10 [x0, x1, x2, x3, x4, x5, x6] (st) σ) := w_if rfl decide_eq_true_iff
theorem e_271_10 {d : Nat} {Q : Option Value → gS → Prop} {x0 x1 x3 x4 x5 x6 : Option Value} {v : Int32} {st : List Value} {σ : gS} : wp d pr_271 Q 10 [x0, x1, some (.int v), x3, x4, x5, x6] st σ ↔ wp d pr_271 Q 11 [x0, x1, some (.int v), x3, x4, x5, x6] (.int v :: st) σ := w_iload (k := 2) (n := 1) rfl rfl
theorem e_271_11 {d : Nat} {Q : Option Value → gS → Prop} {x0 x1 x2 x3 x4 x5 x6 : Option Value}  {st : List Value} {σ : gS} : wp d pr_271 Q 11 [x0, x1, x2, x3, x4, x5, x6] st σ ↔ wp d pr_271 Q 12 [x0, x1, x2, x3, x4, x5, x6] (.int (1) :: st) σ := w_push (n := 1) rfl
theorem e_271_12 {d : Nat} {Q : Option Value → gS → Prop} {x0 x1 x2 x3 x4 x5 x6 : Option Value}  {st : List Value} {σ : gS} : wp d pr_271 Q 12 [x0, x1, x2, x3, x4, x5, x6] st σ ↔ wp d pr_271 Q 14 [x0, x1, x2, x3, x4, x5, x6] (.int (40) :: st) σ := w_push (n := 2) rfl
theorem e_271_14 {d : Nat} {Q : Option Value → gS → Prop} {x0 x1 x2 x3 x4 x5 x6 : Option Value} {v0 v1 v2 : Value}  {st : List Value} {σ : gS} : wp d pr_271 Q 14 [x0, x1, x2, x3, x4, x5, x6] (v2 :: v1 :: v0 :: st) σ ↔ st.length ≤ 4 ∧ wc d 163 [v0, v1, v2] σ (fun r τ => wp d pr_271 Q 17 [x0, x1, x2, x3, x4, x5, x6] (r.toList ++ st) τ) := w_callS rfl (by simp) rfl rfl
theorem e_271_17 {d : Nat} {Q : Option Value → gS → Prop} {x0 x1 x2 x3 x4 x5 x6 : Option Value} {x : Int32} {st : List Value} {σ : gS} : wp d pr_271 Q 17 [x0, x1, x2, x3, x4, x5, x6] (.int x :: st) σ ↔ ((x ≠ 0) → wp d pr_271 Q 26 [x0, x1, x2, x3, x4, x5, x6] (st) σ) ∧ (¬ (x ≠ 0) → wp d pr_271 Q 20 [x0, x1, x2, x3, x4, x5, x6] (st) σ) := w_if rfl decide_eq_true_iff
theorem e_271_20 {d : Nat} {Q : Option Value → gS → Prop} {x1 x2 x3 x4 x5 x6 : Option Value} {v : Nat} {st : List Value} {σ : gS} : wp d pr_271 Q 20 [some (.ref v), x1, x2, x3, x4, x5, x6] st σ ↔ wp d pr_271 Q 21 [some (.ref v), x1, x2, x3, x4, x5, x6] (.ref v :: st) σ := w_aload (k := 0) (n := 1) rfl rfl
theorem e_271_21 {d : Nat} {Q : Option Value → gS → Prop} {x0 x1 x2 x3 x4 x5 x6 : Option Value}  {st : List Value} {σ : gS} : wp d pr_271 Q 21 [x0, x1, x2, x3, x4, x5, x6] st σ ↔ wp d pr_271 Q 22 [x0, x1, x2, x3, x4, x5, x6] (.int (-1) :: st) σ := w_push (n := 1) rfl
theorem e_271_22 {d : Nat} {Q : Option Value → gS → Prop} {x0 x1 x2 x3 x4 x5 x6 : Option Value} {v0 : Value} {a : Nat}  {st : List Value} {σ : gS} : wp d pr_271 Q 22 [x0, x1, x2, x3, x4, x5, x6] (v0 :: .ref a :: st) σ ↔ (gK σ a = 13 ∧ st.length ≤ 4) ∧ wc d 164 [.ref a, v0] σ (fun r τ => wp d pr_271 Q 25 [x0, x1, x2, x3, x4, x5, x6] (r.toList ++ st) τ) := w_callV rfl (by simp) rfl rfl
theorem e_271_25 {d : Nat} {Q : Option Value → gS → Prop} {x0 x1 x2 x3 x4 x5 x6 : Option Value} {v : Int32} {σ : gS} : wp d pr_271 Q 25 [x0, x1, x2, x3, x4, x5, x6] [.int v] σ ↔ Q (some (.int v)) σ := w_iret rfl
theorem e_271_26 {d : Nat} {Q : Option Value → gS → Prop} {x1 x2 x3 x4 x5 x6 : Option Value} {v : Nat} {st : List Value} {σ : gS} : wp d pr_271 Q 26 [some (.ref v), x1, x2, x3, x4, x5, x6] st σ ↔ wp d pr_271 Q 27 [some (.ref v), x1, x2, x3, x4, x5, x6] (.ref v :: st) σ := w_aload (k := 0) (n := 1) rfl rfl
theorem e_271_27 {d : Nat} {Q : Option Value → gS → Prop} {x0 x2 x3 x4 x5 x6 : Option Value} {v : Int32} {st : List Value} {σ : gS} : wp d pr_271 Q 27 [x0, some (.int v), x2, x3, x4, x5, x6] st σ ↔ wp d pr_271 Q 28 [x0, some (.int v), x2, x3, x4, x5, x6] (.int v :: st) σ := w_iload (k := 1) (n := 1) rfl rfl
theorem e_271_28 {d : Nat} {Q : Option Value → gS → Prop} {x0 x1 x2 x3 x4 x5 x6 : Option Value} {x : Int32} {a : Nat} {st : List Value} {σ : gS} : wp d pr_271 Q 28 [x0, x1, x2, x3, x4, x5, x6] (.int x :: .ref a :: st) σ ↔ gK σ a = 13 ∧ wp d pr_271 Q 31 [x0, x1, x2, x3, x4, x5, x6] (st) (sI σ a 49 x) := w_putI rfl
theorem e_271_31 {d : Nat} {Q : Option Value → gS → Prop} {x1 x2 x3 x4 x5 x6 : Option Value} {v : Nat} {st : List Value} {σ : gS} : wp d pr_271 Q 31 [some (.ref v), x1, x2, x3, x4, x5, x6] st σ ↔ wp d pr_271 Q 32 [some (.ref v), x1, x2, x3, x4, x5, x6] (.ref v :: st) σ := w_aload (k := 0) (n := 1) rfl rfl
theorem e_271_32 {d : Nat} {Q : Option Value → gS → Prop} {x0 x1 x3 x4 x5 x6 : Option Value} {v : Int32} {st : List Value} {σ : gS} : wp d pr_271 Q 32 [x0, x1, some (.int v), x3, x4, x5, x6] st σ ↔ wp d pr_271 Q 33 [x0, x1, some (.int v), x3, x4, x5, x6] (.int v :: st) σ := w_iload (k := 2) (n := 1) rfl rfl
theorem e_271_33 {d : Nat} {Q : Option Value → gS → Prop} {x0 x1 x2 x3 x4 x5 x6 : Option Value} {x : Int32} {a : Nat} {st : List Value} {σ : gS} : wp d pr_271 Q 33 [x0, x1, x2, x3, x4, x5, x6] (.int x :: .ref a :: st) σ ↔ gK σ a = 13 ∧ wp d pr_271 Q 36 [x0, x1, x2, x3, x4, x5, x6] (st) (sI σ a 48 x) := w_putI rfl
theorem e_271_36 {d : Nat} {Q : Option Value → gS → Prop} {x0 x1 x2 x3 x4 x5 x6 : Option Value}  {st : List Value} {σ : gS} : wp d pr_271 Q 36 [x0, x1, x2, x3, x4, x5, x6] st σ ↔ wp d pr_271 Q 37 [x0, x1, x2, x3, x4, x5, x6] (.int (0) :: st) σ := w_push (n := 1) rfl
theorem e_271_37 {d : Nat} {Q : Option Value → gS → Prop} {x0 x1 x2 x3 x4 x5 x6 : Option Value} {v : Int32} {st : List Value} {σ : gS} : wp d pr_271 Q 37 [x0, x1, x2, x3, x4, x5, x6] (.int v :: st) σ ↔ gPv x2 = true ∧ wp d pr_271 Q 38 [x0, x1, x2, some (.int v), x4, x5, x6] (st) σ := w_istore (k := 2) (n := 1) rfl (Nat.le_of_ble_eq_true rfl) rfl rfl
theorem e_271_38 {d : Nat} {Q : Option Value → gS → Prop} {x0 x1 x2 x3 x4 x5 x6 : Option Value}  {st : List Value} {σ : gS} : wp d pr_271 Q 38 [x0, x1, x2, x3, x4, x5, x6] st σ ↔ wp d pr_271 Q 39 [x0, x1, x2, x3, x4, x5, x6] (.int (0) :: st) σ := w_push (n := 1) rfl
theorem e_271_39 {d : Nat} {Q : Option Value → gS → Prop} {x0 x1 x2 x3 x4 x5 x6 : Option Value} {v : Int32} {st : List Value} {σ : gS} : wp d pr_271 Q 39 [x0, x1, x2, x3, x4, x5, x6] (.int v :: st) σ ↔ gPv x3 = true ∧ wp d pr_271 Q 41 [x0, x1, x2, x3, some (.int v), x5, x6] (st) σ := w_istore (k := 3) (n := 2) rfl (Nat.le_of_ble_eq_true rfl) rfl rfl
theorem e_271_41 {d : Nat} {Q : Option Value → gS → Prop} {x0 x1 x2 x3 x5 x6 : Option Value} {v : Int32} {st : List Value} {σ : gS} : wp d pr_271 Q 41 [x0, x1, x2, x3, some (.int v), x5, x6] st σ ↔ wp d pr_271 Q 43 [x0, x1, x2, x3, some (.int v), x5, x6] (.int v :: st) σ := w_iload (k := 4) (n := 2) rfl rfl
theorem e_271_43 {d : Nat} {Q : Option Value → gS → Prop} {x0 x1 x3 x4 x5 x6 : Option Value} {v : Int32} {st : List Value} {σ : gS} : wp d pr_271 Q 43 [x0, x1, some (.int v), x3, x4, x5, x6] st σ ↔ wp d pr_271 Q 44 [x0, x1, some (.int v), x3, x4, x5, x6] (.int v :: st) σ := w_iload (k := 2) (n := 1) rfl rfl
theorem e_271_44 {d : Nat} {Q : Option Value → gS → Prop} {x0 x1 x2 x3 x4 x5 x6 : Option Value} {x y : Int32} {st : List Value} {σ : gS} : wp d pr_271 Q 44 [x0, x1, x2, x3, x4, x5, x6] (.int y :: .int x :: st) σ ↔ ((y ≤ x) → wp d pr_271 Q 158 [x0, x1, x2, x3, x4, x5, x6] (st) σ) ∧ (¬ (y ≤ x) → wp d pr_271 Q 47 [x0, x1, x2, x3, x4, x5, x6] (st) σ) := w_icmp rfl decide_eq_true_iff
theorem e_271_47 {d : Nat} {Q : Option Value → gS → Prop} {x0 x1 x2 x3 x4 x5 x6 : Option Value}  {st : List Value} {σ : gS} : wp d pr_271 Q 47 [x0, x1, x2, x3, x4, x5, x6] st σ ↔ wp d pr_271 Q 48 [x0, x1, x2, x3, x4, x5, x6] (.int (0) :: st) σ := w_push (n := 1) rfl
theorem e_271_48 {d : Nat} {Q : Option Value → gS → Prop} {x0 x1 x2 x3 x4 x5 x6 : Option Value} {v : Int32} {st : List Value} {σ : gS} : wp d pr_271 Q 48 [x0, x1, x2, x3, x4, x5, x6] (.int v :: st) σ ↔ gPv x4 = true ∧ wp d pr_271 Q 50 [x0, x1, x2, x3, x4, some (.int v), x6] (st) σ := w_istore (k := 4) (n := 2) rfl (Nat.le_of_ble_eq_true rfl) rfl rfl
theorem e_271_50 {d : Nat} {Q : Option Value → gS → Prop} {x0 x1 x2 x3 x4 x5 x6 : Option Value}  {st : List Value} {σ : gS} : wp d pr_271 Q 50 [x0, x1, x2, x3, x4, x5, x6] st σ ↔ wp d pr_271 Q 51 [x0, x1, x2, x3, x4, x5, x6] (.int (0) :: st) σ := w_push (n := 1) rfl
theorem e_271_51 {d : Nat} {Q : Option Value → gS → Prop} {x0 x1 x2 x3 x4 x5 x6 : Option Value} {v : Int32} {st : List Value} {σ : gS} : wp d pr_271 Q 51 [x0, x1, x2, x3, x4, x5, x6] (.int v :: st) σ ↔ gPv x5 = true ∧ wp d pr_271 Q 53 [x0, x1, x2, x3, x4, x5, some (.int v)] (st) σ := w_istore (k := 5) (n := 2) rfl (Nat.le_of_ble_eq_true rfl) rfl rfl
theorem e_271_53 {d : Nat} {Q : Option Value → gS → Prop} {x0 x1 x2 x3 x4 x5 : Option Value} {v : Int32} {st : List Value} {σ : gS} : wp d pr_271 Q 53 [x0, x1, x2, x3, x4, x5, some (.int v)] st σ ↔ wp d pr_271 Q 55 [x0, x1, x2, x3, x4, x5, some (.int v)] (.int v :: st) σ := w_iload (k := 6) (n := 2) rfl rfl
theorem e_271_55 {d : Nat} {Q : Option Value → gS → Prop} {x1 x2 x3 x4 x5 x6 : Option Value} {v : Nat} {st : List Value} {σ : gS} : wp d pr_271 Q 55 [some (.ref v), x1, x2, x3, x4, x5, x6] st σ ↔ wp d pr_271 Q 56 [some (.ref v), x1, x2, x3, x4, x5, x6] (.ref v :: st) σ := w_aload (k := 0) (n := 1) rfl rfl
theorem e_271_56 {d : Nat} {Q : Option Value → gS → Prop} {x0 x1 x2 x3 x4 x5 x6 : Option Value} {a : Nat}  {st : List Value} {σ : gS} : wp d pr_271 Q 56 [x0, x1, x2, x3, x4, x5, x6] (.ref a :: st) σ ↔ (gK σ a = 13 ∧ st.length ≤ 4) ∧ wc d 171 [.ref a] σ (fun r τ => wp d pr_271 Q 59 [x0, x1, x2, x3, x4, x5, x6] (r.toList ++ st) τ) := w_callV rfl (by simp) rfl rfl
theorem e_271_59 {d : Nat} {Q : Option Value → gS → Prop} {x0 x1 x2 x3 x4 x5 x6 : Option Value} {x y : Int32} {st : List Value} {σ : gS} : wp d pr_271 Q 59 [x0, x1, x2, x3, x4, x5, x6] (.int y :: .int x :: st) σ ↔ ((y ≤ x) → wp d pr_271 Q 94 [x0, x1, x2, x3, x4, x5, x6] (st) σ) ∧ (¬ (y ≤ x) → wp d pr_271 Q 62 [x0, x1, x2, x3, x4, x5, x6] (st) σ) := w_icmp rfl decide_eq_true_iff
theorem e_271_62 {d : Nat} {Q : Option Value → gS → Prop} {x1 x2 x3 x4 x5 x6 : Option Value} {v : Nat} {st : List Value} {σ : gS} : wp d pr_271 Q 62 [some (.ref v), x1, x2, x3, x4, x5, x6] st σ ↔ wp d pr_271 Q 63 [some (.ref v), x1, x2, x3, x4, x5, x6] (.ref v :: st) σ := w_aload (k := 0) (n := 1) rfl rfl
theorem e_271_63 {d : Nat} {Q : Option Value → gS → Prop} {x0 x1 x2 x3 x4 x5 : Option Value} {v : Int32} {st : List Value} {σ : gS} : wp d pr_271 Q 63 [x0, x1, x2, x3, x4, x5, some (.int v)] st σ ↔ wp d pr_271 Q 65 [x0, x1, x2, x3, x4, x5, some (.int v)] (.int v :: st) σ := w_iload (k := 6) (n := 2) rfl rfl
theorem e_271_65 {d : Nat} {Q : Option Value → gS → Prop} {x0 x1 x2 x3 x4 x5 x6 : Option Value} {v0 : Value} {a : Nat}  {st : List Value} {σ : gS} : wp d pr_271 Q 65 [x0, x1, x2, x3, x4, x5, x6] (v0 :: .ref a :: st) σ ↔ (gK σ a = 13 ∧ st.length ≤ 4) ∧ wc d 174 [.ref a, v0] σ (fun r τ => wp d pr_271 Q 68 [x0, x1, x2, x3, x4, x5, x6] (r.toList ++ st) τ) := w_callV rfl (by simp) rfl rfl
theorem e_271_68 {d : Nat} {Q : Option Value → gS → Prop} {x0 x1 x2 x3 x4 x5 x6 : Option Value} {x : Int32} {st : List Value} {σ : gS} : wp d pr_271 Q 68 [x0, x1, x2, x3, x4, x5, x6] (.int x :: st) σ ↔ ((x = 0) → wp d pr_271 Q 88 [x0, x1, x2, x3, x4, x5, x6] (st) σ) ∧ (¬ (x = 0) → wp d pr_271 Q 71 [x0, x1, x2, x3, x4, x5, x6] (st) σ) := w_if rfl decide_eq_true_iff
theorem e_271_71 {d : Nat} {Q : Option Value → gS → Prop} {x1 x2 x3 x4 x5 x6 : Option Value} {v : Nat} {st : List Value} {σ : gS} : wp d pr_271 Q 71 [some (.ref v), x1, x2, x3, x4, x5, x6] st σ ↔ wp d pr_271 Q 72 [some (.ref v), x1, x2, x3, x4, x5, x6] (.ref v :: st) σ := w_aload (k := 0) (n := 1) rfl rfl
theorem e_271_72 {d : Nat} {Q : Option Value → gS → Prop} {x0 x1 x2 x3 x4 x5 x6 : Option Value}  {st : List Value} {σ : gS} : wp d pr_271 Q 72 [x0, x1, x2, x3, x4, x5, x6] st σ ↔ wp d pr_271 Q 73 [x0, x1, x2, x3, x4, x5, x6] (.int (4) :: st) σ := w_push (n := 1) rfl
theorem e_271_73 {d : Nat} {Q : Option Value → gS → Prop} {x0 x1 x2 x3 x4 x5 x6 : Option Value} {v0 : Value} {a : Nat}  {st : List Value} {σ : gS} : wp d pr_271 Q 73 [x0, x1, x2, x3, x4, x5, x6] (v0 :: .ref a :: st) σ ↔ (gK σ a = 13 ∧ st.length ≤ 4) ∧ wc d 270 [.ref a, v0] σ (fun r τ => wp d pr_271 Q 76 [x0, x1, x2, x3, x4, x5, x6] (r.toList ++ st) τ) := w_callV rfl (by simp) rfl rfl
theorem e_271_76 {d : Nat} {Q : Option Value → gS → Prop} {x0 x1 x2 x3 x4 x5 x6 : Option Value} {x : Int32} {st : List Value} {σ : gS} : wp d pr_271 Q 76 [x0, x1, x2, x3, x4, x5, x6] (.int x :: st) σ ↔ ((x ≠ 0) → wp d pr_271 Q 88 [x0, x1, x2, x3, x4, x5, x6] (st) σ) ∧ (¬ (x ≠ 0) → wp d pr_271 Q 79 [x0, x1, x2, x3, x4, x5, x6] (st) σ) := w_if rfl decide_eq_true_iff
theorem e_271_79 {d : Nat} {Q : Option Value → gS → Prop} {x0 x1 x2 x3 x4 x6 : Option Value} {v : Int32} {st : List Value} {σ : gS} : wp d pr_271 Q 79 [x0, x1, x2, x3, x4, some (.int v), x6] st σ ↔ wp d pr_271 Q 81 [x0, x1, x2, x3, x4, some (.int v), x6] (.int v :: st) σ := w_iload (k := 5) (n := 2) rfl rfl
theorem e_271_81 {d : Nat} {Q : Option Value → gS → Prop} {x0 x1 x2 x3 x4 x5 x6 : Option Value}  {st : List Value} {σ : gS} : wp d pr_271 Q 81 [x0, x1, x2, x3, x4, x5, x6] st σ ↔ wp d pr_271 Q 82 [x0, x1, x2, x3, x4, x5, x6] (.int (1) :: st) σ := w_push (n := 1) rfl
theorem e_271_82 {d : Nat} {Q : Option Value → gS → Prop} {x0 x1 x2 x3 x4 x5 : Option Value} {v : Int32} {st : List Value} {σ : gS} : wp d pr_271 Q 82 [x0, x1, x2, x3, x4, x5, some (.int v)] st σ ↔ wp d pr_271 Q 84 [x0, x1, x2, x3, x4, x5, some (.int v)] (.int v :: st) σ := w_iload (k := 6) (n := 2) rfl rfl
theorem e_271_84 {d : Nat} {Q : Option Value → gS → Prop} {x0 x1 x2 x3 x4 x5 x6 : Option Value} {x y : Int32} {st : List Value} {σ : gS} : wp d pr_271 Q 84 [x0, x1, x2, x3, x4, x5, x6] (.int y :: .int x :: st) σ ↔ wp d pr_271 Q 85 [x0, x1, x2, x3, x4, x5, x6] (.int (x <<< (y &&& 31)) :: st) σ := w_bI (f := fun x y => x <<< (y &&& 31)) rfl
theorem e_271_85 {d : Nat} {Q : Option Value → gS → Prop} {x0 x1 x2 x3 x4 x5 x6 : Option Value} {x y : Int32} {st : List Value} {σ : gS} : wp d pr_271 Q 85 [x0, x1, x2, x3, x4, x5, x6] (.int y :: .int x :: st) σ ↔ wp d pr_271 Q 86 [x0, x1, x2, x3, x4, x5, x6] (.int (x ||| y) :: st) σ := w_bI (f := fun x y => x ||| y) rfl
theorem e_271_86 {d : Nat} {Q : Option Value → gS → Prop} {x0 x1 x2 x3 x4 x5 x6 : Option Value} {v : Int32} {st : List Value} {σ : gS} : wp d pr_271 Q 86 [x0, x1, x2, x3, x4, x5, x6] (.int v :: st) σ ↔ gPv x4 = true ∧ wp d pr_271 Q 88 [x0, x1, x2, x3, x4, some (.int v), x6] (st) σ := w_istore (k := 4) (n := 2) rfl (Nat.le_of_ble_eq_true rfl) rfl rfl
theorem e_271_88 {d : Nat} {Q : Option Value → gS → Prop} {x0 x1 x2 x3 x4 x5 : Option Value} {v : Int32} {st : List Value} {σ : gS} : wp d pr_271 Q 88 [x0, x1, x2, x3, x4, x5, some (.int v)] st σ ↔ gPv x5 = true ∧ wp d pr_271 Q 91 [x0, x1, x2, x3, x4, x5, some (.int (v + (1)))] (st) σ := w_iinc (k := 5) rfl rfl rfl rfl
theorem e_271_91 {d : Nat} {Q : Option Value → gS → Prop} {x0 x1 x2 x3 x4 x5 x6 : Option Value}  {st : List Value} {σ : gS} : wp d pr_271 Q 91 [x0, x1, x2, x3, x4, x5, x6] st σ ↔ wp d pr_271 Q 53 [x0, x1, x2, x3, x4, x5, x6] (st) σ := w_goto rfl
theorem e_271_94 {d : Nat} {Q : Option Value → gS → Prop} {x1 x2 x3 x4 x5 x6 : Option Value} {v : Nat} {st : List Value} {σ : gS} : wp d pr_271 Q 94 [some (.ref v), x1, x2, x3, x4, x5, x6] st σ ↔ wp d pr_271 Q 95 [some (.ref v), x1, x2, x3, x4, x5, x6] (.ref v :: st) σ := w_aload (k := 0) (n := 1) rfl rfl
theorem e_271_95 {d : Nat} {Q : Option Value → gS → Prop} {x1 x2 x3 x4 x5 x6 : Option Value} {v : Nat} {st : List Value} {σ : gS} : wp d pr_271 Q 95 [some (.ref v), x1, x2, x3, x4, x5, x6] st σ ↔ wp d pr_271 Q 96 [some (.ref v), x1, x2, x3, x4, x5, x6] (.ref v :: st) σ := w_aload (k := 0) (n := 1) rfl rfl
theorem e_271_96 {d : Nat} {Q : Option Value → gS → Prop} {x0 x1 x2 x3 x4 x5 x6 : Option Value} {a : Nat} {st : List Value} {σ : gS} : wp d pr_271 Q 96 [x0, x1, x2, x3, x4, x5, x6] (.ref a :: st) σ ↔ gK σ a = 13 ∧ ∃ q, gR σ a 3 = some q ∧ wp d pr_271 Q 99 [x0, x1, x2, x3, x4, x5, x6] (.ref q :: st) σ := w_getR rfl
theorem e_271_99 {d : Nat} {Q : Option Value → gS → Prop} {x0 x1 x2 x3 x4 x5 x6 : Option Value}  {st : List Value} {σ : gS} : wp d pr_271 Q 99 [x0, x1, x2, x3, x4, x5, x6] st σ ↔ wp d pr_271 Q 102 [x0, x1, x2, x3, x4, x5, x6] (.int (249) :: st) σ := w_push (n := 3) rfl
theorem e_271_102 {d : Nat} {Q : Option Value → gS → Prop} {x0 x1 x2 x3 x4 x5 x6 : Option Value} {i : Int32} {a : Nat} {st : List Value} {σ : gS} : wp d pr_271 Q 102 [x0, x1, x2, x3, x4, x5, x6] (.int i :: .ref a :: st) σ ↔ ((gK σ a = 21 ∨ gK σ a = 26) ∧ ¬ i < 0 ∧ i.toNatClampNeg < gN σ a) ∧ wp d pr_271 Q 103 [x0, x1, x2, x3, x4, x5, x6] (.int (gI σ a i.toNatClampNeg) :: st) σ := w_iald rfl
theorem e_271_103 {d : Nat} {Q : Option Value → gS → Prop} {x0 x1 x2 x3 x5 x6 : Option Value} {v : Int32} {st : List Value} {σ : gS} : wp d pr_271 Q 103 [x0, x1, x2, x3, some (.int v), x5, x6] st σ ↔ wp d pr_271 Q 105 [x0, x1, x2, x3, some (.int v), x5, x6] (.int v :: st) σ := w_iload (k := 4) (n := 2) rfl rfl
theorem e_271_105 {d : Nat} {Q : Option Value → gS → Prop} {x0 x1 x2 x3 x4 x5 x6 : Option Value} {x y : Int32} {st : List Value} {σ : gS} : wp d pr_271 Q 105 [x0, x1, x2, x3, x4, x5, x6] (.int y :: .int x :: st) σ ↔ wp d pr_271 Q 106 [x0, x1, x2, x3, x4, x5, x6] (.int (x + y) :: st) σ := w_bI (f := fun x y => x + y) rfl
theorem e_271_106 {d : Nat} {Q : Option Value → gS → Prop} {x0 x1 x2 x3 x4 x5 x6 : Option Value} {v0 : Value} {a : Nat}  {st : List Value} {σ : gS} : wp d pr_271 Q 106 [x0, x1, x2, x3, x4, x5, x6] (v0 :: .ref a :: st) σ ↔ (gK σ a = 13 ∧ st.length ≤ 4) ∧ wc d 233 [.ref a, v0] σ (fun r τ => wp d pr_271 Q 109 [x0, x1, x2, x3, x4, x5, x6] (r.toList ++ st) τ) := w_callV rfl (by simp) rfl rfl
theorem e_271_109 {d : Nat} {Q : Option Value → gS → Prop} {x1 x2 x3 x4 x5 x6 : Option Value} {v : Nat} {st : List Value} {σ : gS} : wp d pr_271 Q 109 [some (.ref v), x1, x2, x3, x4, x5, x6] st σ ↔ wp d pr_271 Q 110 [some (.ref v), x1, x2, x3, x4, x5, x6] (.ref v :: st) σ := w_aload (k := 0) (n := 1) rfl rfl
set_option maxRecDepth 100000 in
theorem e_271_110 {d : Nat} {Q : Option Value → gS → Prop} {x0 x1 x2 x3 x4 x6 : Option Value} {v : Int32} {st : List Value} {σ : gS} : wp d pr_271 Q 110 [x0, x1, x2, x3, x4, some (.int v), x6] st σ ↔ wp d pr_271 Q 112 [x0, x1, x2, x3, x4, some (.int v), x6] (.int v :: st) σ := w_iload (k := 5) (n := 2) rfl rfl
set_option maxRecDepth 100000 in
theorem e_271_112 {d : Nat} {Q : Option Value → gS → Prop} {x0 x1 x2 x3 x4 x5 x6 : Option Value} {v0 : Value} {a : Nat}  {st : List Value} {σ : gS} : wp d pr_271 Q 112 [x0, x1, x2, x3, x4, x5, x6] (v0 :: .ref a :: st) σ ↔ (gK σ a = 13 ∧ st.length ≤ 4) ∧ wc d 245 [.ref a, v0] σ (fun r τ => wp d pr_271 Q 115 [x0, x1, x2, x3, x4, x5, x6] (r.toList ++ st) τ) := w_callV rfl (by simp) rfl rfl
set_option maxRecDepth 100000 in
theorem e_271_115 {d : Nat} {Q : Option Value → gS → Prop} {x1 x2 x3 x4 x5 x6 : Option Value} {v : Nat} {st : List Value} {σ : gS} : wp d pr_271 Q 115 [some (.ref v), x1, x2, x3, x4, x5, x6] st σ ↔ wp d pr_271 Q 116 [some (.ref v), x1, x2, x3, x4, x5, x6] (.ref v :: st) σ := w_aload (k := 0) (n := 1) rfl rfl
set_option maxRecDepth 100000 in
theorem e_271_116 {d : Nat} {Q : Option Value → gS → Prop} {x0 x1 x2 x3 x4 x5 x6 : Option Value} {a : Nat} {st : List Value} {σ : gS} : wp d pr_271 Q 116 [x0, x1, x2, x3, x4, x5, x6] (.ref a :: st) σ ↔ gK σ a = 13 ∧ ∃ q, gR σ a 46 = some q ∧ wp d pr_271 Q 119 [x0, x1, x2, x3, x4, x5, x6] (.ref q :: st) σ := w_getR rfl
set_option maxRecDepth 100000 in
theorem e_271_119 {d : Nat} {Q : Option Value → gS → Prop} {x0 x1 x2 x3 x5 x6 : Option Value} {v : Int32} {st : List Value} {σ : gS} : wp d pr_271 Q 119 [x0, x1, x2, x3, some (.int v), x5, x6] st σ ↔ wp d pr_271 Q 121 [x0, x1, x2, x3, some (.int v), x5, x6] (.int v :: st) σ := w_iload (k := 4) (n := 2) rfl rfl
set_option maxRecDepth 100000 in
theorem e_271_121 {d : Nat} {Q : Option Value → gS → Prop} {x0 x1 x2 x3 x4 x6 : Option Value} {v : Int32} {st : List Value} {σ : gS} : wp d pr_271 Q 121 [x0, x1, x2, x3, x4, some (.int v), x6] st σ ↔ wp d pr_271 Q 123 [x0, x1, x2, x3, x4, some (.int v), x6] (.int v :: st) σ := w_iload (k := 5) (n := 2) rfl rfl
set_option maxRecDepth 100000 in
theorem e_271_123 {d : Nat} {Q : Option Value → gS → Prop} {x0 x1 x2 x3 x4 x5 x6 : Option Value} {x : Int32} {i : Int32} {a : Nat} {st : List Value} {σ : gS} : wp d pr_271 Q 123 [x0, x1, x2, x3, x4, x5, x6] (.int x :: .int i :: .ref a :: st) σ ↔ ((gK σ a = 21) ∧ ¬ i < 0 ∧ i.toNatClampNeg < gN σ a) ∧ wp d pr_271 Q 124 [x0, x1, x2, x3, x4, x5, x6] (st) (sI σ a i.toNatClampNeg x) := w_iast rfl
set_option maxRecDepth 100000 in
theorem e_271_124 {d : Nat} {Q : Option Value → gS → Prop} {x1 x2 x3 x4 x5 x6 : Option Value} {v : Nat} {st : List Value} {σ : gS} : wp d pr_271 Q 124 [some (.ref v), x1, x2, x3, x4, x5, x6] st σ ↔ wp d pr_271 Q 125 [some (.ref v), x1, x2, x3, x4, x5, x6] (.ref v :: st) σ := w_aload (k := 0) (n := 1) rfl rfl
set_option maxRecDepth 100000 in
theorem e_271_125 {d : Nat} {Q : Option Value → gS → Prop} {x0 x1 x2 x3 x4 x5 x6 : Option Value} {a : Nat} {st : List Value} {σ : gS} : wp d pr_271 Q 125 [x0, x1, x2, x3, x4, x5, x6] (.ref a :: st) σ ↔ gK σ a = 13 ∧ ∃ q, gR σ a 47 = some q ∧ wp d pr_271 Q 128 [x0, x1, x2, x3, x4, x5, x6] (.ref q :: st) σ := w_getR rfl
set_option maxRecDepth 100000 in
theorem e_271_128 {d : Nat} {Q : Option Value → gS → Prop} {x0 x1 x2 x3 x5 x6 : Option Value} {v : Int32} {st : List Value} {σ : gS} : wp d pr_271 Q 128 [x0, x1, x2, x3, some (.int v), x5, x6] st σ ↔ wp d pr_271 Q 130 [x0, x1, x2, x3, some (.int v), x5, x6] (.int v :: st) σ := w_iload (k := 4) (n := 2) rfl rfl
set_option maxRecDepth 100000 in
theorem e_271_130 {d : Nat} {Q : Option Value → gS → Prop} {x1 x2 x3 x4 x5 x6 : Option Value} {v : Nat} {st : List Value} {σ : gS} : wp d pr_271 Q 130 [some (.ref v), x1, x2, x3, x4, x5, x6] st σ ↔ wp d pr_271 Q 131 [some (.ref v), x1, x2, x3, x4, x5, x6] (.ref v :: st) σ := w_aload (k := 0) (n := 1) rfl rfl
set_option maxRecDepth 100000 in
theorem e_271_131 {d : Nat} {Q : Option Value → gS → Prop} {x0 x1 x2 x3 x4 x5 x6 : Option Value} {a : Nat} {st : List Value} {σ : gS} : wp d pr_271 Q 131 [x0, x1, x2, x3, x4, x5, x6] (.ref a :: st) σ ↔ gK σ a = 13 ∧ wp d pr_271 Q 134 [x0, x1, x2, x3, x4, x5, x6] (.int (gI σ a 39) :: st) σ := w_getI rfl
set_option maxRecDepth 100000 in
theorem e_271_134 {d : Nat} {Q : Option Value → gS → Prop} {x0 x1 x2 x3 x4 x5 x6 : Option Value} {x : Int32} {i : Int32} {a : Nat} {st : List Value} {σ : gS} : wp d pr_271 Q 134 [x0, x1, x2, x3, x4, x5, x6] (.int x :: .int i :: .ref a :: st) σ ↔ ((gK σ a = 21) ∧ ¬ i < 0 ∧ i.toNatClampNeg < gN σ a) ∧ wp d pr_271 Q 135 [x0, x1, x2, x3, x4, x5, x6] (st) (sI σ a i.toNatClampNeg x) := w_iast rfl
set_option maxRecDepth 100000 in
theorem e_271_135 {d : Nat} {Q : Option Value → gS → Prop} {x1 x2 x3 x4 x5 x6 : Option Value} {v : Nat} {st : List Value} {σ : gS} : wp d pr_271 Q 135 [some (.ref v), x1, x2, x3, x4, x5, x6] st σ ↔ wp d pr_271 Q 136 [some (.ref v), x1, x2, x3, x4, x5, x6] (.ref v :: st) σ := w_aload (k := 0) (n := 1) rfl rfl
set_option maxRecDepth 100000 in
theorem e_271_136 {d : Nat} {Q : Option Value → gS → Prop} {x0 x1 x2 x3 x4 x5 x6 : Option Value} {a : Nat} {st : List Value} {σ : gS} : wp d pr_271 Q 136 [x0, x1, x2, x3, x4, x5, x6] (.ref a :: st) σ ↔ gK σ a = 13 ∧ wp d pr_271 Q 139 [x0, x1, x2, x3, x4, x5, x6] (.int (gI σ a 39) :: st) σ := w_getI rfl
set_option maxRecDepth 100000 in
theorem e_271_139 {d : Nat} {Q : Option Value → gS → Prop} {x0 x1 x2 x4 x5 x6 : Option Value} {v : Int32} {st : List Value} {σ : gS} : wp d pr_271 Q 139 [x0, x1, x2, some (.int v), x4, x5, x6] st σ ↔ wp d pr_271 Q 140 [x0, x1, x2, some (.int v), x4, x5, x6] (.int v :: st) σ := w_iload (k := 3) (n := 1) rfl rfl
set_option maxRecDepth 100000 in
theorem e_271_140 {d : Nat} {Q : Option Value → gS → Prop} {x0 x1 x2 x3 x4 x5 x6 : Option Value} {x y : Int32} {st : List Value} {σ : gS} : wp d pr_271 Q 140 [x0, x1, x2, x3, x4, x5, x6] (.int y :: .int x :: st) σ ↔ ((x ≤ y) → wp d pr_271 Q 150 [x0, x1, x2, x3, x4, x5, x6] (st) σ) ∧ (¬ (x ≤ y) → wp d pr_271 Q 143 [x0, x1, x2, x3, x4, x5, x6] (st) σ) := w_icmp rfl decide_eq_true_iff
set_option maxRecDepth 100000 in
theorem e_271_143 {d : Nat} {Q : Option Value → gS → Prop} {x1 x2 x3 x4 x5 x6 : Option Value} {v : Nat} {st : List Value} {σ : gS} : wp d pr_271 Q 143 [some (.ref v), x1, x2, x3, x4, x5, x6] st σ ↔ wp d pr_271 Q 144 [some (.ref v), x1, x2, x3, x4, x5, x6] (.ref v :: st) σ := w_aload (k := 0) (n := 1) rfl rfl
set_option maxRecDepth 100000 in
theorem e_271_144 {d : Nat} {Q : Option Value → gS → Prop} {x0 x1 x2 x3 x4 x5 x6 : Option Value} {a : Nat} {st : List Value} {σ : gS} : wp d pr_271 Q 144 [x0, x1, x2, x3, x4, x5, x6] (.ref a :: st) σ ↔ gK σ a = 13 ∧ wp d pr_271 Q 147 [x0, x1, x2, x3, x4, x5, x6] (.int (gI σ a 39) :: st) σ := w_getI rfl
set_option maxRecDepth 100000 in
theorem e_271_147 {d : Nat} {Q : Option Value → gS → Prop} {x0 x1 x2 x3 x4 x5 x6 : Option Value}  {st : List Value} {σ : gS} : wp d pr_271 Q 147 [x0, x1, x2, x3, x4, x5, x6] st σ ↔ wp d pr_271 Q 151 [x0, x1, x2, x3, x4, x5, x6] (st) σ := w_goto rfl
set_option maxRecDepth 100000 in
theorem e_271_150 {d : Nat} {Q : Option Value → gS → Prop} {x0 x1 x2 x4 x5 x6 : Option Value} {v : Int32} {st : List Value} {σ : gS} : wp d pr_271 Q 150 [x0, x1, x2, some (.int v), x4, x5, x6] st σ ↔ wp d pr_271 Q 151 [x0, x1, x2, some (.int v), x4, x5, x6] (.int v :: st) σ := w_iload (k := 3) (n := 1) rfl rfl
set_option maxRecDepth 100000 in
theorem e_271_151 {d : Nat} {Q : Option Value → gS → Prop} {x0 x1 x2 x3 x4 x5 x6 : Option Value} {v : Int32} {st : List Value} {σ : gS} : wp d pr_271 Q 151 [x0, x1, x2, x3, x4, x5, x6] (.int v :: st) σ ↔ gPv x2 = true ∧ wp d pr_271 Q 152 [x0, x1, x2, some (.int v), x4, x5, x6] (st) σ := w_istore (k := 2) (n := 1) rfl (Nat.le_of_ble_eq_true rfl) rfl rfl
set_option maxRecDepth 100000 in
theorem e_271_152 {d : Nat} {Q : Option Value → gS → Prop} {x0 x1 x2 x3 x5 x6 : Option Value} {v : Int32} {st : List Value} {σ : gS} : wp d pr_271 Q 152 [x0, x1, x2, x3, some (.int v), x5, x6] st σ ↔ gPv x3 = true ∧ wp d pr_271 Q 155 [x0, x1, x2, x3, some (.int (v + (1))), x5, x6] (st) σ := w_iinc (k := 3) rfl rfl rfl rfl
set_option maxRecDepth 100000 in
theorem e_271_155 {d : Nat} {Q : Option Value → gS → Prop} {x0 x1 x2 x3 x4 x5 x6 : Option Value}  {st : List Value} {σ : gS} : wp d pr_271 Q 155 [x0, x1, x2, x3, x4, x5, x6] st σ ↔ wp d pr_271 Q 41 [x0, x1, x2, x3, x4, x5, x6] (st) σ := w_goto rfl
set_option maxRecDepth 100000 in
theorem e_271_158 {d : Nat} {Q : Option Value → gS → Prop} {x1 x2 x3 x4 x5 x6 : Option Value} {v : Nat} {st : List Value} {σ : gS} : wp d pr_271 Q 158 [some (.ref v), x1, x2, x3, x4, x5, x6] st σ ↔ wp d pr_271 Q 159 [some (.ref v), x1, x2, x3, x4, x5, x6] (.ref v :: st) σ := w_aload (k := 0) (n := 1) rfl rfl
set_option maxRecDepth 100000 in
theorem e_271_159 {d : Nat} {Q : Option Value → gS → Prop} {x0 x1 x2 x4 x5 x6 : Option Value} {v : Int32} {st : List Value} {σ : gS} : wp d pr_271 Q 159 [x0, x1, x2, some (.int v), x4, x5, x6] st σ ↔ wp d pr_271 Q 160 [x0, x1, x2, some (.int v), x4, x5, x6] (.int v :: st) σ := w_iload (k := 3) (n := 1) rfl rfl
set_option maxRecDepth 100000 in
theorem e_271_160 {d : Nat} {Q : Option Value → gS → Prop} {x0 x1 x2 x3 x4 x5 x6 : Option Value} {v0 : Value} {a : Nat}  {st : List Value} {σ : gS} : wp d pr_271 Q 160 [x0, x1, x2, x3, x4, x5, x6] (v0 :: .ref a :: st) σ ↔ (gK σ a = 13 ∧ st.length ≤ 4) ∧ wc d 165 [.ref a, v0] σ (fun r τ => wp d pr_271 Q 163 [x0, x1, x2, x3, x4, x5, x6] (r.toList ++ st) τ) := w_callV rfl (by simp) rfl rfl
set_option maxRecDepth 100000 in
theorem e_271_163 {d : Nat} {Q : Option Value → gS → Prop} {x0 x1 x2 x3 x4 x5 x6 : Option Value} {v : Int32} {σ : gS} : wp d pr_271 Q 163 [x0, x1, x2, x3, x4, x5, x6] [.int v] σ ↔ Q (some (.int v)) σ := w_iret rfl
theorem c_271 {d : Nat} {Q : Option Value → gS → Prop} {a : Nat} {p0 : Int32} {p1 : Int32} {σ : gS} : wc (d + 1) 271 [.ref a, .int p0, .int p1] σ Q ↔ wp d pr_271 Q 0 [some (.ref a), some (.int p0), some (.int p1), none, none, none, none] [] σ := wc_iff (Nat.le_of_ble_eq_true rfl) rfl
theorem e_272_0 {d : Nat} {Q : Option Value → gS → Prop} {x0 x2 : Option Value} {v : Int32} {st : List Value} {σ : gS} : wp d pr_272 Q 0 [x0, some (.int v), x2] st σ ↔ wp d pr_272 Q 1 [x0, some (.int v), x2] (.int v :: st) σ := w_iload (k := 1) (n := 1) rfl rfl
theorem e_272_1 {d : Nat} {Q : Option Value → gS → Prop} {x0 x1 x2 : Option Value}  {st : List Value} {σ : gS} : wp d pr_272 Q 1 [x0, x1, x2] st σ ↔ wp d pr_272 Q 2 [x0, x1, x2] (.int (0) :: st) σ := w_push (n := 1) rfl
theorem e_272_2 {d : Nat} {Q : Option Value → gS → Prop} {x1 x2 : Option Value} {v : Nat} {st : List Value} {σ : gS} : wp d pr_272 Q 2 [some (.ref v), x1, x2] st σ ↔ wp d pr_272 Q 3 [some (.ref v), x1, x2] (.ref v :: st) σ := w_aload (k := 0) (n := 1) rfl rfl
theorem e_272_3 {d : Nat} {Q : Option Value → gS → Prop} {x0 x1 x2 : Option Value} {a : Nat} {st : List Value} {σ : gS} : wp d pr_272 Q 3 [x0, x1, x2] (.ref a :: st) σ ↔ gK σ a = 13 ∧ wp d pr_272 Q 6 [x0, x1, x2] (.int (gI σ a 48) :: st) σ := w_getI rfl
theorem e_272_6 {d : Nat} {Q : Option Value → gS → Prop} {x0 x1 x2 : Option Value}  {st : List Value} {σ : gS} : wp d pr_272 Q 6 [x0, x1, x2] st σ ↔ wp d pr_272 Q 7 [x0, x1, x2] (.int (1) :: st) σ := w_push (n := 1) rfl
theorem e_272_7 {d : Nat} {Q : Option Value → gS → Prop} {x0 x1 x2 : Option Value} {x y : Int32} {st : List Value} {σ : gS} : wp d pr_272 Q 7 [x0, x1, x2] (.int y :: .int x :: st) σ ↔ wp d pr_272 Q 8 [x0, x1, x2] (.int (x - y) :: st) σ := w_bI (f := fun x y => x - y) rfl
theorem e_272_8 {d : Nat} {Q : Option Value → gS → Prop} {x0 x1 x2 : Option Value} {v0 v1 v2 : Value}  {st : List Value} {σ : gS} : wp d pr_272 Q 8 [x0, x1, x2] (v2 :: v1 :: v0 :: st) σ ↔ st.length ≤ 4 ∧ wc d 163 [v0, v1, v2] σ (fun r τ => wp d pr_272 Q 11 [x0, x1, x2] (r.toList ++ st) τ) := w_callS rfl (by simp) rfl rfl
theorem e_272_11 {d : Nat} {Q : Option Value → gS → Prop} {x0 x1 x2 : Option Value} {x : Int32} {st : List Value} {σ : gS} : wp d pr_272 Q 11 [x0, x1, x2] (.int x :: st) σ ↔ ((x = 0) → wp d pr_272 Q 23 [x0, x1, x2] (st) σ) ∧ (¬ (x = 0) → wp d pr_272 Q 14 [x0, x1, x2] (st) σ) := w_if rfl decide_eq_true_iff
theorem e_272_14 {d : Nat} {Q : Option Value → gS → Prop} {x0 x1 : Option Value} {v : Int32} {st : List Value} {σ : gS} : wp d pr_272 Q 14 [x0, x1, some (.int v)] st σ ↔ wp d pr_272 Q 15 [x0, x1, some (.int v)] (.int v :: st) σ := w_iload (k := 2) (n := 1) rfl rfl
theorem e_272_15 {d : Nat} {Q : Option Value → gS → Prop} {x0 x1 x2 : Option Value}  {st : List Value} {σ : gS} : wp d pr_272 Q 15 [x0, x1, x2] st σ ↔ wp d pr_272 Q 16 [x0, x1, x2] (.int (0) :: st) σ := w_push (n := 1) rfl
theorem e_272_16 {d : Nat} {Q : Option Value → gS → Prop} {x0 x1 x2 : Option Value}  {st : List Value} {σ : gS} : wp d pr_272 Q 16 [x0, x1, x2] st σ ↔ wp d pr_272 Q 17 [x0, x1, x2] (.int (1) :: st) σ := w_push (n := 1) rfl
theorem e_272_17 {d : Nat} {Q : Option Value → gS → Prop} {x0 x1 x2 : Option Value} {v0 v1 v2 : Value}  {st : List Value} {σ : gS} : wp d pr_272 Q 17 [x0, x1, x2] (v2 :: v1 :: v0 :: st) σ ↔ st.length ≤ 4 ∧ wc d 163 [v0, v1, v2] σ (fun r τ => wp d pr_272 Q 20 [x0, x1, x2] (r.toList ++ st) τ) := w_callS rfl (by simp) rfl rfl
theorem e_272_20 {d : Nat} {Q : Option Value → gS → Prop} {x0 x1 x2 : Option Value} {x : Int32} {st : List Value} {σ : gS} : wp d pr_272 Q 20 [x0, x1, x2] (.int x :: st) σ ↔ ((x ≠ 0) → wp d pr_272 Q 27 [x0, x1, x2] (st) σ) ∧ (¬ (x ≠ 0) → wp d pr_272 Q 23 [x0, x1, x2] (st) σ) := w_if rfl decide_eq_true_iff
theorem e_272_23 {d : Nat} {Q : Option Value → gS → Prop} {x0 x1 x2 : Option Value}  {st : List Value} {σ : gS} : wp d pr_272 Q 23 [x0, x1, x2] st σ ↔ wp d pr_272 Q 24 [x0, x1, x2] (.int (-1) :: st) σ := w_push (n := 1) rfl
theorem e_272_24 {d : Nat} {Q : Option Value → gS → Prop} {x0 x1 x2 : Option Value}  {st : List Value} {σ : gS} : wp d pr_272 Q 24 [x0, x1, x2] st σ ↔ wp d pr_272 Q 46 [x0, x1, x2] (st) σ := w_goto rfl
theorem e_272_27 {d : Nat} {Q : Option Value → gS → Prop} {x0 x1 : Option Value} {v : Int32} {st : List Value} {σ : gS} : wp d pr_272 Q 27 [x0, x1, some (.int v)] st σ ↔ wp d pr_272 Q 28 [x0, x1, some (.int v)] (.int v :: st) σ := w_iload (k := 2) (n := 1) rfl rfl
theorem e_272_28 {d : Nat} {Q : Option Value → gS → Prop} {x0 x1 x2 : Option Value} {x : Int32} {st : List Value} {σ : gS} : wp d pr_272 Q 28 [x0, x1, x2] (.int x :: st) σ ↔ ((x ≠ 0) → wp d pr_272 Q 40 [x0, x1, x2] (st) σ) ∧ (¬ (x ≠ 0) → wp d pr_272 Q 31 [x0, x1, x2] (st) σ) := w_if rfl decide_eq_true_iff
theorem e_272_31 {d : Nat} {Q : Option Value → gS → Prop} {x1 x2 : Option Value} {v : Nat} {st : List Value} {σ : gS} : wp d pr_272 Q 31 [some (.ref v), x1, x2] st σ ↔ wp d pr_272 Q 32 [some (.ref v), x1, x2] (.ref v :: st) σ := w_aload (k := 0) (n := 1) rfl rfl
theorem e_272_32 {d : Nat} {Q : Option Value → gS → Prop} {x0 x1 x2 : Option Value} {a : Nat} {st : List Value} {σ : gS} : wp d pr_272 Q 32 [x0, x1, x2] (.ref a :: st) σ ↔ gK σ a = 13 ∧ ∃ q, gR σ a 46 = some q ∧ wp d pr_272 Q 35 [x0, x1, x2] (.ref q :: st) σ := w_getR rfl
theorem e_272_35 {d : Nat} {Q : Option Value → gS → Prop} {x0 x2 : Option Value} {v : Int32} {st : List Value} {σ : gS} : wp d pr_272 Q 35 [x0, some (.int v), x2] st σ ↔ wp d pr_272 Q 36 [x0, some (.int v), x2] (.int v :: st) σ := w_iload (k := 1) (n := 1) rfl rfl
theorem e_272_36 {d : Nat} {Q : Option Value → gS → Prop} {x0 x1 x2 : Option Value} {i : Int32} {a : Nat} {st : List Value} {σ : gS} : wp d pr_272 Q 36 [x0, x1, x2] (.int i :: .ref a :: st) σ ↔ ((gK σ a = 21 ∨ gK σ a = 26) ∧ ¬ i < 0 ∧ i.toNatClampNeg < gN σ a) ∧ wp d pr_272 Q 37 [x0, x1, x2] (.int (gI σ a i.toNatClampNeg) :: st) σ := w_iald rfl
theorem e_272_37 {d : Nat} {Q : Option Value → gS → Prop} {x0 x1 x2 : Option Value}  {st : List Value} {σ : gS} : wp d pr_272 Q 37 [x0, x1, x2] st σ ↔ wp d pr_272 Q 46 [x0, x1, x2] (st) σ := w_goto rfl
theorem e_272_40 {d : Nat} {Q : Option Value → gS → Prop} {x1 x2 : Option Value} {v : Nat} {st : List Value} {σ : gS} : wp d pr_272 Q 40 [some (.ref v), x1, x2] st σ ↔ wp d pr_272 Q 41 [some (.ref v), x1, x2] (.ref v :: st) σ := w_aload (k := 0) (n := 1) rfl rfl
theorem e_272_41 {d : Nat} {Q : Option Value → gS → Prop} {x0 x1 x2 : Option Value} {a : Nat} {st : List Value} {σ : gS} : wp d pr_272 Q 41 [x0, x1, x2] (.ref a :: st) σ ↔ gK σ a = 13 ∧ ∃ q, gR σ a 47 = some q ∧ wp d pr_272 Q 44 [x0, x1, x2] (.ref q :: st) σ := w_getR rfl
theorem e_272_44 {d : Nat} {Q : Option Value → gS → Prop} {x0 x2 : Option Value} {v : Int32} {st : List Value} {σ : gS} : wp d pr_272 Q 44 [x0, some (.int v), x2] st σ ↔ wp d pr_272 Q 45 [x0, some (.int v), x2] (.int v :: st) σ := w_iload (k := 1) (n := 1) rfl rfl
theorem e_272_45 {d : Nat} {Q : Option Value → gS → Prop} {x0 x1 x2 : Option Value} {i : Int32} {a : Nat} {st : List Value} {σ : gS} : wp d pr_272 Q 45 [x0, x1, x2] (.int i :: .ref a :: st) σ ↔ ((gK σ a = 21 ∨ gK σ a = 26) ∧ ¬ i < 0 ∧ i.toNatClampNeg < gN σ a) ∧ wp d pr_272 Q 46 [x0, x1, x2] (.int (gI σ a i.toNatClampNeg) :: st) σ := w_iald rfl
theorem e_272_46 {d : Nat} {Q : Option Value → gS → Prop} {x0 x1 x2 : Option Value} {v : Int32} {σ : gS} : wp d pr_272 Q 46 [x0, x1, x2] [.int v] σ ↔ Q (some (.int v)) σ := w_iret rfl
theorem c_272 {d : Nat} {Q : Option Value → gS → Prop} {a : Nat} {p0 : Int32} {p1 : Int32} {σ : gS} : wc (d + 1) 272 [.ref a, .int p0, .int p1] σ Q ↔ wp d pr_272 Q 0 [some (.ref a), some (.int p0), some (.int p1)] [] σ := wc_iff (Nat.le_of_ble_eq_true rfl) rfl
theorem e_273_0 {d : Nat} {Q : Option Value → gS → Prop} {x0 : Option Value} {v : Int32} {st : List Value} {σ : gS} : wp d pr_273 Q 0 [x0, some (.int v)] st σ ↔ wp d pr_273 Q 1 [x0, some (.int v)] (.int v :: st) σ := w_iload (k := 1) (n := 1) rfl rfl
theorem e_273_1 {d : Nat} {Q : Option Value → gS → Prop} {x0 x1 : Option Value} {x : Int32} {st : List Value} {σ : gS} : wp d pr_273 Q 1 [x0, x1] (.int x :: st) σ ↔ (x.toInt < 0 ∨ 15 < x.toInt → wp d pr_273 Q 187 [x0, x1] (st) σ) ∧ (¬ (x.toInt < 0 ∨ 15 < x.toInt) → ∃ q, ([80, 85, 93, 98, 107, 116, 125, 134, 139, 139, 139, 149, 156, 164, 173, 173] : List Nat)[(x.toInt - 0).toNat]? = some q ∧ wp d pr_273 Q q [x0, x1] st σ) := w_tsw rfl
theorem e_273_80 {d : Nat} {Q : Option Value → gS → Prop} {x1 : Option Value} {v : Nat} {st : List Value} {σ : gS} : wp d pr_273 Q 80 [some (.ref v), x1] st σ ↔ wp d pr_273 Q 81 [some (.ref v), x1] (.ref v :: st) σ := w_aload (k := 0) (n := 1) rfl rfl
theorem e_273_81 {d : Nat} {Q : Option Value → gS → Prop} {x0 x1 : Option Value} {a : Nat}  {st : List Value} {σ : gS} : wp d pr_273 Q 81 [x0, x1] (.ref a :: st) σ ↔ (gK σ a = 13 ∧ st.length ≤ 4) ∧ wc d 171 [.ref a] σ (fun r τ => wp d pr_273 Q 84 [x0, x1] (r.toList ++ st) τ) := w_callV rfl (by simp) rfl rfl
theorem e_273_84 {d : Nat} {Q : Option Value → gS → Prop} {x0 x1 : Option Value} {v : Int32} {σ : gS} : wp d pr_273 Q 84 [x0, x1] [.int v] σ ↔ Q (some (.int v)) σ := w_iret rfl
theorem e_273_85 {d : Nat} {Q : Option Value → gS → Prop} {x1 : Option Value} {v : Nat} {st : List Value} {σ : gS} : wp d pr_273 Q 85 [some (.ref v), x1] st σ ↔ wp d pr_273 Q 86 [some (.ref v), x1] (.ref v :: st) σ := w_aload (k := 0) (n := 1) rfl rfl
theorem e_273_86 {d : Nat} {Q : Option Value → gS → Prop} {x0 x1 : Option Value} {a : Nat}  {st : List Value} {σ : gS} : wp d pr_273 Q 86 [x0, x1] (.ref a :: st) σ ↔ (gK σ a = 13 ∧ st.length ≤ 4) ∧ wc d 175 [.ref a] σ (fun r τ => wp d pr_273 Q 89 [x0, x1] (r.toList ++ st) τ) := w_callV rfl (by simp) rfl rfl
theorem e_273_89 {d : Nat} {Q : Option Value → gS → Prop} {x0 x1 : Option Value} {v0 : Value}  {st : List Value} {σ : gS} : wp d pr_273 Q 89 [x0, x1] (v0 :: st) σ ↔ st.length ≤ 4 ∧ wc d 167 [v0] σ (fun r τ => wp d pr_273 Q 92 [x0, x1] (r.toList ++ st) τ) := w_callS rfl (by simp) rfl rfl
theorem e_273_92 {d : Nat} {Q : Option Value → gS → Prop} {x0 x1 : Option Value} {v : Int32} {σ : gS} : wp d pr_273 Q 92 [x0, x1] [.int v] σ ↔ Q (some (.int v)) σ := w_iret rfl
theorem e_273_93 {d : Nat} {Q : Option Value → gS → Prop} {x1 : Option Value} {v : Nat} {st : List Value} {σ : gS} : wp d pr_273 Q 93 [some (.ref v), x1] st σ ↔ wp d pr_273 Q 94 [some (.ref v), x1] (.ref v :: st) σ := w_aload (k := 0) (n := 1) rfl rfl
theorem e_273_94 {d : Nat} {Q : Option Value → gS → Prop} {x0 x1 : Option Value} {a : Nat}  {st : List Value} {σ : gS} : wp d pr_273 Q 94 [x0, x1] (.ref a :: st) σ ↔ (gK σ a = 13 ∧ st.length ≤ 4) ∧ wc d 188 [.ref a] σ (fun r τ => wp d pr_273 Q 97 [x0, x1] (r.toList ++ st) τ) := w_callV rfl (by simp) rfl rfl
theorem e_273_97 {d : Nat} {Q : Option Value → gS → Prop} {x0 x1 : Option Value} {v : Int32} {σ : gS} : wp d pr_273 Q 97 [x0, x1] [.int v] σ ↔ Q (some (.int v)) σ := w_iret rfl
theorem e_273_98 {d : Nat} {Q : Option Value → gS → Prop} {x1 : Option Value} {v : Nat} {st : List Value} {σ : gS} : wp d pr_273 Q 98 [some (.ref v), x1] st σ ↔ wp d pr_273 Q 99 [some (.ref v), x1] (.ref v :: st) σ := w_aload (k := 0) (n := 1) rfl rfl
theorem e_273_99 {d : Nat} {Q : Option Value → gS → Prop} {x0 x1 : Option Value} {a : Nat} {st : List Value} {σ : gS} : wp d pr_273 Q 99 [x0, x1] (.ref a :: st) σ ↔ gK σ a = 13 ∧ ∃ q, gR σ a 3 = some q ∧ wp d pr_273 Q 102 [x0, x1] (.ref q :: st) σ := w_getR rfl
theorem e_273_102 {d : Nat} {Q : Option Value → gS → Prop} {x0 x1 : Option Value}  {st : List Value} {σ : gS} : wp d pr_273 Q 102 [x0, x1] st σ ↔ wp d pr_273 Q 105 [x0, x1] (.int (254) :: st) σ := w_push (n := 3) rfl
theorem e_273_105 {d : Nat} {Q : Option Value → gS → Prop} {x0 x1 : Option Value} {i : Int32} {a : Nat} {st : List Value} {σ : gS} : wp d pr_273 Q 105 [x0, x1] (.int i :: .ref a :: st) σ ↔ ((gK σ a = 21 ∨ gK σ a = 26) ∧ ¬ i < 0 ∧ i.toNatClampNeg < gN σ a) ∧ wp d pr_273 Q 106 [x0, x1] (.int (gI σ a i.toNatClampNeg) :: st) σ := w_iald rfl
theorem e_273_106 {d : Nat} {Q : Option Value → gS → Prop} {x0 x1 : Option Value} {v : Int32} {σ : gS} : wp d pr_273 Q 106 [x0, x1] [.int v] σ ↔ Q (some (.int v)) σ := w_iret rfl
theorem e_273_107 {d : Nat} {Q : Option Value → gS → Prop} {x1 : Option Value} {v : Nat} {st : List Value} {σ : gS} : wp d pr_273 Q 107 [some (.ref v), x1] st σ ↔ wp d pr_273 Q 108 [some (.ref v), x1] (.ref v :: st) σ := w_aload (k := 0) (n := 1) rfl rfl
theorem e_273_108 {d : Nat} {Q : Option Value → gS → Prop} {x0 x1 : Option Value} {a : Nat} {st : List Value} {σ : gS} : wp d pr_273 Q 108 [x0, x1] (.ref a :: st) σ ↔ gK σ a = 13 ∧ ∃ q, gR σ a 3 = some q ∧ wp d pr_273 Q 111 [x0, x1] (.ref q :: st) σ := w_getR rfl
theorem e_273_111 {d : Nat} {Q : Option Value → gS → Prop} {x0 x1 : Option Value}  {st : List Value} {σ : gS} : wp d pr_273 Q 111 [x0, x1] st σ ↔ wp d pr_273 Q 114 [x0, x1] (.int (251) :: st) σ := w_push (n := 3) rfl
theorem e_273_114 {d : Nat} {Q : Option Value → gS → Prop} {x0 x1 : Option Value} {i : Int32} {a : Nat} {st : List Value} {σ : gS} : wp d pr_273 Q 114 [x0, x1] (.int i :: .ref a :: st) σ ↔ ((gK σ a = 21 ∨ gK σ a = 26) ∧ ¬ i < 0 ∧ i.toNatClampNeg < gN σ a) ∧ wp d pr_273 Q 115 [x0, x1] (.int (gI σ a i.toNatClampNeg) :: st) σ := w_iald rfl
theorem e_273_115 {d : Nat} {Q : Option Value → gS → Prop} {x0 x1 : Option Value} {v : Int32} {σ : gS} : wp d pr_273 Q 115 [x0, x1] [.int v] σ ↔ Q (some (.int v)) σ := w_iret rfl
theorem e_273_116 {d : Nat} {Q : Option Value → gS → Prop} {x1 : Option Value} {v : Nat} {st : List Value} {σ : gS} : wp d pr_273 Q 116 [some (.ref v), x1] st σ ↔ wp d pr_273 Q 117 [some (.ref v), x1] (.ref v :: st) σ := w_aload (k := 0) (n := 1) rfl rfl
theorem e_273_117 {d : Nat} {Q : Option Value → gS → Prop} {x0 x1 : Option Value} {a : Nat} {st : List Value} {σ : gS} : wp d pr_273 Q 117 [x0, x1] (.ref a :: st) σ ↔ gK σ a = 13 ∧ ∃ q, gR σ a 3 = some q ∧ wp d pr_273 Q 120 [x0, x1] (.ref q :: st) σ := w_getR rfl
theorem e_273_120 {d : Nat} {Q : Option Value → gS → Prop} {x0 x1 : Option Value}  {st : List Value} {σ : gS} : wp d pr_273 Q 120 [x0, x1] st σ ↔ wp d pr_273 Q 123 [x0, x1] (.int (252) :: st) σ := w_push (n := 3) rfl
theorem e_273_123 {d : Nat} {Q : Option Value → gS → Prop} {x0 x1 : Option Value} {i : Int32} {a : Nat} {st : List Value} {σ : gS} : wp d pr_273 Q 123 [x0, x1] (.int i :: .ref a :: st) σ ↔ ((gK σ a = 21 ∨ gK σ a = 26) ∧ ¬ i < 0 ∧ i.toNatClampNeg < gN σ a) ∧ wp d pr_273 Q 124 [x0, x1] (.int (gI σ a i.toNatClampNeg) :: st) σ := w_iald rfl
theorem e_273_124 {d : Nat} {Q : Option Value → gS → Prop} {x0 x1 : Option Value} {v : Int32} {σ : gS} : wp d pr_273 Q 124 [x0, x1] [.int v] σ ↔ Q (some (.int v)) σ := w_iret rfl
theorem e_273_125 {d : Nat} {Q : Option Value → gS → Prop} {x1 : Option Value} {v : Nat} {st : List Value} {σ : gS} : wp d pr_273 Q 125 [some (.ref v), x1] st σ ↔ wp d pr_273 Q 126 [some (.ref v), x1] (.ref v :: st) σ := w_aload (k := 0) (n := 1) rfl rfl
theorem e_273_126 {d : Nat} {Q : Option Value → gS → Prop} {x0 x1 : Option Value} {a : Nat} {st : List Value} {σ : gS} : wp d pr_273 Q 126 [x0, x1] (.ref a :: st) σ ↔ gK σ a = 13 ∧ ∃ q, gR σ a 3 = some q ∧ wp d pr_273 Q 129 [x0, x1] (.ref q :: st) σ := w_getR rfl
theorem e_273_129 {d : Nat} {Q : Option Value → gS → Prop} {x0 x1 : Option Value}  {st : List Value} {σ : gS} : wp d pr_273 Q 129 [x0, x1] st σ ↔ wp d pr_273 Q 132 [x0, x1] (.int (253) :: st) σ := w_push (n := 3) rfl
theorem e_273_132 {d : Nat} {Q : Option Value → gS → Prop} {x0 x1 : Option Value} {i : Int32} {a : Nat} {st : List Value} {σ : gS} : wp d pr_273 Q 132 [x0, x1] (.int i :: .ref a :: st) σ ↔ ((gK σ a = 21 ∨ gK σ a = 26) ∧ ¬ i < 0 ∧ i.toNatClampNeg < gN σ a) ∧ wp d pr_273 Q 133 [x0, x1] (.int (gI σ a i.toNatClampNeg) :: st) σ := w_iald rfl
theorem e_273_133 {d : Nat} {Q : Option Value → gS → Prop} {x0 x1 : Option Value} {v : Int32} {σ : gS} : wp d pr_273 Q 133 [x0, x1] [.int v] σ ↔ Q (some (.int v)) σ := w_iret rfl
theorem e_273_134 {d : Nat} {Q : Option Value → gS → Prop} {x1 : Option Value} {v : Nat} {st : List Value} {σ : gS} : wp d pr_273 Q 134 [some (.ref v), x1] st σ ↔ wp d pr_273 Q 135 [some (.ref v), x1] (.ref v :: st) σ := w_aload (k := 0) (n := 1) rfl rfl
theorem e_273_135 {d : Nat} {Q : Option Value → gS → Prop} {x0 x1 : Option Value} {a : Nat} {st : List Value} {σ : gS} : wp d pr_273 Q 135 [x0, x1] (.ref a :: st) σ ↔ gK σ a = 13 ∧ wp d pr_273 Q 138 [x0, x1] (.int (gI σ a 10) :: st) σ := w_getI rfl
theorem e_273_138 {d : Nat} {Q : Option Value → gS → Prop} {x0 x1 : Option Value} {v : Int32} {σ : gS} : wp d pr_273 Q 138 [x0, x1] [.int v] σ ↔ Q (some (.int v)) σ := w_iret rfl
theorem e_273_139 {d : Nat} {Q : Option Value → gS → Prop} {x1 : Option Value} {v : Nat} {st : List Value} {σ : gS} : wp d pr_273 Q 139 [some (.ref v), x1] st σ ↔ wp d pr_273 Q 140 [some (.ref v), x1] (.ref v :: st) σ := w_aload (k := 0) (n := 1) rfl rfl
theorem e_273_140 {d : Nat} {Q : Option Value → gS → Prop} {x0 x1 : Option Value} {a : Nat} {st : List Value} {σ : gS} : wp d pr_273 Q 140 [x0, x1] (.ref a :: st) σ ↔ gK σ a = 13 ∧ ∃ q, gR σ a 2 = some q ∧ wp d pr_273 Q 143 [x0, x1] (.ref q :: st) σ := w_getR rfl
theorem e_273_143 {d : Nat} {Q : Option Value → gS → Prop} {x0 : Option Value} {v : Int32} {st : List Value} {σ : gS} : wp d pr_273 Q 143 [x0, some (.int v)] st σ ↔ wp d pr_273 Q 144 [x0, some (.int v)] (.int v :: st) σ := w_iload (k := 1) (n := 1) rfl rfl
theorem e_273_144 {d : Nat} {Q : Option Value → gS → Prop} {x0 x1 : Option Value}  {st : List Value} {σ : gS} : wp d pr_273 Q 144 [x0, x1] st σ ↔ wp d pr_273 Q 146 [x0, x1] (.int (7) :: st) σ := w_push (n := 2) rfl
theorem e_273_146 {d : Nat} {Q : Option Value → gS → Prop} {x0 x1 : Option Value} {x y : Int32} {st : List Value} {σ : gS} : wp d pr_273 Q 146 [x0, x1] (.int y :: .int x :: st) σ ↔ wp d pr_273 Q 147 [x0, x1] (.int (x - y) :: st) σ := w_bI (f := fun x y => x - y) rfl
theorem e_273_147 {d : Nat} {Q : Option Value → gS → Prop} {x0 x1 : Option Value} {i : Int32} {a : Nat} {st : List Value} {σ : gS} : wp d pr_273 Q 147 [x0, x1] (.int i :: .ref a :: st) σ ↔ ((gK σ a = 21 ∨ gK σ a = 26) ∧ ¬ i < 0 ∧ i.toNatClampNeg < gN σ a) ∧ wp d pr_273 Q 148 [x0, x1] (.int (gI σ a i.toNatClampNeg) :: st) σ := w_iald rfl
theorem e_273_148 {d : Nat} {Q : Option Value → gS → Prop} {x0 x1 : Option Value} {v : Int32} {σ : gS} : wp d pr_273 Q 148 [x0, x1] [.int v] σ ↔ Q (some (.int v)) σ := w_iret rfl
theorem e_273_149 {d : Nat} {Q : Option Value → gS → Prop} {x1 : Option Value} {v : Nat} {st : List Value} {σ : gS} : wp d pr_273 Q 149 [some (.ref v), x1] st σ ↔ wp d pr_273 Q 150 [some (.ref v), x1] (.ref v :: st) σ := w_aload (k := 0) (n := 1) rfl rfl
theorem e_273_150 {d : Nat} {Q : Option Value → gS → Prop} {x0 x1 : Option Value} {a : Nat} {st : List Value} {σ : gS} : wp d pr_273 Q 150 [x0, x1] (.ref a :: st) σ ↔ gK σ a = 13 ∧ ∃ q, gR σ a 2 = some q ∧ wp d pr_273 Q 153 [x0, x1] (.ref q :: st) σ := w_getR rfl
theorem e_273_153 {d : Nat} {Q : Option Value → gS → Prop} {x0 x1 : Option Value}  {st : List Value} {σ : gS} : wp d pr_273 Q 153 [x0, x1] st σ ↔ wp d pr_273 Q 154 [x0, x1] (.int (5) :: st) σ := w_push (n := 1) rfl
theorem e_273_154 {d : Nat} {Q : Option Value → gS → Prop} {x0 x1 : Option Value} {i : Int32} {a : Nat} {st : List Value} {σ : gS} : wp d pr_273 Q 154 [x0, x1] (.int i :: .ref a :: st) σ ↔ ((gK σ a = 21 ∨ gK σ a = 26) ∧ ¬ i < 0 ∧ i.toNatClampNeg < gN σ a) ∧ wp d pr_273 Q 155 [x0, x1] (.int (gI σ a i.toNatClampNeg) :: st) σ := w_iald rfl
theorem e_273_155 {d : Nat} {Q : Option Value → gS → Prop} {x0 x1 : Option Value} {v : Int32} {σ : gS} : wp d pr_273 Q 155 [x0, x1] [.int v] σ ↔ Q (some (.int v)) σ := w_iret rfl
theorem e_273_156 {d : Nat} {Q : Option Value → gS → Prop} {x1 : Option Value} {v : Nat} {st : List Value} {σ : gS} : wp d pr_273 Q 156 [some (.ref v), x1] st σ ↔ wp d pr_273 Q 157 [some (.ref v), x1] (.ref v :: st) σ := w_aload (k := 0) (n := 1) rfl rfl
theorem e_273_157 {d : Nat} {Q : Option Value → gS → Prop} {x0 x1 : Option Value} {a : Nat} {st : List Value} {σ : gS} : wp d pr_273 Q 157 [x0, x1] (.ref a :: st) σ ↔ gK σ a = 13 ∧ ∃ q, gR σ a 2 = some q ∧ wp d pr_273 Q 160 [x0, x1] (.ref q :: st) σ := w_getR rfl
theorem e_273_160 {d : Nat} {Q : Option Value → gS → Prop} {x0 x1 : Option Value}  {st : List Value} {σ : gS} : wp d pr_273 Q 160 [x0, x1] st σ ↔ wp d pr_273 Q 162 [x0, x1] (.int (6) :: st) σ := w_push (n := 2) rfl
theorem e_273_162 {d : Nat} {Q : Option Value → gS → Prop} {x0 x1 : Option Value} {i : Int32} {a : Nat} {st : List Value} {σ : gS} : wp d pr_273 Q 162 [x0, x1] (.int i :: .ref a :: st) σ ↔ ((gK σ a = 21 ∨ gK σ a = 26) ∧ ¬ i < 0 ∧ i.toNatClampNeg < gN σ a) ∧ wp d pr_273 Q 163 [x0, x1] (.int (gI σ a i.toNatClampNeg) :: st) σ := w_iald rfl
theorem e_273_163 {d : Nat} {Q : Option Value → gS → Prop} {x0 x1 : Option Value} {v : Int32} {σ : gS} : wp d pr_273 Q 163 [x0, x1] [.int v] σ ↔ Q (some (.int v)) σ := w_iret rfl
theorem e_273_164 {d : Nat} {Q : Option Value → gS → Prop} {x1 : Option Value} {v : Nat} {st : List Value} {σ : gS} : wp d pr_273 Q 164 [some (.ref v), x1] st σ ↔ wp d pr_273 Q 165 [some (.ref v), x1] (.ref v :: st) σ := w_aload (k := 0) (n := 1) rfl rfl
theorem e_273_165 {d : Nat} {Q : Option Value → gS → Prop} {x0 x1 : Option Value} {a : Nat} {st : List Value} {σ : gS} : wp d pr_273 Q 165 [x0, x1] (.ref a :: st) σ ↔ gK σ a = 13 ∧ ∃ q, gR σ a 3 = some q ∧ wp d pr_273 Q 168 [x0, x1] (.ref q :: st) σ := w_getR rfl
theorem e_273_168 {d : Nat} {Q : Option Value → gS → Prop} {x0 x1 : Option Value}  {st : List Value} {σ : gS} : wp d pr_273 Q 168 [x0, x1] st σ ↔ wp d pr_273 Q 171 [x0, x1] (.int (255) :: st) σ := w_push (n := 3) rfl
theorem e_273_171 {d : Nat} {Q : Option Value → gS → Prop} {x0 x1 : Option Value} {i : Int32} {a : Nat} {st : List Value} {σ : gS} : wp d pr_273 Q 171 [x0, x1] (.int i :: .ref a :: st) σ ↔ ((gK σ a = 21 ∨ gK σ a = 26) ∧ ¬ i < 0 ∧ i.toNatClampNeg < gN σ a) ∧ wp d pr_273 Q 172 [x0, x1] (.int (gI σ a i.toNatClampNeg) :: st) σ := w_iald rfl
theorem e_273_172 {d : Nat} {Q : Option Value → gS → Prop} {x0 x1 : Option Value} {v : Int32} {σ : gS} : wp d pr_273 Q 172 [x0, x1] [.int v] σ ↔ Q (some (.int v)) σ := w_iret rfl
theorem e_273_173 {d : Nat} {Q : Option Value → gS → Prop} {x1 : Option Value} {v : Nat} {st : List Value} {σ : gS} : wp d pr_273 Q 173 [some (.ref v), x1] st σ ↔ wp d pr_273 Q 174 [some (.ref v), x1] (.ref v :: st) σ := w_aload (k := 0) (n := 1) rfl rfl
theorem e_273_174 {d : Nat} {Q : Option Value → gS → Prop} {x0 x1 : Option Value} {a : Nat} {st : List Value} {σ : gS} : wp d pr_273 Q 174 [x0, x1] (.ref a :: st) σ ↔ gK σ a = 13 ∧ ∃ q, gR σ a 3 = some q ∧ wp d pr_273 Q 177 [x0, x1] (.ref q :: st) σ := w_getR rfl
theorem e_273_177 {d : Nat} {Q : Option Value → gS → Prop} {x0 x1 : Option Value}  {st : List Value} {σ : gS} : wp d pr_273 Q 177 [x0, x1] st σ ↔ wp d pr_273 Q 180 [x0, x1] (.int (248) :: st) σ := w_push (n := 3) rfl
set_option maxRecDepth 100000 in
theorem e_273_180 {d : Nat} {Q : Option Value → gS → Prop} {x0 : Option Value} {v : Int32} {st : List Value} {σ : gS} : wp d pr_273 Q 180 [x0, some (.int v)] st σ ↔ wp d pr_273 Q 181 [x0, some (.int v)] (.int v :: st) σ := w_iload (k := 1) (n := 1) rfl rfl
set_option maxRecDepth 100000 in
theorem e_273_181 {d : Nat} {Q : Option Value → gS → Prop} {x0 x1 : Option Value} {x y : Int32} {st : List Value} {σ : gS} : wp d pr_273 Q 181 [x0, x1] (.int y :: .int x :: st) σ ↔ wp d pr_273 Q 182 [x0, x1] (.int (x + y) :: st) σ := w_bI (f := fun x y => x + y) rfl
set_option maxRecDepth 100000 in
theorem e_273_182 {d : Nat} {Q : Option Value → gS → Prop} {x0 x1 : Option Value}  {st : List Value} {σ : gS} : wp d pr_273 Q 182 [x0, x1] st σ ↔ wp d pr_273 Q 184 [x0, x1] (.int (14) :: st) σ := w_push (n := 2) rfl
set_option maxRecDepth 100000 in
theorem e_273_184 {d : Nat} {Q : Option Value → gS → Prop} {x0 x1 : Option Value} {x y : Int32} {st : List Value} {σ : gS} : wp d pr_273 Q 184 [x0, x1] (.int y :: .int x :: st) σ ↔ wp d pr_273 Q 185 [x0, x1] (.int (x - y) :: st) σ := w_bI (f := fun x y => x - y) rfl
set_option maxRecDepth 100000 in
theorem e_273_185 {d : Nat} {Q : Option Value → gS → Prop} {x0 x1 : Option Value} {i : Int32} {a : Nat} {st : List Value} {σ : gS} : wp d pr_273 Q 185 [x0, x1] (.int i :: .ref a :: st) σ ↔ ((gK σ a = 21 ∨ gK σ a = 26) ∧ ¬ i < 0 ∧ i.toNatClampNeg < gN σ a) ∧ wp d pr_273 Q 186 [x0, x1] (.int (gI σ a i.toNatClampNeg) :: st) σ := w_iald rfl
set_option maxRecDepth 100000 in
theorem e_273_186 {d : Nat} {Q : Option Value → gS → Prop} {x0 x1 : Option Value} {v : Int32} {σ : gS} : wp d pr_273 Q 186 [x0, x1] [.int v] σ ↔ Q (some (.int v)) σ := w_iret rfl
set_option maxRecDepth 100000 in
theorem e_273_187 {d : Nat} {Q : Option Value → gS → Prop} {x0 x1 : Option Value}  {st : List Value} {σ : gS} : wp d pr_273 Q 187 [x0, x1] st σ ↔ wp d pr_273 Q 188 [x0, x1] (.int (-1) :: st) σ := w_push (n := 1) rfl
set_option maxRecDepth 100000 in
theorem e_273_188 {d : Nat} {Q : Option Value → gS → Prop} {x0 x1 : Option Value} {v : Int32} {σ : gS} : wp d pr_273 Q 188 [x0, x1] [.int v] σ ↔ Q (some (.int v)) σ := w_iret rfl
theorem c_273 {d : Nat} {Q : Option Value → gS → Prop} {a : Nat} {p0 : Int32} {σ : gS} : wc (d + 1) 273 [.ref a, .int p0] σ Q ↔ wp d pr_273 Q 0 [some (.ref a), some (.int p0)] [] σ := wc_iff (Nat.le_of_ble_eq_true rfl) rfl
theorem e_274_0 {d : Nat} {Q : Option Value → gS → Prop} {v : Nat} {st : List Value} {σ : gS} : wp d pr_274 Q 0 [some (.ref v)] st σ ↔ wp d pr_274 Q 1 [some (.ref v)] (.ref v :: st) σ := w_aload (k := 0) (n := 1) rfl rfl
theorem e_274_1 {d : Nat} {Q : Option Value → gS → Prop} {x0 : Option Value} {a : Nat} {st : List Value} {σ : gS} : wp d pr_274 Q 1 [x0] (.ref a :: st) σ ↔ gK σ a = 13 ∧ wp d pr_274 Q 4 [x0] (.int (gI σ a 0) :: st) σ := w_getI rfl
theorem e_274_4 {d : Nat} {Q : Option Value → gS → Prop} {x0 : Option Value} {v : Int32} {σ : gS} : wp d pr_274 Q 4 [x0] [.int v] σ ↔ Q (some (.int v)) σ := w_iret rfl
theorem c_274 {d : Nat} {Q : Option Value → gS → Prop} {a : Nat} {σ : gS} : wc (d + 1) 274 [.ref a] σ Q ↔ wp d pr_274 Q 0 [some (.ref a)] [] σ := wc_iff (Nat.le_of_ble_eq_true rfl) rfl
theorem e_275_0 {d : Nat} {Q : Option Value → gS → Prop} {v : Int32} {st : List Value} {σ : gS} : wp d pr_275 Q 0 [some (.int v)] st σ ↔ wp d pr_275 Q 1 [some (.int v)] (.int v :: st) σ := w_iload (k := 0) (n := 1) rfl rfl
theorem e_275_1 {d : Nat} {Q : Option Value → gS → Prop} {v : Int32} {st : List Value} {σ : gS} : wp d pr_275 Q 1 [some (.int v)] st σ ↔ wp d pr_275 Q 2 [some (.int v)] (.int v :: st) σ := w_iload (k := 0) (n := 1) rfl rfl
theorem e_275_2 {d : Nat} {Q : Option Value → gS → Prop} {x0 : Option Value}  {st : List Value} {σ : gS} : wp d pr_275 Q 2 [x0] st σ ↔ wp d pr_275 Q 3 [x0] (.int (1) :: st) σ := w_push (n := 1) rfl
theorem e_275_3 {d : Nat} {Q : Option Value → gS → Prop} {x0 : Option Value} {x y : Int32} {st : List Value} {σ : gS} : wp d pr_275 Q 3 [x0] (.int y :: .int x :: st) σ ↔ wp d pr_275 Q 4 [x0] (.int ((x.toUInt32 >>> (y.toUInt32 &&& Int32.toUInt32 31)).toInt32) :: st) σ := w_bI (f := fun x y => (x.toUInt32 >>> (y.toUInt32 &&& Int32.toUInt32 31)).toInt32) rfl
theorem e_275_4 {d : Nat} {Q : Option Value → gS → Prop} {x0 : Option Value}  {st : List Value} {σ : gS} : wp d pr_275 Q 4 [x0] st σ ↔ wp d pr_275 Q 7 [x0] (.int (1431655765) :: st) σ := w_push (n := 3) rfl
theorem e_275_7 {d : Nat} {Q : Option Value → gS → Prop} {x0 : Option Value} {x y : Int32} {st : List Value} {σ : gS} : wp d pr_275 Q 7 [x0] (.int y :: .int x :: st) σ ↔ wp d pr_275 Q 8 [x0] (.int (x &&& y) :: st) σ := w_bI (f := fun x y => x &&& y) rfl
theorem e_275_8 {d : Nat} {Q : Option Value → gS → Prop} {x0 : Option Value} {x y : Int32} {st : List Value} {σ : gS} : wp d pr_275 Q 8 [x0] (.int y :: .int x :: st) σ ↔ wp d pr_275 Q 9 [x0] (.int (x - y) :: st) σ := w_bI (f := fun x y => x - y) rfl
theorem e_275_9 {d : Nat} {Q : Option Value → gS → Prop} {x0 : Option Value} {v : Int32} {st : List Value} {σ : gS} : wp d pr_275 Q 9 [x0] (.int v :: st) σ ↔ wp d pr_275 Q 10 [some (.int v)] (st) σ := w_istore0 (n := 1) rfl (Nat.le_of_ble_eq_true rfl) rfl
theorem e_275_10 {d : Nat} {Q : Option Value → gS → Prop} {v : Int32} {st : List Value} {σ : gS} : wp d pr_275 Q 10 [some (.int v)] st σ ↔ wp d pr_275 Q 11 [some (.int v)] (.int v :: st) σ := w_iload (k := 0) (n := 1) rfl rfl
theorem e_275_11 {d : Nat} {Q : Option Value → gS → Prop} {x0 : Option Value}  {st : List Value} {σ : gS} : wp d pr_275 Q 11 [x0] st σ ↔ wp d pr_275 Q 14 [x0] (.int (858993459) :: st) σ := w_push (n := 3) rfl
theorem e_275_14 {d : Nat} {Q : Option Value → gS → Prop} {x0 : Option Value} {x y : Int32} {st : List Value} {σ : gS} : wp d pr_275 Q 14 [x0] (.int y :: .int x :: st) σ ↔ wp d pr_275 Q 15 [x0] (.int (x &&& y) :: st) σ := w_bI (f := fun x y => x &&& y) rfl
theorem e_275_15 {d : Nat} {Q : Option Value → gS → Prop} {v : Int32} {st : List Value} {σ : gS} : wp d pr_275 Q 15 [some (.int v)] st σ ↔ wp d pr_275 Q 16 [some (.int v)] (.int v :: st) σ := w_iload (k := 0) (n := 1) rfl rfl
theorem e_275_16 {d : Nat} {Q : Option Value → gS → Prop} {x0 : Option Value}  {st : List Value} {σ : gS} : wp d pr_275 Q 16 [x0] st σ ↔ wp d pr_275 Q 17 [x0] (.int (2) :: st) σ := w_push (n := 1) rfl
theorem e_275_17 {d : Nat} {Q : Option Value → gS → Prop} {x0 : Option Value} {x y : Int32} {st : List Value} {σ : gS} : wp d pr_275 Q 17 [x0] (.int y :: .int x :: st) σ ↔ wp d pr_275 Q 18 [x0] (.int ((x.toUInt32 >>> (y.toUInt32 &&& Int32.toUInt32 31)).toInt32) :: st) σ := w_bI (f := fun x y => (x.toUInt32 >>> (y.toUInt32 &&& Int32.toUInt32 31)).toInt32) rfl
theorem e_275_18 {d : Nat} {Q : Option Value → gS → Prop} {x0 : Option Value}  {st : List Value} {σ : gS} : wp d pr_275 Q 18 [x0] st σ ↔ wp d pr_275 Q 21 [x0] (.int (858993459) :: st) σ := w_push (n := 3) rfl
theorem e_275_21 {d : Nat} {Q : Option Value → gS → Prop} {x0 : Option Value} {x y : Int32} {st : List Value} {σ : gS} : wp d pr_275 Q 21 [x0] (.int y :: .int x :: st) σ ↔ wp d pr_275 Q 22 [x0] (.int (x &&& y) :: st) σ := w_bI (f := fun x y => x &&& y) rfl
theorem e_275_22 {d : Nat} {Q : Option Value → gS → Prop} {x0 : Option Value} {x y : Int32} {st : List Value} {σ : gS} : wp d pr_275 Q 22 [x0] (.int y :: .int x :: st) σ ↔ wp d pr_275 Q 23 [x0] (.int (x + y) :: st) σ := w_bI (f := fun x y => x + y) rfl
theorem e_275_23 {d : Nat} {Q : Option Value → gS → Prop} {x0 : Option Value} {v : Int32} {st : List Value} {σ : gS} : wp d pr_275 Q 23 [x0] (.int v :: st) σ ↔ wp d pr_275 Q 24 [some (.int v)] (st) σ := w_istore0 (n := 1) rfl (Nat.le_of_ble_eq_true rfl) rfl
theorem e_275_24 {d : Nat} {Q : Option Value → gS → Prop} {v : Int32} {st : List Value} {σ : gS} : wp d pr_275 Q 24 [some (.int v)] st σ ↔ wp d pr_275 Q 25 [some (.int v)] (.int v :: st) σ := w_iload (k := 0) (n := 1) rfl rfl
theorem e_275_25 {d : Nat} {Q : Option Value → gS → Prop} {v : Int32} {st : List Value} {σ : gS} : wp d pr_275 Q 25 [some (.int v)] st σ ↔ wp d pr_275 Q 26 [some (.int v)] (.int v :: st) σ := w_iload (k := 0) (n := 1) rfl rfl
theorem e_275_26 {d : Nat} {Q : Option Value → gS → Prop} {x0 : Option Value}  {st : List Value} {σ : gS} : wp d pr_275 Q 26 [x0] st σ ↔ wp d pr_275 Q 27 [x0] (.int (4) :: st) σ := w_push (n := 1) rfl
theorem e_275_27 {d : Nat} {Q : Option Value → gS → Prop} {x0 : Option Value} {x y : Int32} {st : List Value} {σ : gS} : wp d pr_275 Q 27 [x0] (.int y :: .int x :: st) σ ↔ wp d pr_275 Q 28 [x0] (.int ((x.toUInt32 >>> (y.toUInt32 &&& Int32.toUInt32 31)).toInt32) :: st) σ := w_bI (f := fun x y => (x.toUInt32 >>> (y.toUInt32 &&& Int32.toUInt32 31)).toInt32) rfl
theorem e_275_28 {d : Nat} {Q : Option Value → gS → Prop} {x0 : Option Value} {x y : Int32} {st : List Value} {σ : gS} : wp d pr_275 Q 28 [x0] (.int y :: .int x :: st) σ ↔ wp d pr_275 Q 29 [x0] (.int (x + y) :: st) σ := w_bI (f := fun x y => x + y) rfl
theorem e_275_29 {d : Nat} {Q : Option Value → gS → Prop} {x0 : Option Value}  {st : List Value} {σ : gS} : wp d pr_275 Q 29 [x0] st σ ↔ wp d pr_275 Q 32 [x0] (.int (252645135) :: st) σ := w_push (n := 3) rfl
theorem e_275_32 {d : Nat} {Q : Option Value → gS → Prop} {x0 : Option Value} {x y : Int32} {st : List Value} {σ : gS} : wp d pr_275 Q 32 [x0] (.int y :: .int x :: st) σ ↔ wp d pr_275 Q 33 [x0] (.int (x &&& y) :: st) σ := w_bI (f := fun x y => x &&& y) rfl
theorem e_275_33 {d : Nat} {Q : Option Value → gS → Prop} {x0 : Option Value} {v : Int32} {st : List Value} {σ : gS} : wp d pr_275 Q 33 [x0] (.int v :: st) σ ↔ wp d pr_275 Q 34 [some (.int v)] (st) σ := w_istore0 (n := 1) rfl (Nat.le_of_ble_eq_true rfl) rfl
theorem e_275_34 {d : Nat} {Q : Option Value → gS → Prop} {v : Int32} {st : List Value} {σ : gS} : wp d pr_275 Q 34 [some (.int v)] st σ ↔ wp d pr_275 Q 35 [some (.int v)] (.int v :: st) σ := w_iload (k := 0) (n := 1) rfl rfl
theorem e_275_35 {d : Nat} {Q : Option Value → gS → Prop} {v : Int32} {st : List Value} {σ : gS} : wp d pr_275 Q 35 [some (.int v)] st σ ↔ wp d pr_275 Q 36 [some (.int v)] (.int v :: st) σ := w_iload (k := 0) (n := 1) rfl rfl
theorem e_275_36 {d : Nat} {Q : Option Value → gS → Prop} {x0 : Option Value}  {st : List Value} {σ : gS} : wp d pr_275 Q 36 [x0] st σ ↔ wp d pr_275 Q 38 [x0] (.int (8) :: st) σ := w_push (n := 2) rfl
theorem e_275_38 {d : Nat} {Q : Option Value → gS → Prop} {x0 : Option Value} {x y : Int32} {st : List Value} {σ : gS} : wp d pr_275 Q 38 [x0] (.int y :: .int x :: st) σ ↔ wp d pr_275 Q 39 [x0] (.int ((x.toUInt32 >>> (y.toUInt32 &&& Int32.toUInt32 31)).toInt32) :: st) σ := w_bI (f := fun x y => (x.toUInt32 >>> (y.toUInt32 &&& Int32.toUInt32 31)).toInt32) rfl
theorem e_275_39 {d : Nat} {Q : Option Value → gS → Prop} {x0 : Option Value} {x y : Int32} {st : List Value} {σ : gS} : wp d pr_275 Q 39 [x0] (.int y :: .int x :: st) σ ↔ wp d pr_275 Q 40 [x0] (.int (x + y) :: st) σ := w_bI (f := fun x y => x + y) rfl
theorem e_275_40 {d : Nat} {Q : Option Value → gS → Prop} {x0 : Option Value} {v : Int32} {st : List Value} {σ : gS} : wp d pr_275 Q 40 [x0] (.int v :: st) σ ↔ wp d pr_275 Q 41 [some (.int v)] (st) σ := w_istore0 (n := 1) rfl (Nat.le_of_ble_eq_true rfl) rfl
theorem e_275_41 {d : Nat} {Q : Option Value → gS → Prop} {v : Int32} {st : List Value} {σ : gS} : wp d pr_275 Q 41 [some (.int v)] st σ ↔ wp d pr_275 Q 42 [some (.int v)] (.int v :: st) σ := w_iload (k := 0) (n := 1) rfl rfl
theorem e_275_42 {d : Nat} {Q : Option Value → gS → Prop} {v : Int32} {st : List Value} {σ : gS} : wp d pr_275 Q 42 [some (.int v)] st σ ↔ wp d pr_275 Q 43 [some (.int v)] (.int v :: st) σ := w_iload (k := 0) (n := 1) rfl rfl
theorem e_275_43 {d : Nat} {Q : Option Value → gS → Prop} {x0 : Option Value}  {st : List Value} {σ : gS} : wp d pr_275 Q 43 [x0] st σ ↔ wp d pr_275 Q 45 [x0] (.int (16) :: st) σ := w_push (n := 2) rfl
theorem e_275_45 {d : Nat} {Q : Option Value → gS → Prop} {x0 : Option Value} {x y : Int32} {st : List Value} {σ : gS} : wp d pr_275 Q 45 [x0] (.int y :: .int x :: st) σ ↔ wp d pr_275 Q 46 [x0] (.int ((x.toUInt32 >>> (y.toUInt32 &&& Int32.toUInt32 31)).toInt32) :: st) σ := w_bI (f := fun x y => (x.toUInt32 >>> (y.toUInt32 &&& Int32.toUInt32 31)).toInt32) rfl
theorem e_275_46 {d : Nat} {Q : Option Value → gS → Prop} {x0 : Option Value} {x y : Int32} {st : List Value} {σ : gS} : wp d pr_275 Q 46 [x0] (.int y :: .int x :: st) σ ↔ wp d pr_275 Q 47 [x0] (.int (x + y) :: st) σ := w_bI (f := fun x y => x + y) rfl
theorem e_275_47 {d : Nat} {Q : Option Value → gS → Prop} {x0 : Option Value} {v : Int32} {st : List Value} {σ : gS} : wp d pr_275 Q 47 [x0] (.int v :: st) σ ↔ wp d pr_275 Q 48 [some (.int v)] (st) σ := w_istore0 (n := 1) rfl (Nat.le_of_ble_eq_true rfl) rfl
theorem e_275_48 {d : Nat} {Q : Option Value → gS → Prop} {v : Int32} {st : List Value} {σ : gS} : wp d pr_275 Q 48 [some (.int v)] st σ ↔ wp d pr_275 Q 49 [some (.int v)] (.int v :: st) σ := w_iload (k := 0) (n := 1) rfl rfl
theorem e_275_49 {d : Nat} {Q : Option Value → gS → Prop} {x0 : Option Value}  {st : List Value} {σ : gS} : wp d pr_275 Q 49 [x0] st σ ↔ wp d pr_275 Q 51 [x0] (.int (63) :: st) σ := w_push (n := 2) rfl
theorem e_275_51 {d : Nat} {Q : Option Value → gS → Prop} {x0 : Option Value} {x y : Int32} {st : List Value} {σ : gS} : wp d pr_275 Q 51 [x0] (.int y :: .int x :: st) σ ↔ wp d pr_275 Q 52 [x0] (.int (x &&& y) :: st) σ := w_bI (f := fun x y => x &&& y) rfl
theorem e_275_52 {d : Nat} {Q : Option Value → gS → Prop} {x0 : Option Value} {v : Int32} {σ : gS} : wp d pr_275 Q 52 [x0] [.int v] σ ↔ Q (some (.int v)) σ := w_iret rfl
theorem c_275 {d : Nat} {Q : Option Value → gS → Prop} {p0 : Int32} {σ : gS} : wc (d + 1) 275 [.int p0] σ Q ↔ wp d pr_275 Q 0 [some (.int p0)] [] σ := wc_iff (Nat.le_of_ble_eq_true rfl) rfl
theorem e_276_0 {d : Nat} {Q : Option Value → gS → Prop} {v : Nat} {st : List Value} {σ : gS} : wp d pr_276 Q 0 [some (.ref v)] st σ ↔ wp d pr_276 Q 1 [some (.ref v)] (.ref v :: st) σ := w_aload (k := 0) (n := 1) rfl rfl
theorem e_276_1 {d : Nat} {Q : Option Value → gS → Prop} {x0 : Option Value} {a j : Nat} {st : List Value} {σ : gS} (hF : gFs σ a = some j) : wp d pr_276 Q 1 [x0] (.ref a :: st) σ ↔ wp d pr_276 Q 4 [x0] (.ref (gT σ (16 + j)) :: st) σ := w_sval rfl hF
theorem e_276_4 {d : Nat} {Q : Option Value → gS → Prop} {x0 : Option Value} {a : Nat} {st : List Value} {σ : gS} (hK : 20 ≤ gK σ a ∧ gK σ a < 27) : wp d pr_276 Q 4 [x0] (.ref a :: st) σ ↔ wp d pr_276 Q 5 [x0] (.int (Int32.ofNat (gN σ a)) :: st) σ := w_alen rfl hK
theorem e_276_4n {d : Nat} {Q : Option Value → gS → Prop} {x0 : Option Value} {a j : Nat} {st : List Value} {σ : gS} (hK : gK σ a = 0) (hF : gFw σ a = some j) : wp d pr_276 Q 4 [x0] (.ref a :: st) σ ↔ wp d pr_276 Q 5 [x0] (.int (Int32.ofNat (gSl j)) :: st) σ := w_alenS rfl hK hF
theorem e_276_5 {d : Nat} {Q : Option Value → gS → Prop} {v : Nat} {st : List Value} {σ : gS} : wp d pr_276 Q 5 [some (.ref v)] st σ ↔ wp d pr_276 Q 6 [some (.ref v)] (.ref v :: st) σ := w_aload (k := 0) (n := 1) rfl rfl
theorem e_276_6 {d : Nat} {Q : Option Value → gS → Prop} {x0 : Option Value} {a : Nat}  {st : List Value} {σ : gS} : wp d pr_276 Q 6 [x0] (.ref a :: st) σ ↔ ((gFs σ a).isSome = true ∧ st.length ≤ 4) ∧ wc d 278 [.ref a] σ (fun r τ => wp d pr_276 Q 9 [x0] (r.toList ++ st) τ) := w_callT rfl (by simp) rfl rfl
theorem e_276_9 {d : Nat} {Q : Option Value → gS → Prop} {x0 : Option Value} {x y : Int32} {st : List Value} {σ : gS} : wp d pr_276 Q 9 [x0] (.int y :: .int x :: st) σ ↔ wp d pr_276 Q 10 [x0] (.int (x >>> (y &&& 31)) :: st) σ := w_bI (f := fun x y => x >>> (y &&& 31)) rfl
theorem e_276_10 {d : Nat} {Q : Option Value → gS → Prop} {x0 : Option Value} {v : Int32} {σ : gS} : wp d pr_276 Q 10 [x0] [.int v] σ ↔ Q (some (.int v)) σ := w_iret rfl
theorem c_276 {d : Nat} {Q : Option Value → gS → Prop} {a : Nat} {σ : gS} : wc (d + 1) 276 [.ref a] σ Q ↔ wp d pr_276 Q 0 [some (.ref a)] [] σ := wc_iff (Nat.le_of_ble_eq_true rfl) rfl
theorem e_277_0 {d : Nat} {Q : Option Value → gS → Prop} {x1 : Option Value} {v : Nat} {st : List Value} {σ : gS} : wp d pr_277 Q 0 [some (.ref v), x1] st σ ↔ wp d pr_277 Q 1 [some (.ref v), x1] (.ref v :: st) σ := w_aload (k := 0) (n := 1) rfl rfl
theorem e_277_1 {d : Nat} {Q : Option Value → gS → Prop} {x0 x1 : Option Value} {a : Nat}  {st : List Value} {σ : gS} : wp d pr_277 Q 1 [x0, x1] (.ref a :: st) σ ↔ ((gFs σ a).isSome = true ∧ st.length ≤ 4) ∧ wc d 279 [.ref a] σ (fun r τ => wp d pr_277 Q 4 [x0, x1] (r.toList ++ st) τ) := w_callT rfl (by simp) rfl rfl
theorem e_277_4 {d : Nat} {Q : Option Value → gS → Prop} {x0 x1 : Option Value} {x : Int32} {st : List Value} {σ : gS} : wp d pr_277 Q 4 [x0, x1] (.int x :: st) σ ↔ ((x = 0) → wp d pr_277 Q 16 [x0, x1] (st) σ) ∧ (¬ (x = 0) → wp d pr_277 Q 7 [x0, x1] (st) σ) := w_if rfl decide_eq_true_iff
theorem e_277_7 {d : Nat} {Q : Option Value → gS → Prop} {x1 : Option Value} {v : Nat} {st : List Value} {σ : gS} : wp d pr_277 Q 7 [some (.ref v), x1] st σ ↔ wp d pr_277 Q 8 [some (.ref v), x1] (.ref v :: st) σ := w_aload (k := 0) (n := 1) rfl rfl
theorem e_277_8 {d : Nat} {Q : Option Value → gS → Prop} {x0 x1 : Option Value} {a j : Nat} {st : List Value} {σ : gS} (hF : gFs σ a = some j) : wp d pr_277 Q 8 [x0, x1] (.ref a :: st) σ ↔ wp d pr_277 Q 11 [x0, x1] (.ref (gT σ (16 + j)) :: st) σ := w_sval rfl hF
theorem e_277_11 {d : Nat} {Q : Option Value → gS → Prop} {x0 : Option Value} {v : Int32} {st : List Value} {σ : gS} : wp d pr_277 Q 11 [x0, some (.int v)] st σ ↔ wp d pr_277 Q 12 [x0, some (.int v)] (.int v :: st) σ := w_iload (k := 1) (n := 1) rfl rfl
theorem e_277_12 {d : Nat} {Q : Option Value → gS → Prop} {x0 x1 : Option Value} {v0 v1 : Value}  {st : List Value} {σ : gS} : wp d pr_277 Q 12 [x0, x1] (v1 :: v0 :: st) σ ↔ st.length ≤ 4 ∧ wc d 281 [v0, v1] σ (fun r τ => wp d pr_277 Q 15 [x0, x1] (r.toList ++ st) τ) := w_callS rfl (by simp) rfl rfl
theorem e_277_15 {d : Nat} {Q : Option Value → gS → Prop} {x0 x1 : Option Value} {v : Int32} {σ : gS} : wp d pr_277 Q 15 [x0, x1] [.int v] σ ↔ narrow .char (.int v) = .int v ∧ Q (some (.int v)) σ := w_tret rfl
theorem e_277_16 {d : Nat} {Q : Option Value → gS → Prop} {x1 : Option Value} {v : Nat} {st : List Value} {σ : gS} : wp d pr_277 Q 16 [some (.ref v), x1] st σ ↔ wp d pr_277 Q 17 [some (.ref v), x1] (.ref v :: st) σ := w_aload (k := 0) (n := 1) rfl rfl
theorem e_277_17 {d : Nat} {Q : Option Value → gS → Prop} {x0 x1 : Option Value} {a j : Nat} {st : List Value} {σ : gS} (hF : gFs σ a = some j) : wp d pr_277 Q 17 [x0, x1] (.ref a :: st) σ ↔ wp d pr_277 Q 20 [x0, x1] (.ref (gT σ (16 + j)) :: st) σ := w_sval rfl hF
theorem e_277_20 {d : Nat} {Q : Option Value → gS → Prop} {x0 : Option Value} {v : Int32} {st : List Value} {σ : gS} : wp d pr_277 Q 20 [x0, some (.int v)] st σ ↔ wp d pr_277 Q 21 [x0, some (.int v)] (.int v :: st) σ := w_iload (k := 1) (n := 1) rfl rfl
theorem e_277_24 {d : Nat} {Q : Option Value → gS → Prop} {x0 x1 : Option Value} {v : Int32} {σ : gS} : wp d pr_277 Q 24 [x0, x1] [.int v] σ ↔ narrow .char (.int v) = .int v ∧ Q (some (.int v)) σ := w_tret rfl
theorem c_277 {d : Nat} {Q : Option Value → gS → Prop} {a : Nat} {p0 : Int32} {σ : gS} : wc (d + 1) 277 [.ref a, .int p0] σ Q ↔ wp d pr_277 Q 0 [some (.ref a), some (.int p0)] [] σ := wc_iff (Nat.le_of_ble_eq_true rfl) rfl
theorem e_278_0 {d : Nat} {Q : Option Value → gS → Prop} {x0 : Option Value}  {st : List Value} {σ : gS} : wp d pr_278 Q 0 [x0] st σ ↔ wp d pr_278 Q 3 [x0] (.int 1 :: st) σ := w_push (n := 3) rfl
theorem e_278_3 {d : Nat} {Q : Option Value → gS → Prop} {x0 : Option Value} {x : Int32} {st : List Value} {σ : gS} : wp d pr_278 Q 3 [x0] (.int x :: st) σ ↔ ((x = 0) → wp d pr_278 Q 13 [x0] (st) σ) ∧ (¬ (x = 0) → wp d pr_278 Q 6 [x0] (st) σ) := w_if rfl decide_eq_true_iff
theorem e_278_6 {d : Nat} {Q : Option Value → gS → Prop} {v : Nat} {st : List Value} {σ : gS} : wp d pr_278 Q 6 [some (.ref v)] st σ ↔ wp d pr_278 Q 7 [some (.ref v)] (.ref v :: st) σ := w_aload (k := 0) (n := 1) rfl rfl
theorem e_278_7 {d : Nat} {Q : Option Value → gS → Prop} {x0 : Option Value} {a j : Nat} {st : List Value} {σ : gS} (hF : gFs σ a = some j) : wp d pr_278 Q 7 [x0] (.ref a :: st) σ ↔ wp d pr_278 Q 10 [x0] (.int 0 :: st) σ := w_scod rfl hF
theorem e_278_10 {d : Nat} {Q : Option Value → gS → Prop} {x0 : Option Value}  {st : List Value} {σ : gS} : wp d pr_278 Q 10 [x0] st σ ↔ wp d pr_278 Q 14 [x0] (st) σ := w_goto rfl
theorem e_278_13 {d : Nat} {Q : Option Value → gS → Prop} {x0 : Option Value}  {st : List Value} {σ : gS} : wp d pr_278 Q 13 [x0] st σ ↔ wp d pr_278 Q 14 [x0] (.int (1) :: st) σ := w_push (n := 1) rfl
theorem e_278_14 {d : Nat} {Q : Option Value → gS → Prop} {x0 : Option Value} {v : Int32} {σ : gS} : wp d pr_278 Q 14 [x0] [.int v] σ ↔ narrow .byte (.int v) = .int v ∧ Q (some (.int v)) σ := w_tret rfl
theorem c_278 {d : Nat} {Q : Option Value → gS → Prop} {a : Nat} {σ : gS} : wc (d + 1) 278 [.ref a] σ Q ↔ wp d pr_278 Q 0 [some (.ref a)] [] σ := wc_iff (Nat.le_of_ble_eq_true rfl) rfl
theorem e_279_0 {d : Nat} {Q : Option Value → gS → Prop} {x0 : Option Value}  {st : List Value} {σ : gS} : wp d pr_279 Q 0 [x0] st σ ↔ wp d pr_279 Q 3 [x0] (.int 1 :: st) σ := w_push (n := 3) rfl
theorem e_279_3 {d : Nat} {Q : Option Value → gS → Prop} {x0 : Option Value} {x : Int32} {st : List Value} {σ : gS} : wp d pr_279 Q 3 [x0] (.int x :: st) σ ↔ ((x = 0) → wp d pr_279 Q 17 [x0] (st) σ) ∧ (¬ (x = 0) → wp d pr_279 Q 6 [x0] (st) σ) := w_if rfl decide_eq_true_iff
theorem e_279_6 {d : Nat} {Q : Option Value → gS → Prop} {v : Nat} {st : List Value} {σ : gS} : wp d pr_279 Q 6 [some (.ref v)] st σ ↔ wp d pr_279 Q 7 [some (.ref v)] (.ref v :: st) σ := w_aload (k := 0) (n := 1) rfl rfl
theorem e_279_7 {d : Nat} {Q : Option Value → gS → Prop} {x0 : Option Value} {a j : Nat} {st : List Value} {σ : gS} (hF : gFs σ a = some j) : wp d pr_279 Q 7 [x0] (.ref a :: st) σ ↔ wp d pr_279 Q 10 [x0] (.int 0 :: st) σ := w_scod rfl hF
theorem e_279_10 {d : Nat} {Q : Option Value → gS → Prop} {x0 : Option Value} {x : Int32} {st : List Value} {σ : gS} : wp d pr_279 Q 10 [x0] (.int x :: st) σ ↔ ((x ≠ 0) → wp d pr_279 Q 17 [x0] (st) σ) ∧ (¬ (x ≠ 0) → wp d pr_279 Q 13 [x0] (st) σ) := w_if rfl decide_eq_true_iff
theorem e_279_13 {d : Nat} {Q : Option Value → gS → Prop} {x0 : Option Value}  {st : List Value} {σ : gS} : wp d pr_279 Q 13 [x0] st σ ↔ wp d pr_279 Q 14 [x0] (.int (1) :: st) σ := w_push (n := 1) rfl
theorem e_279_14 {d : Nat} {Q : Option Value → gS → Prop} {x0 : Option Value}  {st : List Value} {σ : gS} : wp d pr_279 Q 14 [x0] st σ ↔ wp d pr_279 Q 18 [x0] (st) σ := w_goto rfl
theorem e_279_17 {d : Nat} {Q : Option Value → gS → Prop} {x0 : Option Value}  {st : List Value} {σ : gS} : wp d pr_279 Q 17 [x0] st σ ↔ wp d pr_279 Q 18 [x0] (.int (0) :: st) σ := w_push (n := 1) rfl
theorem e_279_18 {d : Nat} {Q : Option Value → gS → Prop} {x0 : Option Value} {v : Int32} {σ : gS} : wp d pr_279 Q 18 [x0] [.int v] σ ↔ (v = 0 ∨ v = 1) ∧ Q (some (.int v)) σ := w_zret rfl
theorem c_279 {d : Nat} {Q : Option Value → gS → Prop} {a : Nat} {σ : gS} : wc (d + 1) 279 [.ref a] σ Q ↔ wp d pr_279 Q 0 [some (.ref a)] [] σ := wc_iff (Nat.le_of_ble_eq_true rfl) rfl
theorem e_280_0 {d : Nat} {Q : Option Value → gS → Prop} {x1 : Option Value} {v : Int32} {st : List Value} {σ : gS} : wp d pr_280 Q 0 [some (.int v), x1] st σ ↔ wp d pr_280 Q 1 [some (.int v), x1] (.int v :: st) σ := w_iload (k := 0) (n := 1) rfl rfl
theorem e_280_1 {d : Nat} {Q : Option Value → gS → Prop} {x0 : Option Value} {v : Int32} {st : List Value} {σ : gS} : wp d pr_280 Q 1 [x0, some (.int v)] st σ ↔ wp d pr_280 Q 2 [x0, some (.int v)] (.int v :: st) σ := w_iload (k := 1) (n := 1) rfl rfl
theorem e_280_2 {d : Nat} {Q : Option Value → gS → Prop} {x0 x1 : Option Value}  {st : List Value} {σ : gS} (hT : gT σ 15 = 0) : wp d pr_280 Q 2 [x0, x1] st σ ↔ wp d pr_280 Q 5 [x0, x1] (.null :: st) σ := w_fmt0 rfl hT
theorem e_280_2n {d : Nat} {Q : Option Value → gS → Prop} {x0 x1 : Option Value} {t : Nat} {st : List Value} {σ : gS} (hT : gT σ 15 = t + 1) : wp d pr_280 Q 2 [x0, x1] st σ ↔ wp d pr_280 Q 5 [x0, x1] (.ref t :: st) σ := w_fmt1 rfl hT
theorem e_280_5 {d : Nat} {Q : Option Value → gS → Prop} {x0 x1 : Option Value} {v0 v1 v2 : Value}  {st : List Value} {σ : gS} : wp d pr_280 Q 5 [x0, x1] (v2 :: v1 :: v0 :: st) σ ↔ st.length ≤ 4 ∧ wc d 284 [v0, v1, v2] σ (fun r τ => wp d pr_280 Q 8 [x0, x1] (r.toList ++ st) τ) := w_callS rfl (by simp) rfl rfl
theorem e_280_8 {d : Nat} {Q : Option Value → gS → Prop} {x0 x1 : Option Value} {x : Int32} {st : List Value} {σ : gS} : wp d pr_280 Q 8 [x0, x1] (.int x :: st) σ ↔ wp d pr_280 Q 9 [x0, x1] (st) σ := w_popI rfl
theorem e_280_8n {d : Nat} {Q : Option Value → gS → Prop} {x0 x1 : Option Value} {x : Nat} {st : List Value} {σ : gS} : wp d pr_280 Q 8 [x0, x1] (.ref x :: st) σ ↔ wp d pr_280 Q 9 [x0, x1] (st) σ := w_popR rfl
theorem e_280_9 {d : Nat} {Q : Option Value → gS → Prop} {x0 x1 : Option Value}  {σ : gS} : wp d pr_280 Q 9 [x0, x1] [] σ ↔ Q none σ := w_ret rfl
theorem c_280 {d : Nat} {Q : Option Value → gS → Prop} {p0 : Int32} {p1 : Int32} {σ : gS} : wc (d + 1) 280 [.int p0, .int p1] σ Q ↔ wp d pr_280 Q 0 [some (.int p0), some (.int p1)] [] σ := wc_iff (Nat.le_of_ble_eq_true rfl) rfl
theorem e_281_0 {d : Nat} {Q : Option Value → gS → Prop} {x0 : Option Value} {v : Int32} {st : List Value} {σ : gS} : wp d pr_281 Q 0 [x0, some (.int v)] st σ ↔ wp d pr_281 Q 1 [x0, some (.int v)] (.int v :: st) σ := w_iload (k := 1) (n := 1) rfl rfl
theorem e_281_1 {d : Nat} {Q : Option Value → gS → Prop} {x1 : Option Value} {v : Nat} {st : List Value} {σ : gS} : wp d pr_281 Q 1 [some (.ref v), x1] st σ ↔ wp d pr_281 Q 2 [some (.ref v), x1] (.ref v :: st) σ := w_aload (k := 0) (n := 1) rfl rfl
theorem e_281_2 {d : Nat} {Q : Option Value → gS → Prop} {x0 x1 : Option Value} {a : Nat} {st : List Value} {σ : gS} (hK : 20 ≤ gK σ a ∧ gK σ a < 27) : wp d pr_281 Q 2 [x0, x1] (.ref a :: st) σ ↔ wp d pr_281 Q 3 [x0, x1] (.int (Int32.ofNat (gN σ a)) :: st) σ := w_alen rfl hK
theorem e_281_2n {d : Nat} {Q : Option Value → gS → Prop} {x0 x1 : Option Value} {a j : Nat} {st : List Value} {σ : gS} (hK : gK σ a = 0) (hF : gFw σ a = some j) : wp d pr_281 Q 2 [x0, x1] (.ref a :: st) σ ↔ wp d pr_281 Q 3 [x0, x1] (.int (Int32.ofNat (gSl j)) :: st) σ := w_alenS rfl hK hF
theorem e_281_3 {d : Nat} {Q : Option Value → gS → Prop} {x0 x1 : Option Value} {v0 v1 : Value}  {st : List Value} {σ : gS} : wp d pr_281 Q 3 [x0, x1] (v1 :: v0 :: st) σ ↔ st.length ≤ 4 ∧ wc d 280 [v0, v1] σ (fun r τ => wp d pr_281 Q 6 [x0, x1] (r.toList ++ st) τ) := w_callS rfl (by simp) rfl rfl
theorem e_281_6 {d : Nat} {Q : Option Value → gS → Prop} {x1 : Option Value} {v : Nat} {st : List Value} {σ : gS} : wp d pr_281 Q 6 [some (.ref v), x1] st σ ↔ wp d pr_281 Q 7 [some (.ref v), x1] (.ref v :: st) σ := w_aload (k := 0) (n := 1) rfl rfl
theorem e_281_7 {d : Nat} {Q : Option Value → gS → Prop} {x0 : Option Value} {v : Int32} {st : List Value} {σ : gS} : wp d pr_281 Q 7 [x0, some (.int v)] st σ ↔ wp d pr_281 Q 8 [x0, some (.int v)] (.int v :: st) σ := w_iload (k := 1) (n := 1) rfl rfl
theorem e_281_8 {d : Nat} {Q : Option Value → gS → Prop} {x0 x1 : Option Value} {i : Int32} {a : Nat} {st : List Value} {σ : gS} (hK : gK σ a = 20 ∨ gK σ a = 23) : wp d pr_281 Q 8 [x0, x1] (.int i :: .ref a :: st) σ ↔ (¬ i < 0 ∧ i.toNatClampNeg < gN σ a) ∧ wp d pr_281 Q 9 [x0, x1] (.int (gI σ a i.toNatClampNeg) :: st) σ := w_bald rfl hK
theorem e_281_8n {d : Nat} {Q : Option Value → gS → Prop} {x0 x1 : Option Value} {i : Int32} {a j : Nat} {st : List Value} {σ : gS} (hK : gK σ a = 0) (hF : gFw σ a = some j) : wp d pr_281 Q 8 [x0, x1] (.int i :: .ref a :: st) σ ↔ (¬ i < 0 ∧ i.toNatClampNeg < gSl j) ∧ wp d pr_281 Q 9 [x0, x1] (.int (gSb j i.toNatClampNeg) :: st) σ := w_baldS rfl hK hF
theorem e_281_9 {d : Nat} {Q : Option Value → gS → Prop} {x0 x1 : Option Value}  {st : List Value} {σ : gS} : wp d pr_281 Q 9 [x0, x1] st σ ↔ wp d pr_281 Q 12 [x0, x1] (.int (255) :: st) σ := w_push (n := 3) rfl
theorem e_281_12 {d : Nat} {Q : Option Value → gS → Prop} {x0 x1 : Option Value} {x y : Int32} {st : List Value} {σ : gS} : wp d pr_281 Q 12 [x0, x1] (.int y :: .int x :: st) σ ↔ wp d pr_281 Q 13 [x0, x1] (.int (x &&& y) :: st) σ := w_bI (f := fun x y => x &&& y) rfl
theorem e_281_13 {d : Nat} {Q : Option Value → gS → Prop} {x0 x1 : Option Value} {x : Int32} {st : List Value} {σ : gS} : wp d pr_281 Q 13 [x0, x1] (.int x :: st) σ ↔ wp d pr_281 Q 14 [x0, x1] (.int ((x.toUInt32 % 65536).toInt32) :: st) σ := w_uI (f := fun x => (x.toUInt32 % 65536).toInt32) rfl
theorem e_281_14 {d : Nat} {Q : Option Value → gS → Prop} {x0 x1 : Option Value} {v : Int32} {σ : gS} : wp d pr_281 Q 14 [x0, x1] [.int v] σ ↔ narrow .char (.int v) = .int v ∧ Q (some (.int v)) σ := w_tret rfl
theorem c_281 {d : Nat} {Q : Option Value → gS → Prop} {p0 : Nat} {p1 : Int32} {σ : gS} : wc (d + 1) 281 [.ref p0, .int p1] σ Q ↔ wp d pr_281 Q 0 [some (.ref p0), some (.int p1)] [] σ := wc_iff (Nat.le_of_ble_eq_true rfl) rfl
theorem e_282_0 {d : Nat} {Q : Option Value → gS → Prop} {x0 x1 x2 x3 : Option Value}  {st : List Value} {σ : gS} : wp d pr_282 Q 0 [x0, x1, x2, x3] st σ ↔ wp d pr_282 Q 1 [x0, x1, x2, x3] (.int (0) :: st) σ := w_push (n := 1) rfl
theorem e_282_1 {d : Nat} {Q : Option Value → gS → Prop} {x0 x1 x2 x3 : Option Value} {v : Int32} {st : List Value} {σ : gS} : wp d pr_282 Q 1 [x0, x1, x2, x3] (.int v :: st) σ ↔ gPv x1 = true ∧ wp d pr_282 Q 2 [x0, x1, some (.int v), x3] (st) σ := w_istore (k := 1) (n := 1) rfl (Nat.le_of_ble_eq_true rfl) rfl rfl
theorem e_282_2 {d : Nat} {Q : Option Value → gS → Prop} {x1 x2 x3 : Option Value} {v : Nat} {st : List Value} {σ : gS} : wp d pr_282 Q 2 [some (.ref v), x1, x2, x3] st σ ↔ wp d pr_282 Q 3 [some (.ref v), x1, x2, x3] (.ref v :: st) σ := w_aload (k := 0) (n := 1) rfl rfl
theorem e_282_3 {d : Nat} {Q : Option Value → gS → Prop} {x0 x1 x2 x3 : Option Value} {a : Nat} {st : List Value} {σ : gS} (hK : 20 ≤ gK σ a ∧ gK σ a < 27) : wp d pr_282 Q 3 [x0, x1, x2, x3] (.ref a :: st) σ ↔ wp d pr_282 Q 4 [x0, x1, x2, x3] (.int (Int32.ofNat (gN σ a)) :: st) σ := w_alen rfl hK
theorem e_282_3n {d : Nat} {Q : Option Value → gS → Prop} {x0 x1 x2 x3 : Option Value} {a j : Nat} {st : List Value} {σ : gS} (hK : gK σ a = 0) (hF : gFw σ a = some j) : wp d pr_282 Q 3 [x0, x1, x2, x3] (.ref a :: st) σ ↔ wp d pr_282 Q 4 [x0, x1, x2, x3] (.int (Int32.ofNat (gSl j)) :: st) σ := w_alenS rfl hK hF
theorem e_282_4 {d : Nat} {Q : Option Value → gS → Prop} {x0 x1 x2 x3 : Option Value} {v : Int32} {st : List Value} {σ : gS} : wp d pr_282 Q 4 [x0, x1, x2, x3] (.int v :: st) σ ↔ gPv x2 = true ∧ wp d pr_282 Q 5 [x0, x1, x2, some (.int v)] (st) σ := w_istore (k := 2) (n := 1) rfl (Nat.le_of_ble_eq_true rfl) rfl rfl
theorem e_282_5 {d : Nat} {Q : Option Value → gS → Prop} {x0 x1 x3 : Option Value} {v : Int32} {st : List Value} {σ : gS} : wp d pr_282 Q 5 [x0, x1, some (.int v), x3] st σ ↔ wp d pr_282 Q 6 [x0, x1, some (.int v), x3] (.int v :: st) σ := w_iload (k := 2) (n := 1) rfl rfl
theorem e_282_6 {d : Nat} {Q : Option Value → gS → Prop} {x0 x1 x2 : Option Value} {v : Int32} {st : List Value} {σ : gS} : wp d pr_282 Q 6 [x0, x1, x2, some (.int v)] st σ ↔ wp d pr_282 Q 7 [x0, x1, x2, some (.int v)] (.int v :: st) σ := w_iload (k := 3) (n := 1) rfl rfl
theorem e_282_7 {d : Nat} {Q : Option Value → gS → Prop} {x0 x1 x2 x3 : Option Value} {x y : Int32} {st : List Value} {σ : gS} : wp d pr_282 Q 7 [x0, x1, x2, x3] (.int y :: .int x :: st) σ ↔ ((y ≤ x) → wp d pr_282 Q 20 [x0, x1, x2, x3] (st) σ) ∧ (¬ (y ≤ x) → wp d pr_282 Q 10 [x0, x1, x2, x3] (st) σ) := w_icmp rfl decide_eq_true_iff
theorem e_282_10 {d : Nat} {Q : Option Value → gS → Prop} {x1 x2 x3 : Option Value} {v : Nat} {st : List Value} {σ : gS} : wp d pr_282 Q 10 [some (.ref v), x1, x2, x3] st σ ↔ wp d pr_282 Q 11 [some (.ref v), x1, x2, x3] (.ref v :: st) σ := w_aload (k := 0) (n := 1) rfl rfl
theorem e_282_11 {d : Nat} {Q : Option Value → gS → Prop} {x0 x1 x3 : Option Value} {v : Int32} {st : List Value} {σ : gS} : wp d pr_282 Q 11 [x0, x1, some (.int v), x3] st σ ↔ wp d pr_282 Q 12 [x0, x1, some (.int v), x3] (.int v :: st) σ := w_iload (k := 2) (n := 1) rfl rfl
theorem e_282_12 {d : Nat} {Q : Option Value → gS → Prop} {x0 x2 x3 : Option Value} {v : Int32} {st : List Value} {σ : gS} : wp d pr_282 Q 12 [x0, some (.int v), x2, x3] st σ ↔ wp d pr_282 Q 13 [x0, some (.int v), x2, x3] (.int v :: st) σ := w_iload (k := 1) (n := 1) rfl rfl
theorem e_282_13 {d : Nat} {Q : Option Value → gS → Prop} {x0 x1 x2 x3 : Option Value} {x : Int32} {i : Int32} {a : Nat} {st : List Value} {σ : gS} : wp d pr_282 Q 13 [x0, x1, x2, x3] (.int x :: .int i :: .ref a :: st) σ ↔ ((gK σ a = 21) ∧ ¬ i < 0 ∧ i.toNatClampNeg < gN σ a) ∧ wp d pr_282 Q 14 [x0, x1, x2, x3] (st) (sI σ a i.toNatClampNeg x) := w_iast rfl
theorem e_282_14 {d : Nat} {Q : Option Value → gS → Prop} {x0 x1 x3 : Option Value} {v : Int32} {st : List Value} {σ : gS} : wp d pr_282 Q 14 [x0, x1, some (.int v), x3] st σ ↔ gPv x1 = true ∧ wp d pr_282 Q 17 [x0, x1, some (.int (v + (1))), x3] (st) σ := w_iinc (k := 1) rfl rfl rfl rfl
theorem e_282_17 {d : Nat} {Q : Option Value → gS → Prop} {x0 x1 x2 x3 : Option Value}  {st : List Value} {σ : gS} : wp d pr_282 Q 17 [x0, x1, x2, x3] st σ ↔ wp d pr_282 Q 5 [x0, x1, x2, x3] (st) σ := w_goto rfl
theorem e_282_20 {d : Nat} {Q : Option Value → gS → Prop} {x0 x1 x2 x3 : Option Value}  {σ : gS} : wp d pr_282 Q 20 [x0, x1, x2, x3] [] σ ↔ Q none σ := w_ret rfl
theorem c_282 {d : Nat} {Q : Option Value → gS → Prop} {p0 : Nat} {p1 : Int32} {σ : gS} : wc (d + 1) 282 [.ref p0, .int p1] σ Q ↔ wp d pr_282 Q 0 [some (.ref p0), some (.int p1), none, none] [] σ := wc_iff (Nat.le_of_ble_eq_true rfl) rfl
theorem e_283_0 {d : Nat} {Q : Option Value → gS → Prop} {x0 x2 : Option Value} {v : Int32} {st : List Value} {σ : gS} : wp d pr_283 Q 0 [x0, some (.int v), x2] st σ ↔ wp d pr_283 Q 1 [x0, some (.int v), x2] (.int v :: st) σ := w_iload (k := 1) (n := 1) rfl rfl
theorem e_283_1 {d : Nat} {Q : Option Value → gS → Prop} {x1 x2 : Option Value} {v : Nat} {st : List Value} {σ : gS} : wp d pr_283 Q 1 [some (.ref v), x1, x2] st σ ↔ wp d pr_283 Q 2 [some (.ref v), x1, x2] (.ref v :: st) σ := w_aload (k := 0) (n := 1) rfl rfl
theorem e_283_2 {d : Nat} {Q : Option Value → gS → Prop} {x0 x1 x2 : Option Value} {a : Nat} {st : List Value} {σ : gS} (hK : 20 ≤ gK σ a ∧ gK σ a < 27) : wp d pr_283 Q 2 [x0, x1, x2] (.ref a :: st) σ ↔ wp d pr_283 Q 3 [x0, x1, x2] (.int (Int32.ofNat (gN σ a)) :: st) σ := w_alen rfl hK
theorem e_283_2n {d : Nat} {Q : Option Value → gS → Prop} {x0 x1 x2 : Option Value} {a j : Nat} {st : List Value} {σ : gS} (hK : gK σ a = 0) (hF : gFw σ a = some j) : wp d pr_283 Q 2 [x0, x1, x2] (.ref a :: st) σ ↔ wp d pr_283 Q 3 [x0, x1, x2] (.int (Int32.ofNat (gSl j)) :: st) σ := w_alenS rfl hK hF
theorem e_283_3 {d : Nat} {Q : Option Value → gS → Prop} {x0 x1 x2 : Option Value} {x y : Int32} {st : List Value} {σ : gS} : wp d pr_283 Q 3 [x0, x1, x2] (.int y :: .int x :: st) σ ↔ ((x ≠ y) → wp d pr_283 Q 14 [x0, x1, x2] (st) σ) ∧ (¬ (x ≠ y) → wp d pr_283 Q 6 [x0, x1, x2] (st) σ) := w_icmp rfl decide_eq_true_iff
theorem e_283_6 {d : Nat} {Q : Option Value → gS → Prop} {x1 x2 : Option Value} {v : Nat} {st : List Value} {σ : gS} : wp d pr_283 Q 6 [some (.ref v), x1, x2] st σ ↔ wp d pr_283 Q 7 [some (.ref v), x1, x2] (.ref v :: st) σ := w_aload (k := 0) (n := 1) rfl rfl
theorem e_283_7 {d : Nat} {Q : Option Value → gS → Prop} {x0 x1 x2 : Option Value} {a : Nat} {st : List Value} {σ : gS} : wp d pr_283 Q 7 [x0, x1, x2] (.ref a :: st) σ ↔ (gK σ a = 21 ∧ st.length ≤ 4) ∧ wp d pr_283 Q 10 [x0, x1, x2] (.ref (gn σ) :: st) (sIr (sNw σ 21 (gN σ a) (gN σ a)) (gn σ) (gI σ a)) := w_clone rfl
theorem e_283_10 {d : Nat} {Q : Option Value → gS → Prop} {x0 x1 x2 : Option Value} {a : Nat} {st : List Value} {σ : gS} : wp d pr_283 Q 10 [x0, x1, x2] (.ref a :: st) σ ↔ gK σ a = 21 ∧ wp d pr_283 Q 13 [x0, x1, x2] (.ref a :: st) σ := w_cast rfl
theorem e_283_13 {d : Nat} {Q : Option Value → gS → Prop} {x0 x1 x2 : Option Value} {v : Nat} {σ : gS} : wp d pr_283 Q 13 [x0, x1, x2] [.ref v] σ ↔ Q (some (.ref v)) σ := w_aretR rfl
theorem e_283_13n {d : Nat} {Q : Option Value → gS → Prop} {x0 x1 x2 : Option Value}  {σ : gS} : wp d pr_283 Q 13 [x0, x1, x2] [.null] σ ↔ Q (some .null) σ := w_aretN rfl
theorem e_283_14 {d : Nat} {Q : Option Value → gS → Prop} {x0 x2 : Option Value} {v : Int32} {st : List Value} {σ : gS} : wp d pr_283 Q 14 [x0, some (.int v), x2] st σ ↔ wp d pr_283 Q 15 [x0, some (.int v), x2] (.int v :: st) σ := w_iload (k := 1) (n := 1) rfl rfl
theorem e_283_15 {d : Nat} {Q : Option Value → gS → Prop} {x0 x1 x2 : Option Value} {n : Int32} {st : List Value} {σ : gS} : wp d pr_283 Q 15 [x0, x1, x2] (.int n :: st) σ ↔ (¬ n < 0 ∧ n.toNatClampNeg ≤ 1000000) ∧ wp d pr_283 Q 17 [x0, x1, x2] (.ref (gn σ) :: st) (sNw σ 21 n.toNatClampNeg n.toNatClampNeg) := w_newa rfl
theorem e_283_17 {d : Nat} {Q : Option Value → gS → Prop} {x0 x1 x2 : Option Value} {v : Nat} {st : List Value} {σ : gS} : wp d pr_283 Q 17 [x0, x1, x2] (.ref v :: st) σ ↔ gPv x1 = true ∧ wp d pr_283 Q 18 [x0, x1, some (.ref v)] (st) σ := w_astore (k := 1) (n := 1) rfl (Nat.le_of_ble_eq_true rfl) rfl rfl
theorem e_283_17n {d : Nat} {Q : Option Value → gS → Prop} {x0 x1 x2 : Option Value}  {st : List Value} {σ : gS} : wp d pr_283 Q 17 [x0, x1, x2] (.null :: st) σ ↔ gPv x1 = true ∧ wp d pr_283 Q 18 [x0, x1, some .null] (st) σ := w_astoreN (k := 1) (n := 1) rfl (Nat.le_of_ble_eq_true rfl) rfl rfl
theorem e_283_18 {d : Nat} {Q : Option Value → gS → Prop} {x1 x2 : Option Value} {v : Nat} {st : List Value} {σ : gS} : wp d pr_283 Q 18 [some (.ref v), x1, x2] st σ ↔ wp d pr_283 Q 19 [some (.ref v), x1, x2] (.ref v :: st) σ := w_aload (k := 0) (n := 1) rfl rfl
theorem e_283_19 {d : Nat} {Q : Option Value → gS → Prop} {x0 x1 x2 : Option Value}  {st : List Value} {σ : gS} : wp d pr_283 Q 19 [x0, x1, x2] st σ ↔ wp d pr_283 Q 20 [x0, x1, x2] (.int (0) :: st) σ := w_push (n := 1) rfl
theorem e_283_20 {d : Nat} {Q : Option Value → gS → Prop} {x0 x1 : Option Value} {v : Nat} {st : List Value} {σ : gS} : wp d pr_283 Q 20 [x0, x1, some (.ref v)] st σ ↔ wp d pr_283 Q 21 [x0, x1, some (.ref v)] (.ref v :: st) σ := w_aload (k := 2) (n := 1) rfl rfl
theorem e_283_20n {d : Nat} {Q : Option Value → gS → Prop} {x0 x1 : Option Value}  {st : List Value} {σ : gS} : wp d pr_283 Q 20 [x0, x1, some .null] st σ ↔ wp d pr_283 Q 21 [x0, x1, some .null] (.null :: st) σ := w_aloadN (k := 2) (n := 1) rfl rfl
theorem e_283_21 {d : Nat} {Q : Option Value → gS → Prop} {x0 x1 x2 : Option Value}  {st : List Value} {σ : gS} : wp d pr_283 Q 21 [x0, x1, x2] st σ ↔ wp d pr_283 Q 22 [x0, x1, x2] (.int (0) :: st) σ := w_push (n := 1) rfl
theorem e_283_22 {d : Nat} {Q : Option Value → gS → Prop} {x1 x2 : Option Value} {v : Nat} {st : List Value} {σ : gS} : wp d pr_283 Q 22 [some (.ref v), x1, x2] st σ ↔ wp d pr_283 Q 23 [some (.ref v), x1, x2] (.ref v :: st) σ := w_aload (k := 0) (n := 1) rfl rfl
theorem e_283_23 {d : Nat} {Q : Option Value → gS → Prop} {x0 x1 x2 : Option Value} {a : Nat} {st : List Value} {σ : gS} (hK : 20 ≤ gK σ a ∧ gK σ a < 27) : wp d pr_283 Q 23 [x0, x1, x2] (.ref a :: st) σ ↔ wp d pr_283 Q 24 [x0, x1, x2] (.int (Int32.ofNat (gN σ a)) :: st) σ := w_alen rfl hK
theorem e_283_23n {d : Nat} {Q : Option Value → gS → Prop} {x0 x1 x2 : Option Value} {a j : Nat} {st : List Value} {σ : gS} (hK : gK σ a = 0) (hF : gFw σ a = some j) : wp d pr_283 Q 23 [x0, x1, x2] (.ref a :: st) σ ↔ wp d pr_283 Q 24 [x0, x1, x2] (.int (Int32.ofNat (gSl j)) :: st) σ := w_alenS rfl hK hF
theorem e_283_24 {d : Nat} {Q : Option Value → gS → Prop} {x0 x2 : Option Value} {v : Int32} {st : List Value} {σ : gS} : wp d pr_283 Q 24 [x0, some (.int v), x2] st σ ↔ wp d pr_283 Q 25 [x0, some (.int v), x2] (.int v :: st) σ := w_iload (k := 1) (n := 1) rfl rfl
theorem e_283_25 {d : Nat} {Q : Option Value → gS → Prop} {x0 x1 x2 : Option Value} {x y : Int32} {st : List Value} {σ : gS} : wp d pr_283 Q 25 [x0, x1, x2] (.int y :: .int x :: st) σ ↔ st.length ≤ 4 ∧ wp d pr_283 Q 28 [x0, x1, x2] (.int (if y < x then y else x) :: st) σ := w_mI (f := fun x y => if y < x then y else x) rfl
theorem e_283_28 {d : Nat} {Q : Option Value → gS → Prop} {x0 x1 x2 : Option Value} {a a0 : Nat} {n dp sp : Int32} {st : List Value} {σ : gS} : wp d pr_283 Q 28 [x0, x1, x2] (.int n :: .int dp :: .ref a :: .int sp :: .ref a0 :: st) σ ↔ ((gK σ a0 = 21 ∧ gK σ a = 21 ∧ st.length ≤ 4) ∧ (¬ sp < 0 ∧ ¬ dp < 0 ∧ ¬ n < 0) ∧ sp.toNatClampNeg + n.toNatClampNeg ≤ gN σ a0 ∧ dp.toNatClampNeg + n.toNatClampNeg ≤ gN σ a) ∧ wp d pr_283 Q 31 [x0, x1, x2] (st) (sIr σ a (va_cpy (gI σ a0) (gI σ a) sp.toNatClampNeg dp.toNatClampNeg n.toNatClampNeg)) := w_copy rfl
theorem e_283_31 {d : Nat} {Q : Option Value → gS → Prop} {x0 x1 : Option Value} {v : Nat} {st : List Value} {σ : gS} : wp d pr_283 Q 31 [x0, x1, some (.ref v)] st σ ↔ wp d pr_283 Q 32 [x0, x1, some (.ref v)] (.ref v :: st) σ := w_aload (k := 2) (n := 1) rfl rfl
theorem e_283_31n {d : Nat} {Q : Option Value → gS → Prop} {x0 x1 : Option Value}  {st : List Value} {σ : gS} : wp d pr_283 Q 31 [x0, x1, some .null] st σ ↔ wp d pr_283 Q 32 [x0, x1, some .null] (.null :: st) σ := w_aloadN (k := 2) (n := 1) rfl rfl
theorem e_283_32 {d : Nat} {Q : Option Value → gS → Prop} {x0 x1 x2 : Option Value} {v : Nat} {σ : gS} : wp d pr_283 Q 32 [x0, x1, x2] [.ref v] σ ↔ Q (some (.ref v)) σ := w_aretR rfl
theorem e_283_32n {d : Nat} {Q : Option Value → gS → Prop} {x0 x1 x2 : Option Value}  {σ : gS} : wp d pr_283 Q 32 [x0, x1, x2] [.null] σ ↔ Q (some .null) σ := w_aretN rfl
theorem c_283 {d : Nat} {Q : Option Value → gS → Prop} {p0 : Nat} {p1 : Int32} {σ : gS} : wc (d + 1) 283 [.ref p0, .int p1] σ Q ↔ wp d pr_283 Q 0 [some (.ref p0), some (.int p1), none] [] σ := wc_iff (Nat.le_of_ble_eq_true rfl) rfl
theorem e_284_0 {d : Nat} {Q : Option Value → gS → Prop} {x1 x2 : Option Value} {v : Int32} {st : List Value} {σ : gS} : wp d pr_284 Q 0 [some (.int v), x1, x2] st σ ↔ wp d pr_284 Q 1 [some (.int v), x1, x2] (.int v :: st) σ := w_iload (k := 0) (n := 1) rfl rfl
theorem e_284_1 {d : Nat} {Q : Option Value → gS → Prop} {x0 x1 x2 : Option Value} {x : Int32} {st : List Value} {σ : gS} : wp d pr_284 Q 1 [x0, x1, x2] (.int x :: st) σ ↔ ((x < 0) → wp d pr_284 Q 9 [x0, x1, x2] (st) σ) ∧ (¬ (x < 0) → wp d pr_284 Q 4 [x0, x1, x2] (st) σ) := w_if rfl decide_eq_true_iff
theorem e_284_4 {d : Nat} {Q : Option Value → gS → Prop} {x1 x2 : Option Value} {v : Int32} {st : List Value} {σ : gS} : wp d pr_284 Q 4 [some (.int v), x1, x2] st σ ↔ wp d pr_284 Q 5 [some (.int v), x1, x2] (.int v :: st) σ := w_iload (k := 0) (n := 1) rfl rfl
theorem e_284_5 {d : Nat} {Q : Option Value → gS → Prop} {x0 x2 : Option Value} {v : Int32} {st : List Value} {σ : gS} : wp d pr_284 Q 5 [x0, some (.int v), x2] st σ ↔ wp d pr_284 Q 6 [x0, some (.int v), x2] (.int v :: st) σ := w_iload (k := 1) (n := 1) rfl rfl
theorem e_284_6 {d : Nat} {Q : Option Value → gS → Prop} {x0 x1 x2 : Option Value} {x y : Int32} {st : List Value} {σ : gS} : wp d pr_284 Q 6 [x0, x1, x2] (.int y :: .int x :: st) σ ↔ ((x < y) → wp d pr_284 Q 16 [x0, x1, x2] (st) σ) ∧ (¬ (x < y) → wp d pr_284 Q 9 [x0, x1, x2] (st) σ) := w_icmp rfl decide_eq_true_iff
theorem e_284_9 {d : Nat} {Q : Option Value → gS → Prop} {x0 x1 : Option Value} {v : Nat} {st : List Value} {σ : gS} : wp d pr_284 Q 9 [x0, x1, some (.ref v)] st σ ↔ wp d pr_284 Q 10 [x0, x1, some (.ref v)] (.ref v :: st) σ := w_aload (k := 2) (n := 1) rfl rfl
theorem e_284_9n {d : Nat} {Q : Option Value → gS → Prop} {x0 x1 : Option Value}  {st : List Value} {σ : gS} : wp d pr_284 Q 9 [x0, x1, some .null] st σ ↔ wp d pr_284 Q 10 [x0, x1, some .null] (.null :: st) σ := w_aloadN (k := 2) (n := 1) rfl rfl
theorem e_284_10 {d : Nat} {Q : Option Value → gS → Prop} {x1 x2 : Option Value} {v : Int32} {st : List Value} {σ : gS} : wp d pr_284 Q 10 [some (.int v), x1, x2] st σ ↔ wp d pr_284 Q 11 [some (.int v), x1, x2] (.int v :: st) σ := w_iload (k := 0) (n := 1) rfl rfl
theorem e_284_11 {d : Nat} {Q : Option Value → gS → Prop} {x0 x2 : Option Value} {v : Int32} {st : List Value} {σ : gS} : wp d pr_284 Q 11 [x0, some (.int v), x2] st σ ↔ wp d pr_284 Q 12 [x0, some (.int v), x2] (.int v :: st) σ := w_iload (k := 1) (n := 1) rfl rfl
theorem e_284_16 {d : Nat} {Q : Option Value → gS → Prop} {x1 x2 : Option Value} {v : Int32} {st : List Value} {σ : gS} : wp d pr_284 Q 16 [some (.int v), x1, x2] st σ ↔ wp d pr_284 Q 17 [some (.int v), x1, x2] (.int v :: st) σ := w_iload (k := 0) (n := 1) rfl rfl
theorem e_284_17 {d : Nat} {Q : Option Value → gS → Prop} {x0 x1 x2 : Option Value} {v : Int32} {σ : gS} : wp d pr_284 Q 17 [x0, x1, x2] [.int v] σ ↔ Q (some (.int v)) σ := w_iret rfl
theorem c_284 {d : Nat} {Q : Option Value → gS → Prop} {p0 : Int32} {p1 : Int32} {p2 : Nat} {σ : gS} : wc (d + 1) 284 [.int p0, .int p1, .ref p2] σ Q ↔ wp d pr_284 Q 0 [some (.int p0), some (.int p1), some (.ref p2)] [] σ := wc_iff (Nat.le_of_ble_eq_true rfl) rfl
theorem e_L_0 {d : Nat} {Q : Option Value → gS → Prop} {x0 x1 x2 x3 : Option Value}  {st : List Value} {σ : gS} : wp d pr_L Q 0 [x0, x1, x2, x3] st σ ↔ wp d pr_L Q 3 [x0, x1, x2, x3] (.ref (gn σ) :: st) (sNw σ 12 0 15) := w_new rfl
theorem e_L_3 {d : Nat} {Q : Option Value → gS → Prop} {x0 x1 x2 x3 : Option Value} {x : Int32} {st : List Value} {σ : gS} : wp d pr_L Q 3 [x0, x1, x2, x3] (.int x :: st) σ ↔ wp d pr_L Q 4 [x0, x1, x2, x3] (.int x :: .int x :: st) σ := w_dupI rfl
theorem e_L_3n {d : Nat} {Q : Option Value → gS → Prop} {x0 x1 x2 x3 : Option Value} {x : Nat} {st : List Value} {σ : gS} : wp d pr_L Q 3 [x0, x1, x2, x3] (.ref x :: st) σ ↔ wp d pr_L Q 4 [x0, x1, x2, x3] (.ref x :: .ref x :: st) σ := w_dupR rfl
theorem e_L_4 {d : Nat} {Q : Option Value → gS → Prop} {x0 x1 x2 x3 : Option Value} {a : Nat}  {st : List Value} {σ : gS} : wp d pr_L Q 4 [x0, x1, x2, x3] (.ref a :: st) σ ↔ st.length ≤ 4 ∧ wc d 113 [.ref a] σ (fun r τ => wp d pr_L Q 7 [x0, x1, x2, x3] (r.toList ++ st) τ) := w_callI rfl (by simp) rfl rfl
theorem e_L_7 {d : Nat} {Q : Option Value → gS → Prop} {x0 x1 x2 x3 : Option Value} {v : Nat} {st : List Value} {σ : gS} : wp d pr_L Q 7 [x0, x1, x2, x3] (.ref v :: st) σ ↔ gPv x0 = true ∧ wp d pr_L Q 8 [x0, some (.ref v), x2, x3] (st) σ := w_astore (k := 0) (n := 1) rfl (Nat.le_of_ble_eq_true rfl) rfl rfl
theorem e_L_7n {d : Nat} {Q : Option Value → gS → Prop} {x0 x1 x2 x3 : Option Value}  {st : List Value} {σ : gS} : wp d pr_L Q 7 [x0, x1, x2, x3] (.null :: st) σ ↔ gPv x0 = true ∧ wp d pr_L Q 8 [x0, some .null, x2, x3] (st) σ := w_astoreN (k := 0) (n := 1) rfl (Nat.le_of_ble_eq_true rfl) rfl rfl
theorem e_L_8 {d : Nat} {Q : Option Value → gS → Prop} {x0 x1 x2 x3 : Option Value}  {st : List Value} {σ : gS} : wp d pr_L Q 8 [x0, x1, x2, x3] st σ ↔ wp d pr_L Q 11 [x0, x1, x2, x3] (.ref (gn σ) :: st) (sNw σ 13 0 50) := w_new rfl
theorem e_L_11 {d : Nat} {Q : Option Value → gS → Prop} {x0 x1 x2 x3 : Option Value} {x : Int32} {st : List Value} {σ : gS} : wp d pr_L Q 11 [x0, x1, x2, x3] (.int x :: st) σ ↔ wp d pr_L Q 12 [x0, x1, x2, x3] (.int x :: .int x :: st) σ := w_dupI rfl
theorem e_L_11n {d : Nat} {Q : Option Value → gS → Prop} {x0 x1 x2 x3 : Option Value} {x : Nat} {st : List Value} {σ : gS} : wp d pr_L Q 11 [x0, x1, x2, x3] (.ref x :: st) σ ↔ wp d pr_L Q 12 [x0, x1, x2, x3] (.ref x :: .ref x :: st) σ := w_dupR rfl
theorem e_L_12 {d : Nat} {Q : Option Value → gS → Prop} {x0 x1 x2 x3 : Option Value} {a : Nat}  {st : List Value} {σ : gS} : wp d pr_L Q 12 [x0, x1, x2, x3] (.ref a :: st) σ ↔ st.length ≤ 4 ∧ wc d 168 [.ref a] σ (fun r τ => wp d pr_L Q 15 [x0, x1, x2, x3] (r.toList ++ st) τ) := w_callI rfl (by simp) rfl rfl
theorem e_L_15 {d : Nat} {Q : Option Value → gS → Prop} {x0 x1 x2 x3 : Option Value} {v : Nat} {st : List Value} {σ : gS} : wp d pr_L Q 15 [x0, x1, x2, x3] (.ref v :: st) σ ↔ gPv x1 = true ∧ wp d pr_L Q 16 [x0, x1, some (.ref v), x3] (st) σ := w_astore (k := 1) (n := 1) rfl (Nat.le_of_ble_eq_true rfl) rfl rfl
theorem e_L_15n {d : Nat} {Q : Option Value → gS → Prop} {x0 x1 x2 x3 : Option Value}  {st : List Value} {σ : gS} : wp d pr_L Q 15 [x0, x1, x2, x3] (.null :: st) σ ↔ gPv x1 = true ∧ wp d pr_L Q 16 [x0, x1, some .null, x3] (st) σ := w_astoreN (k := 1) (n := 1) rfl (Nat.le_of_ble_eq_true rfl) rfl rfl
theorem e_L_16 {d : Nat} {Q : Option Value → gS → Prop} {x0 x1 x2 x3 : Option Value}  {st : List Value} {σ : gS} : wp d pr_L Q 16 [x0, x1, x2, x3] st σ ↔ wp d pr_L Q 17 [x0, x1, x2, x3] (.int (0) :: st) σ := w_push (n := 1) rfl
theorem e_L_17 {d : Nat} {Q : Option Value → gS → Prop} {x0 x1 x2 x3 : Option Value} {v : Int32} {st : List Value} {σ : gS} : wp d pr_L Q 17 [x0, x1, x2, x3] (.int v :: st) σ ↔ gPv x2 = true ∧ wp d pr_L Q 18 [x0, x1, x2, some (.int v)] (st) σ := w_istore (k := 2) (n := 1) rfl (Nat.le_of_ble_eq_true rfl) rfl rfl
theorem e_L_18 {d : Nat} {Q : Option Value → gS → Prop} {x0 x1 x2 : Option Value} {v : Int32} {st : List Value} {σ : gS} : wp d pr_L Q 18 [x0, x1, x2, some (.int v)] st σ ↔ wp d pr_L Q 19 [x0, x1, x2, some (.int v)] (.int v :: st) σ := w_iload (k := 3) (n := 1) rfl rfl
theorem e_L_19 {d : Nat} {Q : Option Value → gS → Prop} {x1 x2 x3 : Option Value} {v : Nat} {st : List Value} {σ : gS} : wp d pr_L Q 19 [some (.ref v), x1, x2, x3] st σ ↔ wp d pr_L Q 20 [some (.ref v), x1, x2, x3] (.ref v :: st) σ := w_aload (k := 0) (n := 1) rfl rfl
theorem e_L_20 {d : Nat} {Q : Option Value → gS → Prop} {x0 x1 x2 x3 : Option Value} {a : Nat} {st : List Value} {σ : gS} (hK : 20 ≤ gK σ a ∧ gK σ a < 27) : wp d pr_L Q 20 [x0, x1, x2, x3] (.ref a :: st) σ ↔ wp d pr_L Q 21 [x0, x1, x2, x3] (.int (Int32.ofNat (gN σ a)) :: st) σ := w_alen rfl hK
theorem e_L_21 {d : Nat} {Q : Option Value → gS → Prop} {x0 x1 x2 x3 : Option Value}  {st : List Value} {σ : gS} : wp d pr_L Q 21 [x0, x1, x2, x3] st σ ↔ wp d pr_L Q 23 [x0, x1, x2, x3] (.int (6) :: st) σ := w_push (n := 2) rfl
theorem e_L_23 {d : Nat} {Q : Option Value → gS → Prop} {x0 x1 x2 x3 : Option Value} {x y : Int32} {st : List Value} {σ : gS} : wp d pr_L Q 23 [x0, x1, x2, x3] (.int y :: .int x :: st) σ ↔ wp d pr_L Q 24 [x0, x1, x2, x3] (.int (x - y) :: st) σ := w_bI (f := fun x y => x - y) rfl
theorem e_L_24 {d : Nat} {Q : Option Value → gS → Prop} {x0 x1 x2 x3 : Option Value} {x y : Int32} {st : List Value} {σ : gS} : wp d pr_L Q 24 [x0, x1, x2, x3] (.int y :: .int x :: st) σ ↔ ((y < x) → wp d pr_L Q 1501 [x0, x1, x2, x3] (st) σ) ∧ (¬ (y < x) → wp d pr_L Q 27 [x0, x1, x2, x3] (st) σ) := w_icmp rfl decide_eq_true_iff
theorem e_L_27 {d : Nat} {Q : Option Value → gS → Prop} {x1 x2 x3 : Option Value} {v : Nat} {st : List Value} {σ : gS} : wp d pr_L Q 27 [some (.ref v), x1, x2, x3] st σ ↔ wp d pr_L Q 28 [some (.ref v), x1, x2, x3] (.ref v :: st) σ := w_aload (k := 0) (n := 1) rfl rfl
theorem e_L_28 {d : Nat} {Q : Option Value → gS → Prop} {x0 x1 x2 : Option Value} {v : Int32} {st : List Value} {σ : gS} : wp d pr_L Q 28 [x0, x1, x2, some (.int v)] st σ ↔ wp d pr_L Q 29 [x0, x1, x2, some (.int v)] (.int v :: st) σ := w_iload (k := 3) (n := 1) rfl rfl
theorem e_L_29 {d : Nat} {Q : Option Value → gS → Prop} {x0 x1 x2 x3 : Option Value} {i : Int32} {a : Nat} {st : List Value} {σ : gS} : wp d pr_L Q 29 [x0, x1, x2, x3] (.int i :: .ref a :: st) σ ↔ ((gK σ a = 21 ∨ gK σ a = 26) ∧ ¬ i < 0 ∧ i.toNatClampNeg < gN σ a) ∧ wp d pr_L Q 30 [x0, x1, x2, x3] (.int (gI σ a i.toNatClampNeg) :: st) σ := w_iald rfl
theorem e_L_30 {d : Nat} {Q : Option Value → gS → Prop} {x0 x1 x2 x3 : Option Value}  {st : List Value} {σ : gS} : wp d pr_L Q 30 [x0, x1, x2, x3] st σ ↔ wp d pr_L Q 32 [x0, x1, x2, x3] (.int (63) :: st) σ := w_push (n := 2) rfl
theorem e_L_32 {d : Nat} {Q : Option Value → gS → Prop} {x0 x1 x2 x3 : Option Value} {x y : Int32} {st : List Value} {σ : gS} : wp d pr_L Q 32 [x0, x1, x2, x3] (.int y :: .int x :: st) σ ↔ wp d pr_L Q 33 [x0, x1, x2, x3] (.int (x &&& y) :: st) σ := w_bI (f := fun x y => x &&& y) rfl
theorem e_L_33 {d : Nat} {Q : Option Value → gS → Prop} {x0 x1 x2 x3 : Option Value} {x : Int32} {st : List Value} {σ : gS} : wp d pr_L Q 33 [x0, x1, x2, x3] (.int x :: st) σ ↔ (x.toInt < 0 ∨ 40 < x.toInt → wp d pr_L Q 1495 [x0, x1, x2, x3] (st) σ) ∧ (¬ (x.toInt < 0 ∨ 40 < x.toInt) → ∃ q, ([212, 275, 308, 341, 374, 407, 440, 473, 506, 569, 592, 605, 618, 631, 644, 667, 700, 743, 766, 809, 852, 875, 908, 951, 994, 1007, 1030, 1063, 1096, 1109, 1132, 1165, 1198, 1241, 1284, 1347, 1380, 1413, 1436, 1459, 1482] : List Nat)[(x.toInt - 0).toNat]? = some q ∧ wp d pr_L Q q [x0, x1, x2, x3] st σ) := w_tsw rfl
theorem e_L_212 {d : Nat} {Q : Option Value → gS → Prop} {x0 x2 x3 : Option Value} {v : Nat} {st : List Value} {σ : gS} : wp d pr_L Q 212 [x0, some (.ref v), x2, x3] st σ ↔ wp d pr_L Q 213 [x0, some (.ref v), x2, x3] (.ref v :: st) σ := w_aload (k := 1) (n := 1) rfl rfl
theorem e_L_212n {d : Nat} {Q : Option Value → gS → Prop} {x0 x2 x3 : Option Value}  {st : List Value} {σ : gS} : wp d pr_L Q 212 [x0, some .null, x2, x3] st σ ↔ wp d pr_L Q 213 [x0, some .null, x2, x3] (.null :: st) σ := w_aloadN (k := 1) (n := 1) rfl rfl
theorem e_L_213 {d : Nat} {Q : Option Value → gS → Prop} {x1 x2 x3 : Option Value} {v : Nat} {st : List Value} {σ : gS} : wp d pr_L Q 213 [some (.ref v), x1, x2, x3] st σ ↔ wp d pr_L Q 214 [some (.ref v), x1, x2, x3] (.ref v :: st) σ := w_aload (k := 0) (n := 1) rfl rfl
theorem e_L_214 {d : Nat} {Q : Option Value → gS → Prop} {x0 x1 x2 : Option Value} {v : Int32} {st : List Value} {σ : gS} : wp d pr_L Q 214 [x0, x1, x2, some (.int v)] st σ ↔ wp d pr_L Q 215 [x0, x1, x2, some (.int v)] (.int v :: st) σ := w_iload (k := 3) (n := 1) rfl rfl
theorem e_L_215 {d : Nat} {Q : Option Value → gS → Prop} {x0 x1 x2 x3 : Option Value}  {st : List Value} {σ : gS} : wp d pr_L Q 215 [x0, x1, x2, x3] st σ ↔ wp d pr_L Q 216 [x0, x1, x2, x3] (.int (1) :: st) σ := w_push (n := 1) rfl
theorem e_L_216 {d : Nat} {Q : Option Value → gS → Prop} {x0 x1 x2 x3 : Option Value} {x y : Int32} {st : List Value} {σ : gS} : wp d pr_L Q 216 [x0, x1, x2, x3] (.int y :: .int x :: st) σ ↔ wp d pr_L Q 217 [x0, x1, x2, x3] (.int (x + y) :: st) σ := w_bI (f := fun x y => x + y) rfl
theorem e_L_217 {d : Nat} {Q : Option Value → gS → Prop} {x0 x1 x2 x3 : Option Value} {i : Int32} {a : Nat} {st : List Value} {σ : gS} : wp d pr_L Q 217 [x0, x1, x2, x3] (.int i :: .ref a :: st) σ ↔ ((gK σ a = 21 ∨ gK σ a = 26) ∧ ¬ i < 0 ∧ i.toNatClampNeg < gN σ a) ∧ wp d pr_L Q 218 [x0, x1, x2, x3] (.int (gI σ a i.toNatClampNeg) :: st) σ := w_iald rfl
theorem e_L_218 {d : Nat} {Q : Option Value → gS → Prop} {x1 x2 x3 : Option Value} {v : Nat} {st : List Value} {σ : gS} : wp d pr_L Q 218 [some (.ref v), x1, x2, x3] st σ ↔ wp d pr_L Q 219 [some (.ref v), x1, x2, x3] (.ref v :: st) σ := w_aload (k := 0) (n := 1) rfl rfl
theorem e_L_219 {d : Nat} {Q : Option Value → gS → Prop} {x0 x1 x2 : Option Value} {v : Int32} {st : List Value} {σ : gS} : wp d pr_L Q 219 [x0, x1, x2, some (.int v)] st σ ↔ wp d pr_L Q 220 [x0, x1, x2, some (.int v)] (.int v :: st) σ := w_iload (k := 3) (n := 1) rfl rfl
theorem e_L_220 {d : Nat} {Q : Option Value → gS → Prop} {x0 x1 x2 x3 : Option Value}  {st : List Value} {σ : gS} : wp d pr_L Q 220 [x0, x1, x2, x3] st σ ↔ wp d pr_L Q 221 [x0, x1, x2, x3] (.int (2) :: st) σ := w_push (n := 1) rfl
theorem e_L_221 {d : Nat} {Q : Option Value → gS → Prop} {x0 x1 x2 x3 : Option Value} {x y : Int32} {st : List Value} {σ : gS} : wp d pr_L Q 221 [x0, x1, x2, x3] (.int y :: .int x :: st) σ ↔ wp d pr_L Q 222 [x0, x1, x2, x3] (.int (x + y) :: st) σ := w_bI (f := fun x y => x + y) rfl
theorem e_L_222 {d : Nat} {Q : Option Value → gS → Prop} {x0 x1 x2 x3 : Option Value} {i : Int32} {a : Nat} {st : List Value} {σ : gS} : wp d pr_L Q 222 [x0, x1, x2, x3] (.int i :: .ref a :: st) σ ↔ ((gK σ a = 21 ∨ gK σ a = 26) ∧ ¬ i < 0 ∧ i.toNatClampNeg < gN σ a) ∧ wp d pr_L Q 223 [x0, x1, x2, x3] (.int (gI σ a i.toNatClampNeg) :: st) σ := w_iald rfl
theorem e_L_223 {d : Nat} {Q : Option Value → gS → Prop} {x1 x2 x3 : Option Value} {v : Nat} {st : List Value} {σ : gS} : wp d pr_L Q 223 [some (.ref v), x1, x2, x3] st σ ↔ wp d pr_L Q 224 [some (.ref v), x1, x2, x3] (.ref v :: st) σ := w_aload (k := 0) (n := 1) rfl rfl
theorem e_L_224 {d : Nat} {Q : Option Value → gS → Prop} {x0 x1 x2 : Option Value} {v : Int32} {st : List Value} {σ : gS} : wp d pr_L Q 224 [x0, x1, x2, some (.int v)] st σ ↔ wp d pr_L Q 225 [x0, x1, x2, some (.int v)] (.int v :: st) σ := w_iload (k := 3) (n := 1) rfl rfl
theorem e_L_225 {d : Nat} {Q : Option Value → gS → Prop} {x0 x1 x2 x3 : Option Value}  {st : List Value} {σ : gS} : wp d pr_L Q 225 [x0, x1, x2, x3] st σ ↔ wp d pr_L Q 226 [x0, x1, x2, x3] (.int (3) :: st) σ := w_push (n := 1) rfl
theorem e_L_226 {d : Nat} {Q : Option Value → gS → Prop} {x0 x1 x2 x3 : Option Value} {x y : Int32} {st : List Value} {σ : gS} : wp d pr_L Q 226 [x0, x1, x2, x3] (.int y :: .int x :: st) σ ↔ wp d pr_L Q 227 [x0, x1, x2, x3] (.int (x + y) :: st) σ := w_bI (f := fun x y => x + y) rfl
theorem e_L_227 {d : Nat} {Q : Option Value → gS → Prop} {x0 x1 x2 x3 : Option Value} {i : Int32} {a : Nat} {st : List Value} {σ : gS} : wp d pr_L Q 227 [x0, x1, x2, x3] (.int i :: .ref a :: st) σ ↔ ((gK σ a = 21 ∨ gK σ a = 26) ∧ ¬ i < 0 ∧ i.toNatClampNeg < gN σ a) ∧ wp d pr_L Q 228 [x0, x1, x2, x3] (.int (gI σ a i.toNatClampNeg) :: st) σ := w_iald rfl
theorem e_L_228 {d : Nat} {Q : Option Value → gS → Prop} {x1 x2 x3 : Option Value} {v : Nat} {st : List Value} {σ : gS} : wp d pr_L Q 228 [some (.ref v), x1, x2, x3] st σ ↔ wp d pr_L Q 229 [some (.ref v), x1, x2, x3] (.ref v :: st) σ := w_aload (k := 0) (n := 1) rfl rfl
theorem e_L_229 {d : Nat} {Q : Option Value → gS → Prop} {x0 x1 x2 : Option Value} {v : Int32} {st : List Value} {σ : gS} : wp d pr_L Q 229 [x0, x1, x2, some (.int v)] st σ ↔ wp d pr_L Q 230 [x0, x1, x2, some (.int v)] (.int v :: st) σ := w_iload (k := 3) (n := 1) rfl rfl
theorem e_L_230 {d : Nat} {Q : Option Value → gS → Prop} {x0 x1 x2 x3 : Option Value}  {st : List Value} {σ : gS} : wp d pr_L Q 230 [x0, x1, x2, x3] st σ ↔ wp d pr_L Q 231 [x0, x1, x2, x3] (.int (4) :: st) σ := w_push (n := 1) rfl
theorem e_L_231 {d : Nat} {Q : Option Value → gS → Prop} {x0 x1 x2 x3 : Option Value} {x y : Int32} {st : List Value} {σ : gS} : wp d pr_L Q 231 [x0, x1, x2, x3] (.int y :: .int x :: st) σ ↔ wp d pr_L Q 232 [x0, x1, x2, x3] (.int (x + y) :: st) σ := w_bI (f := fun x y => x + y) rfl
theorem e_L_232 {d : Nat} {Q : Option Value → gS → Prop} {x0 x1 x2 x3 : Option Value} {i : Int32} {a : Nat} {st : List Value} {σ : gS} : wp d pr_L Q 232 [x0, x1, x2, x3] (.int i :: .ref a :: st) σ ↔ ((gK σ a = 21 ∨ gK σ a = 26) ∧ ¬ i < 0 ∧ i.toNatClampNeg < gN σ a) ∧ wp d pr_L Q 233 [x0, x1, x2, x3] (.int (gI σ a i.toNatClampNeg) :: st) σ := w_iald rfl
theorem e_L_233 {d : Nat} {Q : Option Value → gS → Prop} {x1 x2 x3 : Option Value} {v : Nat} {st : List Value} {σ : gS} : wp d pr_L Q 233 [some (.ref v), x1, x2, x3] st σ ↔ wp d pr_L Q 234 [some (.ref v), x1, x2, x3] (.ref v :: st) σ := w_aload (k := 0) (n := 1) rfl rfl
theorem e_L_234 {d : Nat} {Q : Option Value → gS → Prop} {x0 x1 x2 : Option Value} {v : Int32} {st : List Value} {σ : gS} : wp d pr_L Q 234 [x0, x1, x2, some (.int v)] st σ ↔ wp d pr_L Q 235 [x0, x1, x2, some (.int v)] (.int v :: st) σ := w_iload (k := 3) (n := 1) rfl rfl
theorem e_L_235 {d : Nat} {Q : Option Value → gS → Prop} {x0 x1 x2 x3 : Option Value}  {st : List Value} {σ : gS} : wp d pr_L Q 235 [x0, x1, x2, x3] st σ ↔ wp d pr_L Q 236 [x0, x1, x2, x3] (.int (5) :: st) σ := w_push (n := 1) rfl
theorem e_L_236 {d : Nat} {Q : Option Value → gS → Prop} {x0 x1 x2 x3 : Option Value} {x y : Int32} {st : List Value} {σ : gS} : wp d pr_L Q 236 [x0, x1, x2, x3] (.int y :: .int x :: st) σ ↔ wp d pr_L Q 237 [x0, x1, x2, x3] (.int (x + y) :: st) σ := w_bI (f := fun x y => x + y) rfl
theorem e_L_237 {d : Nat} {Q : Option Value → gS → Prop} {x0 x1 x2 x3 : Option Value} {i : Int32} {a : Nat} {st : List Value} {σ : gS} : wp d pr_L Q 237 [x0, x1, x2, x3] (.int i :: .ref a :: st) σ ↔ ((gK σ a = 21 ∨ gK σ a = 26) ∧ ¬ i < 0 ∧ i.toNatClampNeg < gN σ a) ∧ wp d pr_L Q 238 [x0, x1, x2, x3] (.int (gI σ a i.toNatClampNeg) :: st) σ := w_iald rfl
theorem e_L_238 {d : Nat} {Q : Option Value → gS → Prop} {x0 x1 x2 x3 : Option Value} {v0 v1 v2 v3 v4 : Value} {a : Nat}  {st : List Value} {σ : gS} : wp d pr_L Q 238 [x0, x1, x2, x3] (v4 :: v3 :: v2 :: v1 :: v0 :: .ref a :: st) σ ↔ (gK σ a = 12 ∧ st.length ≤ 4) ∧ wc d 114 [.ref a, v0, v1, v2, v3, v4] σ (fun r τ => wp d pr_L Q 241 [x0, x1, x2, x3] (r.toList ++ st) τ) := w_callV rfl (by simp) rfl rfl
theorem e_L_241 {d : Nat} {Q : Option Value → gS → Prop} {x0 x1 x3 : Option Value} {v : Nat} {st : List Value} {σ : gS} : wp d pr_L Q 241 [x0, x1, some (.ref v), x3] st σ ↔ wp d pr_L Q 242 [x0, x1, some (.ref v), x3] (.ref v :: st) σ := w_aload (k := 2) (n := 1) rfl rfl
theorem e_L_241n {d : Nat} {Q : Option Value → gS → Prop} {x0 x1 x3 : Option Value}  {st : List Value} {σ : gS} : wp d pr_L Q 241 [x0, x1, some .null, x3] st σ ↔ wp d pr_L Q 242 [x0, x1, some .null, x3] (.null :: st) σ := w_aloadN (k := 2) (n := 1) rfl rfl
theorem e_L_242 {d : Nat} {Q : Option Value → gS → Prop} {x1 x2 x3 : Option Value} {v : Nat} {st : List Value} {σ : gS} : wp d pr_L Q 242 [some (.ref v), x1, x2, x3] st σ ↔ wp d pr_L Q 243 [some (.ref v), x1, x2, x3] (.ref v :: st) σ := w_aload (k := 0) (n := 1) rfl rfl
theorem e_L_243 {d : Nat} {Q : Option Value → gS → Prop} {x0 x1 x2 : Option Value} {v : Int32} {st : List Value} {σ : gS} : wp d pr_L Q 243 [x0, x1, x2, some (.int v)] st σ ↔ wp d pr_L Q 244 [x0, x1, x2, some (.int v)] (.int v :: st) σ := w_iload (k := 3) (n := 1) rfl rfl
theorem e_L_244 {d : Nat} {Q : Option Value → gS → Prop} {x0 x1 x2 x3 : Option Value}  {st : List Value} {σ : gS} : wp d pr_L Q 244 [x0, x1, x2, x3] st σ ↔ wp d pr_L Q 245 [x0, x1, x2, x3] (.int (1) :: st) σ := w_push (n := 1) rfl
theorem e_L_245 {d : Nat} {Q : Option Value → gS → Prop} {x0 x1 x2 x3 : Option Value} {x y : Int32} {st : List Value} {σ : gS} : wp d pr_L Q 245 [x0, x1, x2, x3] (.int y :: .int x :: st) σ ↔ wp d pr_L Q 246 [x0, x1, x2, x3] (.int (x + y) :: st) σ := w_bI (f := fun x y => x + y) rfl
theorem e_L_246 {d : Nat} {Q : Option Value → gS → Prop} {x0 x1 x2 x3 : Option Value} {i : Int32} {a : Nat} {st : List Value} {σ : gS} : wp d pr_L Q 246 [x0, x1, x2, x3] (.int i :: .ref a :: st) σ ↔ ((gK σ a = 21 ∨ gK σ a = 26) ∧ ¬ i < 0 ∧ i.toNatClampNeg < gN σ a) ∧ wp d pr_L Q 247 [x0, x1, x2, x3] (.int (gI σ a i.toNatClampNeg) :: st) σ := w_iald rfl
theorem e_L_247 {d : Nat} {Q : Option Value → gS → Prop} {x1 x2 x3 : Option Value} {v : Nat} {st : List Value} {σ : gS} : wp d pr_L Q 247 [some (.ref v), x1, x2, x3] st σ ↔ wp d pr_L Q 248 [some (.ref v), x1, x2, x3] (.ref v :: st) σ := w_aload (k := 0) (n := 1) rfl rfl
theorem e_L_248 {d : Nat} {Q : Option Value → gS → Prop} {x0 x1 x2 : Option Value} {v : Int32} {st : List Value} {σ : gS} : wp d pr_L Q 248 [x0, x1, x2, some (.int v)] st σ ↔ wp d pr_L Q 249 [x0, x1, x2, some (.int v)] (.int v :: st) σ := w_iload (k := 3) (n := 1) rfl rfl
theorem e_L_249 {d : Nat} {Q : Option Value → gS → Prop} {x0 x1 x2 x3 : Option Value}  {st : List Value} {σ : gS} : wp d pr_L Q 249 [x0, x1, x2, x3] st σ ↔ wp d pr_L Q 250 [x0, x1, x2, x3] (.int (2) :: st) σ := w_push (n := 1) rfl
theorem e_L_250 {d : Nat} {Q : Option Value → gS → Prop} {x0 x1 x2 x3 : Option Value} {x y : Int32} {st : List Value} {σ : gS} : wp d pr_L Q 250 [x0, x1, x2, x3] (.int y :: .int x :: st) σ ↔ wp d pr_L Q 251 [x0, x1, x2, x3] (.int (x + y) :: st) σ := w_bI (f := fun x y => x + y) rfl
theorem e_L_251 {d : Nat} {Q : Option Value → gS → Prop} {x0 x1 x2 x3 : Option Value} {i : Int32} {a : Nat} {st : List Value} {σ : gS} : wp d pr_L Q 251 [x0, x1, x2, x3] (.int i :: .ref a :: st) σ ↔ ((gK σ a = 21 ∨ gK σ a = 26) ∧ ¬ i < 0 ∧ i.toNatClampNeg < gN σ a) ∧ wp d pr_L Q 252 [x0, x1, x2, x3] (.int (gI σ a i.toNatClampNeg) :: st) σ := w_iald rfl
set_option maxRecDepth 100000 in
theorem e_L_252 {d : Nat} {Q : Option Value → gS → Prop} {x1 x2 x3 : Option Value} {v : Nat} {st : List Value} {σ : gS} : wp d pr_L Q 252 [some (.ref v), x1, x2, x3] st σ ↔ wp d pr_L Q 253 [some (.ref v), x1, x2, x3] (.ref v :: st) σ := w_aload (k := 0) (n := 1) rfl rfl
set_option maxRecDepth 100000 in
theorem e_L_253 {d : Nat} {Q : Option Value → gS → Prop} {x0 x1 x2 : Option Value} {v : Int32} {st : List Value} {σ : gS} : wp d pr_L Q 253 [x0, x1, x2, some (.int v)] st σ ↔ wp d pr_L Q 254 [x0, x1, x2, some (.int v)] (.int v :: st) σ := w_iload (k := 3) (n := 1) rfl rfl
set_option maxRecDepth 100000 in
theorem e_L_254 {d : Nat} {Q : Option Value → gS → Prop} {x0 x1 x2 x3 : Option Value}  {st : List Value} {σ : gS} : wp d pr_L Q 254 [x0, x1, x2, x3] st σ ↔ wp d pr_L Q 255 [x0, x1, x2, x3] (.int (3) :: st) σ := w_push (n := 1) rfl
set_option maxRecDepth 100000 in
theorem e_L_255 {d : Nat} {Q : Option Value → gS → Prop} {x0 x1 x2 x3 : Option Value} {x y : Int32} {st : List Value} {σ : gS} : wp d pr_L Q 255 [x0, x1, x2, x3] (.int y :: .int x :: st) σ ↔ wp d pr_L Q 256 [x0, x1, x2, x3] (.int (x + y) :: st) σ := w_bI (f := fun x y => x + y) rfl
set_option maxRecDepth 100000 in
theorem e_L_256 {d : Nat} {Q : Option Value → gS → Prop} {x0 x1 x2 x3 : Option Value} {i : Int32} {a : Nat} {st : List Value} {σ : gS} : wp d pr_L Q 256 [x0, x1, x2, x3] (.int i :: .ref a :: st) σ ↔ ((gK σ a = 21 ∨ gK σ a = 26) ∧ ¬ i < 0 ∧ i.toNatClampNeg < gN σ a) ∧ wp d pr_L Q 257 [x0, x1, x2, x3] (.int (gI σ a i.toNatClampNeg) :: st) σ := w_iald rfl
set_option maxRecDepth 100000 in
theorem e_L_257 {d : Nat} {Q : Option Value → gS → Prop} {x1 x2 x3 : Option Value} {v : Nat} {st : List Value} {σ : gS} : wp d pr_L Q 257 [some (.ref v), x1, x2, x3] st σ ↔ wp d pr_L Q 258 [some (.ref v), x1, x2, x3] (.ref v :: st) σ := w_aload (k := 0) (n := 1) rfl rfl
set_option maxRecDepth 100000 in
theorem e_L_258 {d : Nat} {Q : Option Value → gS → Prop} {x0 x1 x2 : Option Value} {v : Int32} {st : List Value} {σ : gS} : wp d pr_L Q 258 [x0, x1, x2, some (.int v)] st σ ↔ wp d pr_L Q 259 [x0, x1, x2, some (.int v)] (.int v :: st) σ := w_iload (k := 3) (n := 1) rfl rfl
set_option maxRecDepth 100000 in
theorem e_L_259 {d : Nat} {Q : Option Value → gS → Prop} {x0 x1 x2 x3 : Option Value}  {st : List Value} {σ : gS} : wp d pr_L Q 259 [x0, x1, x2, x3] st σ ↔ wp d pr_L Q 260 [x0, x1, x2, x3] (.int (4) :: st) σ := w_push (n := 1) rfl
set_option maxRecDepth 100000 in
theorem e_L_260 {d : Nat} {Q : Option Value → gS → Prop} {x0 x1 x2 x3 : Option Value} {x y : Int32} {st : List Value} {σ : gS} : wp d pr_L Q 260 [x0, x1, x2, x3] (.int y :: .int x :: st) σ ↔ wp d pr_L Q 261 [x0, x1, x2, x3] (.int (x + y) :: st) σ := w_bI (f := fun x y => x + y) rfl
set_option maxRecDepth 100000 in
theorem e_L_261 {d : Nat} {Q : Option Value → gS → Prop} {x0 x1 x2 x3 : Option Value} {i : Int32} {a : Nat} {st : List Value} {σ : gS} : wp d pr_L Q 261 [x0, x1, x2, x3] (.int i :: .ref a :: st) σ ↔ ((gK σ a = 21 ∨ gK σ a = 26) ∧ ¬ i < 0 ∧ i.toNatClampNeg < gN σ a) ∧ wp d pr_L Q 262 [x0, x1, x2, x3] (.int (gI σ a i.toNatClampNeg) :: st) σ := w_iald rfl
set_option maxRecDepth 100000 in
theorem e_L_262 {d : Nat} {Q : Option Value → gS → Prop} {x1 x2 x3 : Option Value} {v : Nat} {st : List Value} {σ : gS} : wp d pr_L Q 262 [some (.ref v), x1, x2, x3] st σ ↔ wp d pr_L Q 263 [some (.ref v), x1, x2, x3] (.ref v :: st) σ := w_aload (k := 0) (n := 1) rfl rfl
set_option maxRecDepth 100000 in
theorem e_L_263 {d : Nat} {Q : Option Value → gS → Prop} {x0 x1 x2 : Option Value} {v : Int32} {st : List Value} {σ : gS} : wp d pr_L Q 263 [x0, x1, x2, some (.int v)] st σ ↔ wp d pr_L Q 264 [x0, x1, x2, some (.int v)] (.int v :: st) σ := w_iload (k := 3) (n := 1) rfl rfl
set_option maxRecDepth 100000 in
theorem e_L_264 {d : Nat} {Q : Option Value → gS → Prop} {x0 x1 x2 x3 : Option Value}  {st : List Value} {σ : gS} : wp d pr_L Q 264 [x0, x1, x2, x3] st σ ↔ wp d pr_L Q 265 [x0, x1, x2, x3] (.int (5) :: st) σ := w_push (n := 1) rfl
set_option maxRecDepth 100000 in
theorem e_L_265 {d : Nat} {Q : Option Value → gS → Prop} {x0 x1 x2 x3 : Option Value} {x y : Int32} {st : List Value} {σ : gS} : wp d pr_L Q 265 [x0, x1, x2, x3] (.int y :: .int x :: st) σ ↔ wp d pr_L Q 266 [x0, x1, x2, x3] (.int (x + y) :: st) σ := w_bI (f := fun x y => x + y) rfl
set_option maxRecDepth 100000 in
theorem e_L_266 {d : Nat} {Q : Option Value → gS → Prop} {x0 x1 x2 x3 : Option Value} {i : Int32} {a : Nat} {st : List Value} {σ : gS} : wp d pr_L Q 266 [x0, x1, x2, x3] (.int i :: .ref a :: st) σ ↔ ((gK σ a = 21 ∨ gK σ a = 26) ∧ ¬ i < 0 ∧ i.toNatClampNeg < gN σ a) ∧ wp d pr_L Q 267 [x0, x1, x2, x3] (.int (gI σ a i.toNatClampNeg) :: st) σ := w_iald rfl
set_option maxRecDepth 100000 in
theorem e_L_267 {d : Nat} {Q : Option Value → gS → Prop} {x0 x1 x2 x3 : Option Value} {v0 v1 v2 v3 v4 : Value} {a : Nat}  {st : List Value} {σ : gS} : wp d pr_L Q 267 [x0, x1, x2, x3] (v4 :: v3 :: v2 :: v1 :: v0 :: .ref a :: st) σ ↔ (gK σ a = 13 ∧ st.length ≤ 4) ∧ wc d 181 [.ref a, v0, v1, v2, v3, v4] σ (fun r τ => wp d pr_L Q 270 [x0, x1, x2, x3] (r.toList ++ st) τ) := w_callV rfl (by simp) rfl rfl
set_option maxRecDepth 100000 in
theorem e_L_270 {d : Nat} {Q : Option Value → gS → Prop} {x0 x1 x2 x3 : Option Value} {x y : Int32} {st : List Value} {σ : gS} : wp d pr_L Q 270 [x0, x1, x2, x3] (.int y :: .int x :: st) σ ↔ ((x = y) → wp d pr_L Q 1495 [x0, x1, x2, x3] (st) σ) ∧ (¬ (x = y) → wp d pr_L Q 273 [x0, x1, x2, x3] (st) σ) := w_icmp rfl decide_eq_true_iff
set_option maxRecDepth 100000 in
theorem e_L_273 {d : Nat} {Q : Option Value → gS → Prop} {x0 x1 x2 x3 : Option Value}  {st : List Value} {σ : gS} : wp d pr_L Q 273 [x0, x1, x2, x3] st σ ↔ wp d pr_L Q 274 [x0, x1, x2, x3] (.int (0) :: st) σ := w_push (n := 1) rfl
set_option maxRecDepth 100000 in
theorem e_L_274 {d : Nat} {Q : Option Value → gS → Prop} {x0 x1 x2 x3 : Option Value} {v : Int32} {σ : gS} : wp d pr_L Q 274 [x0, x1, x2, x3] [.int v] σ ↔ (v = 0 ∨ v = 1) ∧ Q (some (.int v)) σ := w_zret rfl
set_option maxRecDepth 100000 in
theorem e_L_275 {d : Nat} {Q : Option Value → gS → Prop} {x0 x2 x3 : Option Value} {v : Nat} {st : List Value} {σ : gS} : wp d pr_L Q 275 [x0, some (.ref v), x2, x3] st σ ↔ wp d pr_L Q 276 [x0, some (.ref v), x2, x3] (.ref v :: st) σ := w_aload (k := 1) (n := 1) rfl rfl
set_option maxRecDepth 100000 in
theorem e_L_275n {d : Nat} {Q : Option Value → gS → Prop} {x0 x2 x3 : Option Value}  {st : List Value} {σ : gS} : wp d pr_L Q 275 [x0, some .null, x2, x3] st σ ↔ wp d pr_L Q 276 [x0, some .null, x2, x3] (.null :: st) σ := w_aloadN (k := 1) (n := 1) rfl rfl
set_option maxRecDepth 100000 in
theorem e_L_276 {d : Nat} {Q : Option Value → gS → Prop} {x1 x2 x3 : Option Value} {v : Nat} {st : List Value} {σ : gS} : wp d pr_L Q 276 [some (.ref v), x1, x2, x3] st σ ↔ wp d pr_L Q 277 [some (.ref v), x1, x2, x3] (.ref v :: st) σ := w_aload (k := 0) (n := 1) rfl rfl
set_option maxRecDepth 100000 in
theorem e_L_277 {d : Nat} {Q : Option Value → gS → Prop} {x0 x1 x2 : Option Value} {v : Int32} {st : List Value} {σ : gS} : wp d pr_L Q 277 [x0, x1, x2, some (.int v)] st σ ↔ wp d pr_L Q 278 [x0, x1, x2, some (.int v)] (.int v :: st) σ := w_iload (k := 3) (n := 1) rfl rfl
set_option maxRecDepth 100000 in
theorem e_L_278 {d : Nat} {Q : Option Value → gS → Prop} {x0 x1 x2 x3 : Option Value}  {st : List Value} {σ : gS} : wp d pr_L Q 278 [x0, x1, x2, x3] st σ ↔ wp d pr_L Q 279 [x0, x1, x2, x3] (.int (1) :: st) σ := w_push (n := 1) rfl
set_option maxRecDepth 100000 in
theorem e_L_279 {d : Nat} {Q : Option Value → gS → Prop} {x0 x1 x2 x3 : Option Value} {x y : Int32} {st : List Value} {σ : gS} : wp d pr_L Q 279 [x0, x1, x2, x3] (.int y :: .int x :: st) σ ↔ wp d pr_L Q 280 [x0, x1, x2, x3] (.int (x + y) :: st) σ := w_bI (f := fun x y => x + y) rfl
set_option maxRecDepth 100000 in
theorem e_L_280 {d : Nat} {Q : Option Value → gS → Prop} {x0 x1 x2 x3 : Option Value} {i : Int32} {a : Nat} {st : List Value} {σ : gS} : wp d pr_L Q 280 [x0, x1, x2, x3] (.int i :: .ref a :: st) σ ↔ ((gK σ a = 21 ∨ gK σ a = 26) ∧ ¬ i < 0 ∧ i.toNatClampNeg < gN σ a) ∧ wp d pr_L Q 281 [x0, x1, x2, x3] (.int (gI σ a i.toNatClampNeg) :: st) σ := w_iald rfl
set_option maxRecDepth 100000 in
theorem e_L_281 {d : Nat} {Q : Option Value → gS → Prop} {x1 x2 x3 : Option Value} {v : Nat} {st : List Value} {σ : gS} : wp d pr_L Q 281 [some (.ref v), x1, x2, x3] st σ ↔ wp d pr_L Q 282 [some (.ref v), x1, x2, x3] (.ref v :: st) σ := w_aload (k := 0) (n := 1) rfl rfl
set_option maxRecDepth 100000 in
theorem e_L_282 {d : Nat} {Q : Option Value → gS → Prop} {x0 x1 x2 : Option Value} {v : Int32} {st : List Value} {σ : gS} : wp d pr_L Q 282 [x0, x1, x2, some (.int v)] st σ ↔ wp d pr_L Q 283 [x0, x1, x2, some (.int v)] (.int v :: st) σ := w_iload (k := 3) (n := 1) rfl rfl
set_option maxRecDepth 100000 in
theorem e_L_283 {d : Nat} {Q : Option Value → gS → Prop} {x0 x1 x2 x3 : Option Value}  {st : List Value} {σ : gS} : wp d pr_L Q 283 [x0, x1, x2, x3] st σ ↔ wp d pr_L Q 284 [x0, x1, x2, x3] (.int (2) :: st) σ := w_push (n := 1) rfl
set_option maxRecDepth 100000 in
theorem e_L_284 {d : Nat} {Q : Option Value → gS → Prop} {x0 x1 x2 x3 : Option Value} {x y : Int32} {st : List Value} {σ : gS} : wp d pr_L Q 284 [x0, x1, x2, x3] (.int y :: .int x :: st) σ ↔ wp d pr_L Q 285 [x0, x1, x2, x3] (.int (x + y) :: st) σ := w_bI (f := fun x y => x + y) rfl
set_option maxRecDepth 100000 in
theorem e_L_285 {d : Nat} {Q : Option Value → gS → Prop} {x0 x1 x2 x3 : Option Value} {i : Int32} {a : Nat} {st : List Value} {σ : gS} : wp d pr_L Q 285 [x0, x1, x2, x3] (.int i :: .ref a :: st) σ ↔ ((gK σ a = 21 ∨ gK σ a = 26) ∧ ¬ i < 0 ∧ i.toNatClampNeg < gN σ a) ∧ wp d pr_L Q 286 [x0, x1, x2, x3] (.int (gI σ a i.toNatClampNeg) :: st) σ := w_iald rfl
set_option maxRecDepth 100000 in
theorem e_L_286 {d : Nat} {Q : Option Value → gS → Prop} {x0 x1 x2 x3 : Option Value} {v0 v1 : Value} {a : Nat}  {st : List Value} {σ : gS} : wp d pr_L Q 286 [x0, x1, x2, x3] (v1 :: v0 :: .ref a :: st) σ ↔ (gK σ a = 12 ∧ st.length ≤ 4) ∧ wc d 115 [.ref a, v0, v1] σ (fun r τ => wp d pr_L Q 289 [x0, x1, x2, x3] (r.toList ++ st) τ) := w_callV rfl (by simp) rfl rfl
set_option maxRecDepth 100000 in
theorem e_L_289 {d : Nat} {Q : Option Value → gS → Prop} {x0 x1 x3 : Option Value} {v : Nat} {st : List Value} {σ : gS} : wp d pr_L Q 289 [x0, x1, some (.ref v), x3] st σ ↔ wp d pr_L Q 290 [x0, x1, some (.ref v), x3] (.ref v :: st) σ := w_aload (k := 2) (n := 1) rfl rfl
set_option maxRecDepth 100000 in
theorem e_L_289n {d : Nat} {Q : Option Value → gS → Prop} {x0 x1 x3 : Option Value}  {st : List Value} {σ : gS} : wp d pr_L Q 289 [x0, x1, some .null, x3] st σ ↔ wp d pr_L Q 290 [x0, x1, some .null, x3] (.null :: st) σ := w_aloadN (k := 2) (n := 1) rfl rfl
set_option maxRecDepth 100000 in
theorem e_L_290 {d : Nat} {Q : Option Value → gS → Prop} {x1 x2 x3 : Option Value} {v : Nat} {st : List Value} {σ : gS} : wp d pr_L Q 290 [some (.ref v), x1, x2, x3] st σ ↔ wp d pr_L Q 291 [some (.ref v), x1, x2, x3] (.ref v :: st) σ := w_aload (k := 0) (n := 1) rfl rfl
set_option maxRecDepth 100000 in
theorem e_L_291 {d : Nat} {Q : Option Value → gS → Prop} {x0 x1 x2 : Option Value} {v : Int32} {st : List Value} {σ : gS} : wp d pr_L Q 291 [x0, x1, x2, some (.int v)] st σ ↔ wp d pr_L Q 292 [x0, x1, x2, some (.int v)] (.int v :: st) σ := w_iload (k := 3) (n := 1) rfl rfl
set_option maxRecDepth 100000 in
theorem e_L_292 {d : Nat} {Q : Option Value → gS → Prop} {x0 x1 x2 x3 : Option Value}  {st : List Value} {σ : gS} : wp d pr_L Q 292 [x0, x1, x2, x3] st σ ↔ wp d pr_L Q 293 [x0, x1, x2, x3] (.int (1) :: st) σ := w_push (n := 1) rfl
set_option maxRecDepth 100000 in
theorem e_L_293 {d : Nat} {Q : Option Value → gS → Prop} {x0 x1 x2 x3 : Option Value} {x y : Int32} {st : List Value} {σ : gS} : wp d pr_L Q 293 [x0, x1, x2, x3] (.int y :: .int x :: st) σ ↔ wp d pr_L Q 294 [x0, x1, x2, x3] (.int (x + y) :: st) σ := w_bI (f := fun x y => x + y) rfl
set_option maxRecDepth 100000 in
theorem e_L_294 {d : Nat} {Q : Option Value → gS → Prop} {x0 x1 x2 x3 : Option Value} {i : Int32} {a : Nat} {st : List Value} {σ : gS} : wp d pr_L Q 294 [x0, x1, x2, x3] (.int i :: .ref a :: st) σ ↔ ((gK σ a = 21 ∨ gK σ a = 26) ∧ ¬ i < 0 ∧ i.toNatClampNeg < gN σ a) ∧ wp d pr_L Q 295 [x0, x1, x2, x3] (.int (gI σ a i.toNatClampNeg) :: st) σ := w_iald rfl
set_option maxRecDepth 100000 in
theorem e_L_295 {d : Nat} {Q : Option Value → gS → Prop} {x1 x2 x3 : Option Value} {v : Nat} {st : List Value} {σ : gS} : wp d pr_L Q 295 [some (.ref v), x1, x2, x3] st σ ↔ wp d pr_L Q 296 [some (.ref v), x1, x2, x3] (.ref v :: st) σ := w_aload (k := 0) (n := 1) rfl rfl
set_option maxRecDepth 100000 in
theorem e_L_296 {d : Nat} {Q : Option Value → gS → Prop} {x0 x1 x2 : Option Value} {v : Int32} {st : List Value} {σ : gS} : wp d pr_L Q 296 [x0, x1, x2, some (.int v)] st σ ↔ wp d pr_L Q 297 [x0, x1, x2, some (.int v)] (.int v :: st) σ := w_iload (k := 3) (n := 1) rfl rfl
set_option maxRecDepth 100000 in
theorem e_L_297 {d : Nat} {Q : Option Value → gS → Prop} {x0 x1 x2 x3 : Option Value}  {st : List Value} {σ : gS} : wp d pr_L Q 297 [x0, x1, x2, x3] st σ ↔ wp d pr_L Q 298 [x0, x1, x2, x3] (.int (2) :: st) σ := w_push (n := 1) rfl
set_option maxRecDepth 100000 in
theorem e_L_298 {d : Nat} {Q : Option Value → gS → Prop} {x0 x1 x2 x3 : Option Value} {x y : Int32} {st : List Value} {σ : gS} : wp d pr_L Q 298 [x0, x1, x2, x3] (.int y :: .int x :: st) σ ↔ wp d pr_L Q 299 [x0, x1, x2, x3] (.int (x + y) :: st) σ := w_bI (f := fun x y => x + y) rfl
set_option maxRecDepth 100000 in
theorem e_L_299 {d : Nat} {Q : Option Value → gS → Prop} {x0 x1 x2 x3 : Option Value} {i : Int32} {a : Nat} {st : List Value} {σ : gS} : wp d pr_L Q 299 [x0, x1, x2, x3] (.int i :: .ref a :: st) σ ↔ ((gK σ a = 21 ∨ gK σ a = 26) ∧ ¬ i < 0 ∧ i.toNatClampNeg < gN σ a) ∧ wp d pr_L Q 300 [x0, x1, x2, x3] (.int (gI σ a i.toNatClampNeg) :: st) σ := w_iald rfl
set_option maxRecDepth 100000 in
theorem e_L_300 {d : Nat} {Q : Option Value → gS → Prop} {x0 x1 x2 x3 : Option Value} {v0 v1 : Value} {a : Nat}  {st : List Value} {σ : gS} : wp d pr_L Q 300 [x0, x1, x2, x3] (v1 :: v0 :: .ref a :: st) σ ↔ (gK σ a = 13 ∧ st.length ≤ 4) ∧ wc d 182 [.ref a, v0, v1] σ (fun r τ => wp d pr_L Q 303 [x0, x1, x2, x3] (r.toList ++ st) τ) := w_callV rfl (by simp) rfl rfl
set_option maxRecDepth 100000 in
theorem e_L_303 {d : Nat} {Q : Option Value → gS → Prop} {x0 x1 x2 x3 : Option Value} {x y : Int32} {st : List Value} {σ : gS} : wp d pr_L Q 303 [x0, x1, x2, x3] (.int y :: .int x :: st) σ ↔ ((x = y) → wp d pr_L Q 1495 [x0, x1, x2, x3] (st) σ) ∧ (¬ (x = y) → wp d pr_L Q 306 [x0, x1, x2, x3] (st) σ) := w_icmp rfl decide_eq_true_iff
set_option maxRecDepth 100000 in
theorem e_L_306 {d : Nat} {Q : Option Value → gS → Prop} {x0 x1 x2 x3 : Option Value}  {st : List Value} {σ : gS} : wp d pr_L Q 306 [x0, x1, x2, x3] st σ ↔ wp d pr_L Q 307 [x0, x1, x2, x3] (.int (0) :: st) σ := w_push (n := 1) rfl
set_option maxRecDepth 100000 in
theorem e_L_307 {d : Nat} {Q : Option Value → gS → Prop} {x0 x1 x2 x3 : Option Value} {v : Int32} {σ : gS} : wp d pr_L Q 307 [x0, x1, x2, x3] [.int v] σ ↔ (v = 0 ∨ v = 1) ∧ Q (some (.int v)) σ := w_zret rfl
set_option maxRecDepth 100000 in
theorem e_L_308 {d : Nat} {Q : Option Value → gS → Prop} {x0 x2 x3 : Option Value} {v : Nat} {st : List Value} {σ : gS} : wp d pr_L Q 308 [x0, some (.ref v), x2, x3] st σ ↔ wp d pr_L Q 309 [x0, some (.ref v), x2, x3] (.ref v :: st) σ := w_aload (k := 1) (n := 1) rfl rfl
set_option maxRecDepth 100000 in
theorem e_L_308n {d : Nat} {Q : Option Value → gS → Prop} {x0 x2 x3 : Option Value}  {st : List Value} {σ : gS} : wp d pr_L Q 308 [x0, some .null, x2, x3] st σ ↔ wp d pr_L Q 309 [x0, some .null, x2, x3] (.null :: st) σ := w_aloadN (k := 1) (n := 1) rfl rfl
set_option maxRecDepth 100000 in
theorem e_L_309 {d : Nat} {Q : Option Value → gS → Prop} {x1 x2 x3 : Option Value} {v : Nat} {st : List Value} {σ : gS} : wp d pr_L Q 309 [some (.ref v), x1, x2, x3] st σ ↔ wp d pr_L Q 310 [some (.ref v), x1, x2, x3] (.ref v :: st) σ := w_aload (k := 0) (n := 1) rfl rfl
set_option maxRecDepth 100000 in
theorem e_L_310 {d : Nat} {Q : Option Value → gS → Prop} {x0 x1 x2 : Option Value} {v : Int32} {st : List Value} {σ : gS} : wp d pr_L Q 310 [x0, x1, x2, some (.int v)] st σ ↔ wp d pr_L Q 311 [x0, x1, x2, some (.int v)] (.int v :: st) σ := w_iload (k := 3) (n := 1) rfl rfl
set_option maxRecDepth 100000 in
theorem e_L_311 {d : Nat} {Q : Option Value → gS → Prop} {x0 x1 x2 x3 : Option Value}  {st : List Value} {σ : gS} : wp d pr_L Q 311 [x0, x1, x2, x3] st σ ↔ wp d pr_L Q 312 [x0, x1, x2, x3] (.int (1) :: st) σ := w_push (n := 1) rfl
set_option maxRecDepth 100000 in
theorem e_L_312 {d : Nat} {Q : Option Value → gS → Prop} {x0 x1 x2 x3 : Option Value} {x y : Int32} {st : List Value} {σ : gS} : wp d pr_L Q 312 [x0, x1, x2, x3] (.int y :: .int x :: st) σ ↔ wp d pr_L Q 313 [x0, x1, x2, x3] (.int (x + y) :: st) σ := w_bI (f := fun x y => x + y) rfl
set_option maxRecDepth 100000 in
theorem e_L_313 {d : Nat} {Q : Option Value → gS → Prop} {x0 x1 x2 x3 : Option Value} {i : Int32} {a : Nat} {st : List Value} {σ : gS} : wp d pr_L Q 313 [x0, x1, x2, x3] (.int i :: .ref a :: st) σ ↔ ((gK σ a = 21 ∨ gK σ a = 26) ∧ ¬ i < 0 ∧ i.toNatClampNeg < gN σ a) ∧ wp d pr_L Q 314 [x0, x1, x2, x3] (.int (gI σ a i.toNatClampNeg) :: st) σ := w_iald rfl
set_option maxRecDepth 100000 in
theorem e_L_314 {d : Nat} {Q : Option Value → gS → Prop} {x1 x2 x3 : Option Value} {v : Nat} {st : List Value} {σ : gS} : wp d pr_L Q 314 [some (.ref v), x1, x2, x3] st σ ↔ wp d pr_L Q 315 [some (.ref v), x1, x2, x3] (.ref v :: st) σ := w_aload (k := 0) (n := 1) rfl rfl
set_option maxRecDepth 100000 in
theorem e_L_315 {d : Nat} {Q : Option Value → gS → Prop} {x0 x1 x2 : Option Value} {v : Int32} {st : List Value} {σ : gS} : wp d pr_L Q 315 [x0, x1, x2, some (.int v)] st σ ↔ wp d pr_L Q 316 [x0, x1, x2, some (.int v)] (.int v :: st) σ := w_iload (k := 3) (n := 1) rfl rfl
set_option maxRecDepth 100000 in
theorem e_L_316 {d : Nat} {Q : Option Value → gS → Prop} {x0 x1 x2 x3 : Option Value}  {st : List Value} {σ : gS} : wp d pr_L Q 316 [x0, x1, x2, x3] st σ ↔ wp d pr_L Q 317 [x0, x1, x2, x3] (.int (2) :: st) σ := w_push (n := 1) rfl
set_option maxRecDepth 100000 in
theorem e_L_317 {d : Nat} {Q : Option Value → gS → Prop} {x0 x1 x2 x3 : Option Value} {x y : Int32} {st : List Value} {σ : gS} : wp d pr_L Q 317 [x0, x1, x2, x3] (.int y :: .int x :: st) σ ↔ wp d pr_L Q 318 [x0, x1, x2, x3] (.int (x + y) :: st) σ := w_bI (f := fun x y => x + y) rfl
set_option maxRecDepth 100000 in
theorem e_L_318 {d : Nat} {Q : Option Value → gS → Prop} {x0 x1 x2 x3 : Option Value} {i : Int32} {a : Nat} {st : List Value} {σ : gS} : wp d pr_L Q 318 [x0, x1, x2, x3] (.int i :: .ref a :: st) σ ↔ ((gK σ a = 21 ∨ gK σ a = 26) ∧ ¬ i < 0 ∧ i.toNatClampNeg < gN σ a) ∧ wp d pr_L Q 319 [x0, x1, x2, x3] (.int (gI σ a i.toNatClampNeg) :: st) σ := w_iald rfl
set_option maxRecDepth 100000 in
theorem e_L_319 {d : Nat} {Q : Option Value → gS → Prop} {x0 x1 x2 x3 : Option Value} {v0 v1 : Value} {a : Nat}  {st : List Value} {σ : gS} : wp d pr_L Q 319 [x0, x1, x2, x3] (v1 :: v0 :: .ref a :: st) σ ↔ (gK σ a = 12 ∧ st.length ≤ 4) ∧ wc d 116 [.ref a, v0, v1] σ (fun r τ => wp d pr_L Q 322 [x0, x1, x2, x3] (r.toList ++ st) τ) := w_callV rfl (by simp) rfl rfl
set_option maxRecDepth 100000 in
theorem e_L_322 {d : Nat} {Q : Option Value → gS → Prop} {x0 x1 x3 : Option Value} {v : Nat} {st : List Value} {σ : gS} : wp d pr_L Q 322 [x0, x1, some (.ref v), x3] st σ ↔ wp d pr_L Q 323 [x0, x1, some (.ref v), x3] (.ref v :: st) σ := w_aload (k := 2) (n := 1) rfl rfl
set_option maxRecDepth 100000 in
theorem e_L_322n {d : Nat} {Q : Option Value → gS → Prop} {x0 x1 x3 : Option Value}  {st : List Value} {σ : gS} : wp d pr_L Q 322 [x0, x1, some .null, x3] st σ ↔ wp d pr_L Q 323 [x0, x1, some .null, x3] (.null :: st) σ := w_aloadN (k := 2) (n := 1) rfl rfl
set_option maxRecDepth 100000 in
theorem e_L_323 {d : Nat} {Q : Option Value → gS → Prop} {x1 x2 x3 : Option Value} {v : Nat} {st : List Value} {σ : gS} : wp d pr_L Q 323 [some (.ref v), x1, x2, x3] st σ ↔ wp d pr_L Q 324 [some (.ref v), x1, x2, x3] (.ref v :: st) σ := w_aload (k := 0) (n := 1) rfl rfl
set_option maxRecDepth 100000 in
theorem e_L_324 {d : Nat} {Q : Option Value → gS → Prop} {x0 x1 x2 : Option Value} {v : Int32} {st : List Value} {σ : gS} : wp d pr_L Q 324 [x0, x1, x2, some (.int v)] st σ ↔ wp d pr_L Q 325 [x0, x1, x2, some (.int v)] (.int v :: st) σ := w_iload (k := 3) (n := 1) rfl rfl
set_option maxRecDepth 100000 in
theorem e_L_325 {d : Nat} {Q : Option Value → gS → Prop} {x0 x1 x2 x3 : Option Value}  {st : List Value} {σ : gS} : wp d pr_L Q 325 [x0, x1, x2, x3] st σ ↔ wp d pr_L Q 326 [x0, x1, x2, x3] (.int (1) :: st) σ := w_push (n := 1) rfl
set_option maxRecDepth 100000 in
theorem e_L_326 {d : Nat} {Q : Option Value → gS → Prop} {x0 x1 x2 x3 : Option Value} {x y : Int32} {st : List Value} {σ : gS} : wp d pr_L Q 326 [x0, x1, x2, x3] (.int y :: .int x :: st) σ ↔ wp d pr_L Q 327 [x0, x1, x2, x3] (.int (x + y) :: st) σ := w_bI (f := fun x y => x + y) rfl
set_option maxRecDepth 100000 in
theorem e_L_327 {d : Nat} {Q : Option Value → gS → Prop} {x0 x1 x2 x3 : Option Value} {i : Int32} {a : Nat} {st : List Value} {σ : gS} : wp d pr_L Q 327 [x0, x1, x2, x3] (.int i :: .ref a :: st) σ ↔ ((gK σ a = 21 ∨ gK σ a = 26) ∧ ¬ i < 0 ∧ i.toNatClampNeg < gN σ a) ∧ wp d pr_L Q 328 [x0, x1, x2, x3] (.int (gI σ a i.toNatClampNeg) :: st) σ := w_iald rfl
set_option maxRecDepth 100000 in
theorem e_L_328 {d : Nat} {Q : Option Value → gS → Prop} {x1 x2 x3 : Option Value} {v : Nat} {st : List Value} {σ : gS} : wp d pr_L Q 328 [some (.ref v), x1, x2, x3] st σ ↔ wp d pr_L Q 329 [some (.ref v), x1, x2, x3] (.ref v :: st) σ := w_aload (k := 0) (n := 1) rfl rfl
set_option maxRecDepth 100000 in
theorem e_L_329 {d : Nat} {Q : Option Value → gS → Prop} {x0 x1 x2 : Option Value} {v : Int32} {st : List Value} {σ : gS} : wp d pr_L Q 329 [x0, x1, x2, some (.int v)] st σ ↔ wp d pr_L Q 330 [x0, x1, x2, some (.int v)] (.int v :: st) σ := w_iload (k := 3) (n := 1) rfl rfl
set_option maxRecDepth 100000 in
theorem e_L_330 {d : Nat} {Q : Option Value → gS → Prop} {x0 x1 x2 x3 : Option Value}  {st : List Value} {σ : gS} : wp d pr_L Q 330 [x0, x1, x2, x3] st σ ↔ wp d pr_L Q 331 [x0, x1, x2, x3] (.int (2) :: st) σ := w_push (n := 1) rfl
set_option maxRecDepth 100000 in
theorem e_L_331 {d : Nat} {Q : Option Value → gS → Prop} {x0 x1 x2 x3 : Option Value} {x y : Int32} {st : List Value} {σ : gS} : wp d pr_L Q 331 [x0, x1, x2, x3] (.int y :: .int x :: st) σ ↔ wp d pr_L Q 332 [x0, x1, x2, x3] (.int (x + y) :: st) σ := w_bI (f := fun x y => x + y) rfl
set_option maxRecDepth 100000 in
theorem e_L_332 {d : Nat} {Q : Option Value → gS → Prop} {x0 x1 x2 x3 : Option Value} {i : Int32} {a : Nat} {st : List Value} {σ : gS} : wp d pr_L Q 332 [x0, x1, x2, x3] (.int i :: .ref a :: st) σ ↔ ((gK σ a = 21 ∨ gK σ a = 26) ∧ ¬ i < 0 ∧ i.toNatClampNeg < gN σ a) ∧ wp d pr_L Q 333 [x0, x1, x2, x3] (.int (gI σ a i.toNatClampNeg) :: st) σ := w_iald rfl
set_option maxRecDepth 100000 in
theorem e_L_333 {d : Nat} {Q : Option Value → gS → Prop} {x0 x1 x2 x3 : Option Value} {v0 v1 : Value} {a : Nat}  {st : List Value} {σ : gS} : wp d pr_L Q 333 [x0, x1, x2, x3] (v1 :: v0 :: .ref a :: st) σ ↔ (gK σ a = 13 ∧ st.length ≤ 4) ∧ wc d 183 [.ref a, v0, v1] σ (fun r τ => wp d pr_L Q 336 [x0, x1, x2, x3] (r.toList ++ st) τ) := w_callV rfl (by simp) rfl rfl
set_option maxRecDepth 100000 in
theorem e_L_336 {d : Nat} {Q : Option Value → gS → Prop} {x0 x1 x2 x3 : Option Value} {x y : Int32} {st : List Value} {σ : gS} : wp d pr_L Q 336 [x0, x1, x2, x3] (.int y :: .int x :: st) σ ↔ ((x = y) → wp d pr_L Q 1495 [x0, x1, x2, x3] (st) σ) ∧ (¬ (x = y) → wp d pr_L Q 339 [x0, x1, x2, x3] (st) σ) := w_icmp rfl decide_eq_true_iff
set_option maxRecDepth 100000 in
theorem e_L_339 {d : Nat} {Q : Option Value → gS → Prop} {x0 x1 x2 x3 : Option Value}  {st : List Value} {σ : gS} : wp d pr_L Q 339 [x0, x1, x2, x3] st σ ↔ wp d pr_L Q 340 [x0, x1, x2, x3] (.int (0) :: st) σ := w_push (n := 1) rfl
set_option maxRecDepth 100000 in
theorem e_L_340 {d : Nat} {Q : Option Value → gS → Prop} {x0 x1 x2 x3 : Option Value} {v : Int32} {σ : gS} : wp d pr_L Q 340 [x0, x1, x2, x3] [.int v] σ ↔ (v = 0 ∨ v = 1) ∧ Q (some (.int v)) σ := w_zret rfl
set_option maxRecDepth 100000 in
theorem e_L_341 {d : Nat} {Q : Option Value → gS → Prop} {x0 x2 x3 : Option Value} {v : Nat} {st : List Value} {σ : gS} : wp d pr_L Q 341 [x0, some (.ref v), x2, x3] st σ ↔ wp d pr_L Q 342 [x0, some (.ref v), x2, x3] (.ref v :: st) σ := w_aload (k := 1) (n := 1) rfl rfl
set_option maxRecDepth 100000 in
theorem e_L_341n {d : Nat} {Q : Option Value → gS → Prop} {x0 x2 x3 : Option Value}  {st : List Value} {σ : gS} : wp d pr_L Q 341 [x0, some .null, x2, x3] st σ ↔ wp d pr_L Q 342 [x0, some .null, x2, x3] (.null :: st) σ := w_aloadN (k := 1) (n := 1) rfl rfl
set_option maxRecDepth 100000 in
theorem e_L_342 {d : Nat} {Q : Option Value → gS → Prop} {x1 x2 x3 : Option Value} {v : Nat} {st : List Value} {σ : gS} : wp d pr_L Q 342 [some (.ref v), x1, x2, x3] st σ ↔ wp d pr_L Q 343 [some (.ref v), x1, x2, x3] (.ref v :: st) σ := w_aload (k := 0) (n := 1) rfl rfl
set_option maxRecDepth 100000 in
theorem e_L_343 {d : Nat} {Q : Option Value → gS → Prop} {x0 x1 x2 : Option Value} {v : Int32} {st : List Value} {σ : gS} : wp d pr_L Q 343 [x0, x1, x2, some (.int v)] st σ ↔ wp d pr_L Q 344 [x0, x1, x2, some (.int v)] (.int v :: st) σ := w_iload (k := 3) (n := 1) rfl rfl
set_option maxRecDepth 100000 in
theorem e_L_344 {d : Nat} {Q : Option Value → gS → Prop} {x0 x1 x2 x3 : Option Value}  {st : List Value} {σ : gS} : wp d pr_L Q 344 [x0, x1, x2, x3] st σ ↔ wp d pr_L Q 345 [x0, x1, x2, x3] (.int (1) :: st) σ := w_push (n := 1) rfl
set_option maxRecDepth 100000 in
theorem e_L_345 {d : Nat} {Q : Option Value → gS → Prop} {x0 x1 x2 x3 : Option Value} {x y : Int32} {st : List Value} {σ : gS} : wp d pr_L Q 345 [x0, x1, x2, x3] (.int y :: .int x :: st) σ ↔ wp d pr_L Q 346 [x0, x1, x2, x3] (.int (x + y) :: st) σ := w_bI (f := fun x y => x + y) rfl
set_option maxRecDepth 100000 in
theorem e_L_346 {d : Nat} {Q : Option Value → gS → Prop} {x0 x1 x2 x3 : Option Value} {i : Int32} {a : Nat} {st : List Value} {σ : gS} : wp d pr_L Q 346 [x0, x1, x2, x3] (.int i :: .ref a :: st) σ ↔ ((gK σ a = 21 ∨ gK σ a = 26) ∧ ¬ i < 0 ∧ i.toNatClampNeg < gN σ a) ∧ wp d pr_L Q 347 [x0, x1, x2, x3] (.int (gI σ a i.toNatClampNeg) :: st) σ := w_iald rfl
set_option maxRecDepth 100000 in
theorem e_L_347 {d : Nat} {Q : Option Value → gS → Prop} {x1 x2 x3 : Option Value} {v : Nat} {st : List Value} {σ : gS} : wp d pr_L Q 347 [some (.ref v), x1, x2, x3] st σ ↔ wp d pr_L Q 348 [some (.ref v), x1, x2, x3] (.ref v :: st) σ := w_aload (k := 0) (n := 1) rfl rfl
set_option maxRecDepth 100000 in
theorem e_L_348 {d : Nat} {Q : Option Value → gS → Prop} {x0 x1 x2 : Option Value} {v : Int32} {st : List Value} {σ : gS} : wp d pr_L Q 348 [x0, x1, x2, some (.int v)] st σ ↔ wp d pr_L Q 349 [x0, x1, x2, some (.int v)] (.int v :: st) σ := w_iload (k := 3) (n := 1) rfl rfl
set_option maxRecDepth 100000 in
theorem e_L_349 {d : Nat} {Q : Option Value → gS → Prop} {x0 x1 x2 x3 : Option Value}  {st : List Value} {σ : gS} : wp d pr_L Q 349 [x0, x1, x2, x3] st σ ↔ wp d pr_L Q 350 [x0, x1, x2, x3] (.int (2) :: st) σ := w_push (n := 1) rfl
set_option maxRecDepth 100000 in
theorem e_L_350 {d : Nat} {Q : Option Value → gS → Prop} {x0 x1 x2 x3 : Option Value} {x y : Int32} {st : List Value} {σ : gS} : wp d pr_L Q 350 [x0, x1, x2, x3] (.int y :: .int x :: st) σ ↔ wp d pr_L Q 351 [x0, x1, x2, x3] (.int (x + y) :: st) σ := w_bI (f := fun x y => x + y) rfl
set_option maxRecDepth 100000 in
theorem e_L_351 {d : Nat} {Q : Option Value → gS → Prop} {x0 x1 x2 x3 : Option Value} {i : Int32} {a : Nat} {st : List Value} {σ : gS} : wp d pr_L Q 351 [x0, x1, x2, x3] (.int i :: .ref a :: st) σ ↔ ((gK σ a = 21 ∨ gK σ a = 26) ∧ ¬ i < 0 ∧ i.toNatClampNeg < gN σ a) ∧ wp d pr_L Q 352 [x0, x1, x2, x3] (.int (gI σ a i.toNatClampNeg) :: st) σ := w_iald rfl
set_option maxRecDepth 100000 in
theorem e_L_352 {d : Nat} {Q : Option Value → gS → Prop} {x0 x1 x2 x3 : Option Value} {v0 v1 : Value} {a : Nat}  {st : List Value} {σ : gS} : wp d pr_L Q 352 [x0, x1, x2, x3] (v1 :: v0 :: .ref a :: st) σ ↔ (gK σ a = 12 ∧ st.length ≤ 4) ∧ wc d 117 [.ref a, v0, v1] σ (fun r τ => wp d pr_L Q 355 [x0, x1, x2, x3] (r.toList ++ st) τ) := w_callV rfl (by simp) rfl rfl
set_option maxRecDepth 100000 in
theorem e_L_355 {d : Nat} {Q : Option Value → gS → Prop} {x0 x1 x3 : Option Value} {v : Nat} {st : List Value} {σ : gS} : wp d pr_L Q 355 [x0, x1, some (.ref v), x3] st σ ↔ wp d pr_L Q 356 [x0, x1, some (.ref v), x3] (.ref v :: st) σ := w_aload (k := 2) (n := 1) rfl rfl
set_option maxRecDepth 100000 in
theorem e_L_355n {d : Nat} {Q : Option Value → gS → Prop} {x0 x1 x3 : Option Value}  {st : List Value} {σ : gS} : wp d pr_L Q 355 [x0, x1, some .null, x3] st σ ↔ wp d pr_L Q 356 [x0, x1, some .null, x3] (.null :: st) σ := w_aloadN (k := 2) (n := 1) rfl rfl
set_option maxRecDepth 100000 in
theorem e_L_356 {d : Nat} {Q : Option Value → gS → Prop} {x1 x2 x3 : Option Value} {v : Nat} {st : List Value} {σ : gS} : wp d pr_L Q 356 [some (.ref v), x1, x2, x3] st σ ↔ wp d pr_L Q 357 [some (.ref v), x1, x2, x3] (.ref v :: st) σ := w_aload (k := 0) (n := 1) rfl rfl
set_option maxRecDepth 100000 in
theorem e_L_357 {d : Nat} {Q : Option Value → gS → Prop} {x0 x1 x2 : Option Value} {v : Int32} {st : List Value} {σ : gS} : wp d pr_L Q 357 [x0, x1, x2, some (.int v)] st σ ↔ wp d pr_L Q 358 [x0, x1, x2, some (.int v)] (.int v :: st) σ := w_iload (k := 3) (n := 1) rfl rfl
set_option maxRecDepth 100000 in
theorem e_L_358 {d : Nat} {Q : Option Value → gS → Prop} {x0 x1 x2 x3 : Option Value}  {st : List Value} {σ : gS} : wp d pr_L Q 358 [x0, x1, x2, x3] st σ ↔ wp d pr_L Q 359 [x0, x1, x2, x3] (.int (1) :: st) σ := w_push (n := 1) rfl
set_option maxRecDepth 100000 in
theorem e_L_359 {d : Nat} {Q : Option Value → gS → Prop} {x0 x1 x2 x3 : Option Value} {x y : Int32} {st : List Value} {σ : gS} : wp d pr_L Q 359 [x0, x1, x2, x3] (.int y :: .int x :: st) σ ↔ wp d pr_L Q 360 [x0, x1, x2, x3] (.int (x + y) :: st) σ := w_bI (f := fun x y => x + y) rfl
set_option maxRecDepth 100000 in
theorem e_L_360 {d : Nat} {Q : Option Value → gS → Prop} {x0 x1 x2 x3 : Option Value} {i : Int32} {a : Nat} {st : List Value} {σ : gS} : wp d pr_L Q 360 [x0, x1, x2, x3] (.int i :: .ref a :: st) σ ↔ ((gK σ a = 21 ∨ gK σ a = 26) ∧ ¬ i < 0 ∧ i.toNatClampNeg < gN σ a) ∧ wp d pr_L Q 361 [x0, x1, x2, x3] (.int (gI σ a i.toNatClampNeg) :: st) σ := w_iald rfl
set_option maxRecDepth 100000 in
theorem e_L_361 {d : Nat} {Q : Option Value → gS → Prop} {x1 x2 x3 : Option Value} {v : Nat} {st : List Value} {σ : gS} : wp d pr_L Q 361 [some (.ref v), x1, x2, x3] st σ ↔ wp d pr_L Q 362 [some (.ref v), x1, x2, x3] (.ref v :: st) σ := w_aload (k := 0) (n := 1) rfl rfl
set_option maxRecDepth 100000 in
theorem e_L_362 {d : Nat} {Q : Option Value → gS → Prop} {x0 x1 x2 : Option Value} {v : Int32} {st : List Value} {σ : gS} : wp d pr_L Q 362 [x0, x1, x2, some (.int v)] st σ ↔ wp d pr_L Q 363 [x0, x1, x2, some (.int v)] (.int v :: st) σ := w_iload (k := 3) (n := 1) rfl rfl
set_option maxRecDepth 100000 in
theorem e_L_363 {d : Nat} {Q : Option Value → gS → Prop} {x0 x1 x2 x3 : Option Value}  {st : List Value} {σ : gS} : wp d pr_L Q 363 [x0, x1, x2, x3] st σ ↔ wp d pr_L Q 364 [x0, x1, x2, x3] (.int (2) :: st) σ := w_push (n := 1) rfl
set_option maxRecDepth 100000 in
theorem e_L_364 {d : Nat} {Q : Option Value → gS → Prop} {x0 x1 x2 x3 : Option Value} {x y : Int32} {st : List Value} {σ : gS} : wp d pr_L Q 364 [x0, x1, x2, x3] (.int y :: .int x :: st) σ ↔ wp d pr_L Q 365 [x0, x1, x2, x3] (.int (x + y) :: st) σ := w_bI (f := fun x y => x + y) rfl
set_option maxRecDepth 100000 in
theorem e_L_365 {d : Nat} {Q : Option Value → gS → Prop} {x0 x1 x2 x3 : Option Value} {i : Int32} {a : Nat} {st : List Value} {σ : gS} : wp d pr_L Q 365 [x0, x1, x2, x3] (.int i :: .ref a :: st) σ ↔ ((gK σ a = 21 ∨ gK σ a = 26) ∧ ¬ i < 0 ∧ i.toNatClampNeg < gN σ a) ∧ wp d pr_L Q 366 [x0, x1, x2, x3] (.int (gI σ a i.toNatClampNeg) :: st) σ := w_iald rfl
set_option maxRecDepth 100000 in
theorem e_L_366 {d : Nat} {Q : Option Value → gS → Prop} {x0 x1 x2 x3 : Option Value} {v0 v1 : Value} {a : Nat}  {st : List Value} {σ : gS} : wp d pr_L Q 366 [x0, x1, x2, x3] (v1 :: v0 :: .ref a :: st) σ ↔ (gK σ a = 13 ∧ st.length ≤ 4) ∧ wc d 184 [.ref a, v0, v1] σ (fun r τ => wp d pr_L Q 369 [x0, x1, x2, x3] (r.toList ++ st) τ) := w_callV rfl (by simp) rfl rfl
set_option maxRecDepth 100000 in
theorem e_L_369 {d : Nat} {Q : Option Value → gS → Prop} {x0 x1 x2 x3 : Option Value} {x y : Int32} {st : List Value} {σ : gS} : wp d pr_L Q 369 [x0, x1, x2, x3] (.int y :: .int x :: st) σ ↔ ((x = y) → wp d pr_L Q 1495 [x0, x1, x2, x3] (st) σ) ∧ (¬ (x = y) → wp d pr_L Q 372 [x0, x1, x2, x3] (st) σ) := w_icmp rfl decide_eq_true_iff
set_option maxRecDepth 100000 in
theorem e_L_372 {d : Nat} {Q : Option Value → gS → Prop} {x0 x1 x2 x3 : Option Value}  {st : List Value} {σ : gS} : wp d pr_L Q 372 [x0, x1, x2, x3] st σ ↔ wp d pr_L Q 373 [x0, x1, x2, x3] (.int (0) :: st) σ := w_push (n := 1) rfl
set_option maxRecDepth 100000 in
theorem e_L_373 {d : Nat} {Q : Option Value → gS → Prop} {x0 x1 x2 x3 : Option Value} {v : Int32} {σ : gS} : wp d pr_L Q 373 [x0, x1, x2, x3] [.int v] σ ↔ (v = 0 ∨ v = 1) ∧ Q (some (.int v)) σ := w_zret rfl
set_option maxRecDepth 100000 in
theorem e_L_374 {d : Nat} {Q : Option Value → gS → Prop} {x0 x2 x3 : Option Value} {v : Nat} {st : List Value} {σ : gS} : wp d pr_L Q 374 [x0, some (.ref v), x2, x3] st σ ↔ wp d pr_L Q 375 [x0, some (.ref v), x2, x3] (.ref v :: st) σ := w_aload (k := 1) (n := 1) rfl rfl
set_option maxRecDepth 100000 in
theorem e_L_374n {d : Nat} {Q : Option Value → gS → Prop} {x0 x2 x3 : Option Value}  {st : List Value} {σ : gS} : wp d pr_L Q 374 [x0, some .null, x2, x3] st σ ↔ wp d pr_L Q 375 [x0, some .null, x2, x3] (.null :: st) σ := w_aloadN (k := 1) (n := 1) rfl rfl
set_option maxRecDepth 100000 in
theorem e_L_375 {d : Nat} {Q : Option Value → gS → Prop} {x1 x2 x3 : Option Value} {v : Nat} {st : List Value} {σ : gS} : wp d pr_L Q 375 [some (.ref v), x1, x2, x3] st σ ↔ wp d pr_L Q 376 [some (.ref v), x1, x2, x3] (.ref v :: st) σ := w_aload (k := 0) (n := 1) rfl rfl
set_option maxRecDepth 100000 in
theorem e_L_376 {d : Nat} {Q : Option Value → gS → Prop} {x0 x1 x2 : Option Value} {v : Int32} {st : List Value} {σ : gS} : wp d pr_L Q 376 [x0, x1, x2, some (.int v)] st σ ↔ wp d pr_L Q 377 [x0, x1, x2, some (.int v)] (.int v :: st) σ := w_iload (k := 3) (n := 1) rfl rfl
set_option maxRecDepth 100000 in
theorem e_L_377 {d : Nat} {Q : Option Value → gS → Prop} {x0 x1 x2 x3 : Option Value}  {st : List Value} {σ : gS} : wp d pr_L Q 377 [x0, x1, x2, x3] st σ ↔ wp d pr_L Q 378 [x0, x1, x2, x3] (.int (1) :: st) σ := w_push (n := 1) rfl
set_option maxRecDepth 100000 in
theorem e_L_378 {d : Nat} {Q : Option Value → gS → Prop} {x0 x1 x2 x3 : Option Value} {x y : Int32} {st : List Value} {σ : gS} : wp d pr_L Q 378 [x0, x1, x2, x3] (.int y :: .int x :: st) σ ↔ wp d pr_L Q 379 [x0, x1, x2, x3] (.int (x + y) :: st) σ := w_bI (f := fun x y => x + y) rfl
set_option maxRecDepth 100000 in
theorem e_L_379 {d : Nat} {Q : Option Value → gS → Prop} {x0 x1 x2 x3 : Option Value} {i : Int32} {a : Nat} {st : List Value} {σ : gS} : wp d pr_L Q 379 [x0, x1, x2, x3] (.int i :: .ref a :: st) σ ↔ ((gK σ a = 21 ∨ gK σ a = 26) ∧ ¬ i < 0 ∧ i.toNatClampNeg < gN σ a) ∧ wp d pr_L Q 380 [x0, x1, x2, x3] (.int (gI σ a i.toNatClampNeg) :: st) σ := w_iald rfl
set_option maxRecDepth 100000 in
theorem e_L_380 {d : Nat} {Q : Option Value → gS → Prop} {x1 x2 x3 : Option Value} {v : Nat} {st : List Value} {σ : gS} : wp d pr_L Q 380 [some (.ref v), x1, x2, x3] st σ ↔ wp d pr_L Q 381 [some (.ref v), x1, x2, x3] (.ref v :: st) σ := w_aload (k := 0) (n := 1) rfl rfl
set_option maxRecDepth 100000 in
theorem e_L_381 {d : Nat} {Q : Option Value → gS → Prop} {x0 x1 x2 : Option Value} {v : Int32} {st : List Value} {σ : gS} : wp d pr_L Q 381 [x0, x1, x2, some (.int v)] st σ ↔ wp d pr_L Q 382 [x0, x1, x2, some (.int v)] (.int v :: st) σ := w_iload (k := 3) (n := 1) rfl rfl
set_option maxRecDepth 100000 in
theorem e_L_382 {d : Nat} {Q : Option Value → gS → Prop} {x0 x1 x2 x3 : Option Value}  {st : List Value} {σ : gS} : wp d pr_L Q 382 [x0, x1, x2, x3] st σ ↔ wp d pr_L Q 383 [x0, x1, x2, x3] (.int (2) :: st) σ := w_push (n := 1) rfl
set_option maxRecDepth 100000 in
theorem e_L_383 {d : Nat} {Q : Option Value → gS → Prop} {x0 x1 x2 x3 : Option Value} {x y : Int32} {st : List Value} {σ : gS} : wp d pr_L Q 383 [x0, x1, x2, x3] (.int y :: .int x :: st) σ ↔ wp d pr_L Q 384 [x0, x1, x2, x3] (.int (x + y) :: st) σ := w_bI (f := fun x y => x + y) rfl
set_option maxRecDepth 100000 in
theorem e_L_384 {d : Nat} {Q : Option Value → gS → Prop} {x0 x1 x2 x3 : Option Value} {i : Int32} {a : Nat} {st : List Value} {σ : gS} : wp d pr_L Q 384 [x0, x1, x2, x3] (.int i :: .ref a :: st) σ ↔ ((gK σ a = 21 ∨ gK σ a = 26) ∧ ¬ i < 0 ∧ i.toNatClampNeg < gN σ a) ∧ wp d pr_L Q 385 [x0, x1, x2, x3] (.int (gI σ a i.toNatClampNeg) :: st) σ := w_iald rfl
set_option maxRecDepth 100000 in
theorem e_L_385 {d : Nat} {Q : Option Value → gS → Prop} {x0 x1 x2 x3 : Option Value} {v0 v1 : Value} {a : Nat}  {st : List Value} {σ : gS} : wp d pr_L Q 385 [x0, x1, x2, x3] (v1 :: v0 :: .ref a :: st) σ ↔ (gK σ a = 12 ∧ st.length ≤ 4) ∧ wc d 118 [.ref a, v0, v1] σ (fun r τ => wp d pr_L Q 388 [x0, x1, x2, x3] (r.toList ++ st) τ) := w_callV rfl (by simp) rfl rfl
set_option maxRecDepth 100000 in
theorem e_L_388 {d : Nat} {Q : Option Value → gS → Prop} {x0 x1 x3 : Option Value} {v : Nat} {st : List Value} {σ : gS} : wp d pr_L Q 388 [x0, x1, some (.ref v), x3] st σ ↔ wp d pr_L Q 389 [x0, x1, some (.ref v), x3] (.ref v :: st) σ := w_aload (k := 2) (n := 1) rfl rfl
set_option maxRecDepth 100000 in
theorem e_L_388n {d : Nat} {Q : Option Value → gS → Prop} {x0 x1 x3 : Option Value}  {st : List Value} {σ : gS} : wp d pr_L Q 388 [x0, x1, some .null, x3] st σ ↔ wp d pr_L Q 389 [x0, x1, some .null, x3] (.null :: st) σ := w_aloadN (k := 2) (n := 1) rfl rfl
set_option maxRecDepth 100000 in
theorem e_L_389 {d : Nat} {Q : Option Value → gS → Prop} {x1 x2 x3 : Option Value} {v : Nat} {st : List Value} {σ : gS} : wp d pr_L Q 389 [some (.ref v), x1, x2, x3] st σ ↔ wp d pr_L Q 390 [some (.ref v), x1, x2, x3] (.ref v :: st) σ := w_aload (k := 0) (n := 1) rfl rfl
set_option maxRecDepth 100000 in
theorem e_L_390 {d : Nat} {Q : Option Value → gS → Prop} {x0 x1 x2 : Option Value} {v : Int32} {st : List Value} {σ : gS} : wp d pr_L Q 390 [x0, x1, x2, some (.int v)] st σ ↔ wp d pr_L Q 391 [x0, x1, x2, some (.int v)] (.int v :: st) σ := w_iload (k := 3) (n := 1) rfl rfl
set_option maxRecDepth 100000 in
theorem e_L_391 {d : Nat} {Q : Option Value → gS → Prop} {x0 x1 x2 x3 : Option Value}  {st : List Value} {σ : gS} : wp d pr_L Q 391 [x0, x1, x2, x3] st σ ↔ wp d pr_L Q 392 [x0, x1, x2, x3] (.int (1) :: st) σ := w_push (n := 1) rfl
set_option maxRecDepth 100000 in
theorem e_L_392 {d : Nat} {Q : Option Value → gS → Prop} {x0 x1 x2 x3 : Option Value} {x y : Int32} {st : List Value} {σ : gS} : wp d pr_L Q 392 [x0, x1, x2, x3] (.int y :: .int x :: st) σ ↔ wp d pr_L Q 393 [x0, x1, x2, x3] (.int (x + y) :: st) σ := w_bI (f := fun x y => x + y) rfl
set_option maxRecDepth 100000 in
theorem e_L_393 {d : Nat} {Q : Option Value → gS → Prop} {x0 x1 x2 x3 : Option Value} {i : Int32} {a : Nat} {st : List Value} {σ : gS} : wp d pr_L Q 393 [x0, x1, x2, x3] (.int i :: .ref a :: st) σ ↔ ((gK σ a = 21 ∨ gK σ a = 26) ∧ ¬ i < 0 ∧ i.toNatClampNeg < gN σ a) ∧ wp d pr_L Q 394 [x0, x1, x2, x3] (.int (gI σ a i.toNatClampNeg) :: st) σ := w_iald rfl
set_option maxRecDepth 100000 in
theorem e_L_394 {d : Nat} {Q : Option Value → gS → Prop} {x1 x2 x3 : Option Value} {v : Nat} {st : List Value} {σ : gS} : wp d pr_L Q 394 [some (.ref v), x1, x2, x3] st σ ↔ wp d pr_L Q 395 [some (.ref v), x1, x2, x3] (.ref v :: st) σ := w_aload (k := 0) (n := 1) rfl rfl
set_option maxRecDepth 100000 in
theorem e_L_395 {d : Nat} {Q : Option Value → gS → Prop} {x0 x1 x2 : Option Value} {v : Int32} {st : List Value} {σ : gS} : wp d pr_L Q 395 [x0, x1, x2, some (.int v)] st σ ↔ wp d pr_L Q 396 [x0, x1, x2, some (.int v)] (.int v :: st) σ := w_iload (k := 3) (n := 1) rfl rfl
set_option maxRecDepth 100000 in
theorem e_L_396 {d : Nat} {Q : Option Value → gS → Prop} {x0 x1 x2 x3 : Option Value}  {st : List Value} {σ : gS} : wp d pr_L Q 396 [x0, x1, x2, x3] st σ ↔ wp d pr_L Q 397 [x0, x1, x2, x3] (.int (2) :: st) σ := w_push (n := 1) rfl
set_option maxRecDepth 100000 in
theorem e_L_397 {d : Nat} {Q : Option Value → gS → Prop} {x0 x1 x2 x3 : Option Value} {x y : Int32} {st : List Value} {σ : gS} : wp d pr_L Q 397 [x0, x1, x2, x3] (.int y :: .int x :: st) σ ↔ wp d pr_L Q 398 [x0, x1, x2, x3] (.int (x + y) :: st) σ := w_bI (f := fun x y => x + y) rfl
set_option maxRecDepth 100000 in
theorem e_L_398 {d : Nat} {Q : Option Value → gS → Prop} {x0 x1 x2 x3 : Option Value} {i : Int32} {a : Nat} {st : List Value} {σ : gS} : wp d pr_L Q 398 [x0, x1, x2, x3] (.int i :: .ref a :: st) σ ↔ ((gK σ a = 21 ∨ gK σ a = 26) ∧ ¬ i < 0 ∧ i.toNatClampNeg < gN σ a) ∧ wp d pr_L Q 399 [x0, x1, x2, x3] (.int (gI σ a i.toNatClampNeg) :: st) σ := w_iald rfl
set_option maxRecDepth 100000 in
theorem e_L_399 {d : Nat} {Q : Option Value → gS → Prop} {x0 x1 x2 x3 : Option Value} {v0 v1 : Value} {a : Nat}  {st : List Value} {σ : gS} : wp d pr_L Q 399 [x0, x1, x2, x3] (v1 :: v0 :: .ref a :: st) σ ↔ (gK σ a = 13 ∧ st.length ≤ 4) ∧ wc d 185 [.ref a, v0, v1] σ (fun r τ => wp d pr_L Q 402 [x0, x1, x2, x3] (r.toList ++ st) τ) := w_callV rfl (by simp) rfl rfl
set_option maxRecDepth 100000 in
theorem e_L_402 {d : Nat} {Q : Option Value → gS → Prop} {x0 x1 x2 x3 : Option Value} {x y : Int32} {st : List Value} {σ : gS} : wp d pr_L Q 402 [x0, x1, x2, x3] (.int y :: .int x :: st) σ ↔ ((x = y) → wp d pr_L Q 1495 [x0, x1, x2, x3] (st) σ) ∧ (¬ (x = y) → wp d pr_L Q 405 [x0, x1, x2, x3] (st) σ) := w_icmp rfl decide_eq_true_iff
set_option maxRecDepth 100000 in
theorem e_L_405 {d : Nat} {Q : Option Value → gS → Prop} {x0 x1 x2 x3 : Option Value}  {st : List Value} {σ : gS} : wp d pr_L Q 405 [x0, x1, x2, x3] st σ ↔ wp d pr_L Q 406 [x0, x1, x2, x3] (.int (0) :: st) σ := w_push (n := 1) rfl
set_option maxRecDepth 100000 in
theorem e_L_406 {d : Nat} {Q : Option Value → gS → Prop} {x0 x1 x2 x3 : Option Value} {v : Int32} {σ : gS} : wp d pr_L Q 406 [x0, x1, x2, x3] [.int v] σ ↔ (v = 0 ∨ v = 1) ∧ Q (some (.int v)) σ := w_zret rfl
set_option maxRecDepth 100000 in
theorem e_L_407 {d : Nat} {Q : Option Value → gS → Prop} {x0 x2 x3 : Option Value} {v : Nat} {st : List Value} {σ : gS} : wp d pr_L Q 407 [x0, some (.ref v), x2, x3] st σ ↔ wp d pr_L Q 408 [x0, some (.ref v), x2, x3] (.ref v :: st) σ := w_aload (k := 1) (n := 1) rfl rfl
set_option maxRecDepth 100000 in
theorem e_L_407n {d : Nat} {Q : Option Value → gS → Prop} {x0 x2 x3 : Option Value}  {st : List Value} {σ : gS} : wp d pr_L Q 407 [x0, some .null, x2, x3] st σ ↔ wp d pr_L Q 408 [x0, some .null, x2, x3] (.null :: st) σ := w_aloadN (k := 1) (n := 1) rfl rfl
set_option maxRecDepth 100000 in
theorem e_L_408 {d : Nat} {Q : Option Value → gS → Prop} {x1 x2 x3 : Option Value} {v : Nat} {st : List Value} {σ : gS} : wp d pr_L Q 408 [some (.ref v), x1, x2, x3] st σ ↔ wp d pr_L Q 409 [some (.ref v), x1, x2, x3] (.ref v :: st) σ := w_aload (k := 0) (n := 1) rfl rfl
set_option maxRecDepth 100000 in
theorem e_L_409 {d : Nat} {Q : Option Value → gS → Prop} {x0 x1 x2 : Option Value} {v : Int32} {st : List Value} {σ : gS} : wp d pr_L Q 409 [x0, x1, x2, some (.int v)] st σ ↔ wp d pr_L Q 410 [x0, x1, x2, some (.int v)] (.int v :: st) σ := w_iload (k := 3) (n := 1) rfl rfl
set_option maxRecDepth 100000 in
theorem e_L_410 {d : Nat} {Q : Option Value → gS → Prop} {x0 x1 x2 x3 : Option Value}  {st : List Value} {σ : gS} : wp d pr_L Q 410 [x0, x1, x2, x3] st σ ↔ wp d pr_L Q 411 [x0, x1, x2, x3] (.int (1) :: st) σ := w_push (n := 1) rfl
set_option maxRecDepth 100000 in
theorem e_L_411 {d : Nat} {Q : Option Value → gS → Prop} {x0 x1 x2 x3 : Option Value} {x y : Int32} {st : List Value} {σ : gS} : wp d pr_L Q 411 [x0, x1, x2, x3] (.int y :: .int x :: st) σ ↔ wp d pr_L Q 412 [x0, x1, x2, x3] (.int (x + y) :: st) σ := w_bI (f := fun x y => x + y) rfl
set_option maxRecDepth 100000 in
theorem e_L_412 {d : Nat} {Q : Option Value → gS → Prop} {x0 x1 x2 x3 : Option Value} {i : Int32} {a : Nat} {st : List Value} {σ : gS} : wp d pr_L Q 412 [x0, x1, x2, x3] (.int i :: .ref a :: st) σ ↔ ((gK σ a = 21 ∨ gK σ a = 26) ∧ ¬ i < 0 ∧ i.toNatClampNeg < gN σ a) ∧ wp d pr_L Q 413 [x0, x1, x2, x3] (.int (gI σ a i.toNatClampNeg) :: st) σ := w_iald rfl
set_option maxRecDepth 100000 in
theorem e_L_413 {d : Nat} {Q : Option Value → gS → Prop} {x1 x2 x3 : Option Value} {v : Nat} {st : List Value} {σ : gS} : wp d pr_L Q 413 [some (.ref v), x1, x2, x3] st σ ↔ wp d pr_L Q 414 [some (.ref v), x1, x2, x3] (.ref v :: st) σ := w_aload (k := 0) (n := 1) rfl rfl
set_option maxRecDepth 100000 in
theorem e_L_414 {d : Nat} {Q : Option Value → gS → Prop} {x0 x1 x2 : Option Value} {v : Int32} {st : List Value} {σ : gS} : wp d pr_L Q 414 [x0, x1, x2, some (.int v)] st σ ↔ wp d pr_L Q 415 [x0, x1, x2, some (.int v)] (.int v :: st) σ := w_iload (k := 3) (n := 1) rfl rfl
set_option maxRecDepth 100000 in
theorem e_L_415 {d : Nat} {Q : Option Value → gS → Prop} {x0 x1 x2 x3 : Option Value}  {st : List Value} {σ : gS} : wp d pr_L Q 415 [x0, x1, x2, x3] st σ ↔ wp d pr_L Q 416 [x0, x1, x2, x3] (.int (2) :: st) σ := w_push (n := 1) rfl
set_option maxRecDepth 100000 in
theorem e_L_416 {d : Nat} {Q : Option Value → gS → Prop} {x0 x1 x2 x3 : Option Value} {x y : Int32} {st : List Value} {σ : gS} : wp d pr_L Q 416 [x0, x1, x2, x3] (.int y :: .int x :: st) σ ↔ wp d pr_L Q 417 [x0, x1, x2, x3] (.int (x + y) :: st) σ := w_bI (f := fun x y => x + y) rfl
set_option maxRecDepth 100000 in
theorem e_L_417 {d : Nat} {Q : Option Value → gS → Prop} {x0 x1 x2 x3 : Option Value} {i : Int32} {a : Nat} {st : List Value} {σ : gS} : wp d pr_L Q 417 [x0, x1, x2, x3] (.int i :: .ref a :: st) σ ↔ ((gK σ a = 21 ∨ gK σ a = 26) ∧ ¬ i < 0 ∧ i.toNatClampNeg < gN σ a) ∧ wp d pr_L Q 418 [x0, x1, x2, x3] (.int (gI σ a i.toNatClampNeg) :: st) σ := w_iald rfl
set_option maxRecDepth 100000 in
theorem e_L_418 {d : Nat} {Q : Option Value → gS → Prop} {x0 x1 x2 x3 : Option Value} {v0 v1 : Value} {a : Nat}  {st : List Value} {σ : gS} : wp d pr_L Q 418 [x0, x1, x2, x3] (v1 :: v0 :: .ref a :: st) σ ↔ (gK σ a = 12 ∧ st.length ≤ 4) ∧ wc d 119 [.ref a, v0, v1] σ (fun r τ => wp d pr_L Q 421 [x0, x1, x2, x3] (r.toList ++ st) τ) := w_callV rfl (by simp) rfl rfl
set_option maxRecDepth 100000 in
theorem e_L_421 {d : Nat} {Q : Option Value → gS → Prop} {x0 x1 x3 : Option Value} {v : Nat} {st : List Value} {σ : gS} : wp d pr_L Q 421 [x0, x1, some (.ref v), x3] st σ ↔ wp d pr_L Q 422 [x0, x1, some (.ref v), x3] (.ref v :: st) σ := w_aload (k := 2) (n := 1) rfl rfl
set_option maxRecDepth 100000 in
theorem e_L_421n {d : Nat} {Q : Option Value → gS → Prop} {x0 x1 x3 : Option Value}  {st : List Value} {σ : gS} : wp d pr_L Q 421 [x0, x1, some .null, x3] st σ ↔ wp d pr_L Q 422 [x0, x1, some .null, x3] (.null :: st) σ := w_aloadN (k := 2) (n := 1) rfl rfl
set_option maxRecDepth 100000 in
theorem e_L_422 {d : Nat} {Q : Option Value → gS → Prop} {x1 x2 x3 : Option Value} {v : Nat} {st : List Value} {σ : gS} : wp d pr_L Q 422 [some (.ref v), x1, x2, x3] st σ ↔ wp d pr_L Q 423 [some (.ref v), x1, x2, x3] (.ref v :: st) σ := w_aload (k := 0) (n := 1) rfl rfl
set_option maxRecDepth 100000 in
theorem e_L_423 {d : Nat} {Q : Option Value → gS → Prop} {x0 x1 x2 : Option Value} {v : Int32} {st : List Value} {σ : gS} : wp d pr_L Q 423 [x0, x1, x2, some (.int v)] st σ ↔ wp d pr_L Q 424 [x0, x1, x2, some (.int v)] (.int v :: st) σ := w_iload (k := 3) (n := 1) rfl rfl
set_option maxRecDepth 100000 in
theorem e_L_424 {d : Nat} {Q : Option Value → gS → Prop} {x0 x1 x2 x3 : Option Value}  {st : List Value} {σ : gS} : wp d pr_L Q 424 [x0, x1, x2, x3] st σ ↔ wp d pr_L Q 425 [x0, x1, x2, x3] (.int (1) :: st) σ := w_push (n := 1) rfl
set_option maxRecDepth 100000 in
theorem e_L_425 {d : Nat} {Q : Option Value → gS → Prop} {x0 x1 x2 x3 : Option Value} {x y : Int32} {st : List Value} {σ : gS} : wp d pr_L Q 425 [x0, x1, x2, x3] (.int y :: .int x :: st) σ ↔ wp d pr_L Q 426 [x0, x1, x2, x3] (.int (x + y) :: st) σ := w_bI (f := fun x y => x + y) rfl
set_option maxRecDepth 100000 in
theorem e_L_426 {d : Nat} {Q : Option Value → gS → Prop} {x0 x1 x2 x3 : Option Value} {i : Int32} {a : Nat} {st : List Value} {σ : gS} : wp d pr_L Q 426 [x0, x1, x2, x3] (.int i :: .ref a :: st) σ ↔ ((gK σ a = 21 ∨ gK σ a = 26) ∧ ¬ i < 0 ∧ i.toNatClampNeg < gN σ a) ∧ wp d pr_L Q 427 [x0, x1, x2, x3] (.int (gI σ a i.toNatClampNeg) :: st) σ := w_iald rfl
set_option maxRecDepth 100000 in
theorem e_L_427 {d : Nat} {Q : Option Value → gS → Prop} {x1 x2 x3 : Option Value} {v : Nat} {st : List Value} {σ : gS} : wp d pr_L Q 427 [some (.ref v), x1, x2, x3] st σ ↔ wp d pr_L Q 428 [some (.ref v), x1, x2, x3] (.ref v :: st) σ := w_aload (k := 0) (n := 1) rfl rfl
set_option maxRecDepth 100000 in
theorem e_L_428 {d : Nat} {Q : Option Value → gS → Prop} {x0 x1 x2 : Option Value} {v : Int32} {st : List Value} {σ : gS} : wp d pr_L Q 428 [x0, x1, x2, some (.int v)] st σ ↔ wp d pr_L Q 429 [x0, x1, x2, some (.int v)] (.int v :: st) σ := w_iload (k := 3) (n := 1) rfl rfl
set_option maxRecDepth 100000 in
theorem e_L_429 {d : Nat} {Q : Option Value → gS → Prop} {x0 x1 x2 x3 : Option Value}  {st : List Value} {σ : gS} : wp d pr_L Q 429 [x0, x1, x2, x3] st σ ↔ wp d pr_L Q 430 [x0, x1, x2, x3] (.int (2) :: st) σ := w_push (n := 1) rfl
set_option maxRecDepth 100000 in
theorem e_L_430 {d : Nat} {Q : Option Value → gS → Prop} {x0 x1 x2 x3 : Option Value} {x y : Int32} {st : List Value} {σ : gS} : wp d pr_L Q 430 [x0, x1, x2, x3] (.int y :: .int x :: st) σ ↔ wp d pr_L Q 431 [x0, x1, x2, x3] (.int (x + y) :: st) σ := w_bI (f := fun x y => x + y) rfl
set_option maxRecDepth 100000 in
theorem e_L_431 {d : Nat} {Q : Option Value → gS → Prop} {x0 x1 x2 x3 : Option Value} {i : Int32} {a : Nat} {st : List Value} {σ : gS} : wp d pr_L Q 431 [x0, x1, x2, x3] (.int i :: .ref a :: st) σ ↔ ((gK σ a = 21 ∨ gK σ a = 26) ∧ ¬ i < 0 ∧ i.toNatClampNeg < gN σ a) ∧ wp d pr_L Q 432 [x0, x1, x2, x3] (.int (gI σ a i.toNatClampNeg) :: st) σ := w_iald rfl
set_option maxRecDepth 100000 in
theorem e_L_432 {d : Nat} {Q : Option Value → gS → Prop} {x0 x1 x2 x3 : Option Value} {v0 v1 : Value} {a : Nat}  {st : List Value} {σ : gS} : wp d pr_L Q 432 [x0, x1, x2, x3] (v1 :: v0 :: .ref a :: st) σ ↔ (gK σ a = 13 ∧ st.length ≤ 4) ∧ wc d 186 [.ref a, v0, v1] σ (fun r τ => wp d pr_L Q 435 [x0, x1, x2, x3] (r.toList ++ st) τ) := w_callV rfl (by simp) rfl rfl
set_option maxRecDepth 100000 in
theorem e_L_435 {d : Nat} {Q : Option Value → gS → Prop} {x0 x1 x2 x3 : Option Value} {x y : Int32} {st : List Value} {σ : gS} : wp d pr_L Q 435 [x0, x1, x2, x3] (.int y :: .int x :: st) σ ↔ ((x = y) → wp d pr_L Q 1495 [x0, x1, x2, x3] (st) σ) ∧ (¬ (x = y) → wp d pr_L Q 438 [x0, x1, x2, x3] (st) σ) := w_icmp rfl decide_eq_true_iff
set_option maxRecDepth 100000 in
theorem e_L_438 {d : Nat} {Q : Option Value → gS → Prop} {x0 x1 x2 x3 : Option Value}  {st : List Value} {σ : gS} : wp d pr_L Q 438 [x0, x1, x2, x3] st σ ↔ wp d pr_L Q 439 [x0, x1, x2, x3] (.int (0) :: st) σ := w_push (n := 1) rfl
set_option maxRecDepth 100000 in
theorem e_L_439 {d : Nat} {Q : Option Value → gS → Prop} {x0 x1 x2 x3 : Option Value} {v : Int32} {σ : gS} : wp d pr_L Q 439 [x0, x1, x2, x3] [.int v] σ ↔ (v = 0 ∨ v = 1) ∧ Q (some (.int v)) σ := w_zret rfl
set_option maxRecDepth 100000 in
theorem e_L_440 {d : Nat} {Q : Option Value → gS → Prop} {x0 x2 x3 : Option Value} {v : Nat} {st : List Value} {σ : gS} : wp d pr_L Q 440 [x0, some (.ref v), x2, x3] st σ ↔ wp d pr_L Q 441 [x0, some (.ref v), x2, x3] (.ref v :: st) σ := w_aload (k := 1) (n := 1) rfl rfl
set_option maxRecDepth 100000 in
theorem e_L_440n {d : Nat} {Q : Option Value → gS → Prop} {x0 x2 x3 : Option Value}  {st : List Value} {σ : gS} : wp d pr_L Q 440 [x0, some .null, x2, x3] st σ ↔ wp d pr_L Q 441 [x0, some .null, x2, x3] (.null :: st) σ := w_aloadN (k := 1) (n := 1) rfl rfl
set_option maxRecDepth 100000 in
theorem e_L_441 {d : Nat} {Q : Option Value → gS → Prop} {x1 x2 x3 : Option Value} {v : Nat} {st : List Value} {σ : gS} : wp d pr_L Q 441 [some (.ref v), x1, x2, x3] st σ ↔ wp d pr_L Q 442 [some (.ref v), x1, x2, x3] (.ref v :: st) σ := w_aload (k := 0) (n := 1) rfl rfl
set_option maxRecDepth 100000 in
theorem e_L_442 {d : Nat} {Q : Option Value → gS → Prop} {x0 x1 x2 : Option Value} {v : Int32} {st : List Value} {σ : gS} : wp d pr_L Q 442 [x0, x1, x2, some (.int v)] st σ ↔ wp d pr_L Q 443 [x0, x1, x2, some (.int v)] (.int v :: st) σ := w_iload (k := 3) (n := 1) rfl rfl
set_option maxRecDepth 100000 in
theorem e_L_443 {d : Nat} {Q : Option Value → gS → Prop} {x0 x1 x2 x3 : Option Value}  {st : List Value} {σ : gS} : wp d pr_L Q 443 [x0, x1, x2, x3] st σ ↔ wp d pr_L Q 444 [x0, x1, x2, x3] (.int (1) :: st) σ := w_push (n := 1) rfl
set_option maxRecDepth 100000 in
theorem e_L_444 {d : Nat} {Q : Option Value → gS → Prop} {x0 x1 x2 x3 : Option Value} {x y : Int32} {st : List Value} {σ : gS} : wp d pr_L Q 444 [x0, x1, x2, x3] (.int y :: .int x :: st) σ ↔ wp d pr_L Q 445 [x0, x1, x2, x3] (.int (x + y) :: st) σ := w_bI (f := fun x y => x + y) rfl
set_option maxRecDepth 100000 in
theorem e_L_445 {d : Nat} {Q : Option Value → gS → Prop} {x0 x1 x2 x3 : Option Value} {i : Int32} {a : Nat} {st : List Value} {σ : gS} : wp d pr_L Q 445 [x0, x1, x2, x3] (.int i :: .ref a :: st) σ ↔ ((gK σ a = 21 ∨ gK σ a = 26) ∧ ¬ i < 0 ∧ i.toNatClampNeg < gN σ a) ∧ wp d pr_L Q 446 [x0, x1, x2, x3] (.int (gI σ a i.toNatClampNeg) :: st) σ := w_iald rfl
set_option maxRecDepth 100000 in
theorem e_L_446 {d : Nat} {Q : Option Value → gS → Prop} {x1 x2 x3 : Option Value} {v : Nat} {st : List Value} {σ : gS} : wp d pr_L Q 446 [some (.ref v), x1, x2, x3] st σ ↔ wp d pr_L Q 447 [some (.ref v), x1, x2, x3] (.ref v :: st) σ := w_aload (k := 0) (n := 1) rfl rfl
set_option maxRecDepth 100000 in
theorem e_L_447 {d : Nat} {Q : Option Value → gS → Prop} {x0 x1 x2 : Option Value} {v : Int32} {st : List Value} {σ : gS} : wp d pr_L Q 447 [x0, x1, x2, some (.int v)] st σ ↔ wp d pr_L Q 448 [x0, x1, x2, some (.int v)] (.int v :: st) σ := w_iload (k := 3) (n := 1) rfl rfl
set_option maxRecDepth 100000 in
theorem e_L_448 {d : Nat} {Q : Option Value → gS → Prop} {x0 x1 x2 x3 : Option Value}  {st : List Value} {σ : gS} : wp d pr_L Q 448 [x0, x1, x2, x3] st σ ↔ wp d pr_L Q 449 [x0, x1, x2, x3] (.int (2) :: st) σ := w_push (n := 1) rfl
set_option maxRecDepth 100000 in
theorem e_L_449 {d : Nat} {Q : Option Value → gS → Prop} {x0 x1 x2 x3 : Option Value} {x y : Int32} {st : List Value} {σ : gS} : wp d pr_L Q 449 [x0, x1, x2, x3] (.int y :: .int x :: st) σ ↔ wp d pr_L Q 450 [x0, x1, x2, x3] (.int (x + y) :: st) σ := w_bI (f := fun x y => x + y) rfl
set_option maxRecDepth 100000 in
theorem e_L_450 {d : Nat} {Q : Option Value → gS → Prop} {x0 x1 x2 x3 : Option Value} {i : Int32} {a : Nat} {st : List Value} {σ : gS} : wp d pr_L Q 450 [x0, x1, x2, x3] (.int i :: .ref a :: st) σ ↔ ((gK σ a = 21 ∨ gK σ a = 26) ∧ ¬ i < 0 ∧ i.toNatClampNeg < gN σ a) ∧ wp d pr_L Q 451 [x0, x1, x2, x3] (.int (gI σ a i.toNatClampNeg) :: st) σ := w_iald rfl
set_option maxRecDepth 100000 in
theorem e_L_451 {d : Nat} {Q : Option Value → gS → Prop} {x0 x1 x2 x3 : Option Value} {v0 v1 : Value} {a : Nat}  {st : List Value} {σ : gS} : wp d pr_L Q 451 [x0, x1, x2, x3] (v1 :: v0 :: .ref a :: st) σ ↔ (gK σ a = 12 ∧ st.length ≤ 4) ∧ wc d 120 [.ref a, v0, v1] σ (fun r τ => wp d pr_L Q 454 [x0, x1, x2, x3] (r.toList ++ st) τ) := w_callV rfl (by simp) rfl rfl
set_option maxRecDepth 100000 in
theorem e_L_454 {d : Nat} {Q : Option Value → gS → Prop} {x0 x1 x3 : Option Value} {v : Nat} {st : List Value} {σ : gS} : wp d pr_L Q 454 [x0, x1, some (.ref v), x3] st σ ↔ wp d pr_L Q 455 [x0, x1, some (.ref v), x3] (.ref v :: st) σ := w_aload (k := 2) (n := 1) rfl rfl
set_option maxRecDepth 100000 in
theorem e_L_454n {d : Nat} {Q : Option Value → gS → Prop} {x0 x1 x3 : Option Value}  {st : List Value} {σ : gS} : wp d pr_L Q 454 [x0, x1, some .null, x3] st σ ↔ wp d pr_L Q 455 [x0, x1, some .null, x3] (.null :: st) σ := w_aloadN (k := 2) (n := 1) rfl rfl
set_option maxRecDepth 100000 in
theorem e_L_455 {d : Nat} {Q : Option Value → gS → Prop} {x1 x2 x3 : Option Value} {v : Nat} {st : List Value} {σ : gS} : wp d pr_L Q 455 [some (.ref v), x1, x2, x3] st σ ↔ wp d pr_L Q 456 [some (.ref v), x1, x2, x3] (.ref v :: st) σ := w_aload (k := 0) (n := 1) rfl rfl
set_option maxRecDepth 100000 in
theorem e_L_456 {d : Nat} {Q : Option Value → gS → Prop} {x0 x1 x2 : Option Value} {v : Int32} {st : List Value} {σ : gS} : wp d pr_L Q 456 [x0, x1, x2, some (.int v)] st σ ↔ wp d pr_L Q 457 [x0, x1, x2, some (.int v)] (.int v :: st) σ := w_iload (k := 3) (n := 1) rfl rfl
set_option maxRecDepth 100000 in
theorem e_L_457 {d : Nat} {Q : Option Value → gS → Prop} {x0 x1 x2 x3 : Option Value}  {st : List Value} {σ : gS} : wp d pr_L Q 457 [x0, x1, x2, x3] st σ ↔ wp d pr_L Q 458 [x0, x1, x2, x3] (.int (1) :: st) σ := w_push (n := 1) rfl
set_option maxRecDepth 100000 in
theorem e_L_458 {d : Nat} {Q : Option Value → gS → Prop} {x0 x1 x2 x3 : Option Value} {x y : Int32} {st : List Value} {σ : gS} : wp d pr_L Q 458 [x0, x1, x2, x3] (.int y :: .int x :: st) σ ↔ wp d pr_L Q 459 [x0, x1, x2, x3] (.int (x + y) :: st) σ := w_bI (f := fun x y => x + y) rfl
set_option maxRecDepth 100000 in
theorem e_L_459 {d : Nat} {Q : Option Value → gS → Prop} {x0 x1 x2 x3 : Option Value} {i : Int32} {a : Nat} {st : List Value} {σ : gS} : wp d pr_L Q 459 [x0, x1, x2, x3] (.int i :: .ref a :: st) σ ↔ ((gK σ a = 21 ∨ gK σ a = 26) ∧ ¬ i < 0 ∧ i.toNatClampNeg < gN σ a) ∧ wp d pr_L Q 460 [x0, x1, x2, x3] (.int (gI σ a i.toNatClampNeg) :: st) σ := w_iald rfl
set_option maxRecDepth 100000 in
theorem e_L_460 {d : Nat} {Q : Option Value → gS → Prop} {x1 x2 x3 : Option Value} {v : Nat} {st : List Value} {σ : gS} : wp d pr_L Q 460 [some (.ref v), x1, x2, x3] st σ ↔ wp d pr_L Q 461 [some (.ref v), x1, x2, x3] (.ref v :: st) σ := w_aload (k := 0) (n := 1) rfl rfl
set_option maxRecDepth 100000 in
theorem e_L_461 {d : Nat} {Q : Option Value → gS → Prop} {x0 x1 x2 : Option Value} {v : Int32} {st : List Value} {σ : gS} : wp d pr_L Q 461 [x0, x1, x2, some (.int v)] st σ ↔ wp d pr_L Q 462 [x0, x1, x2, some (.int v)] (.int v :: st) σ := w_iload (k := 3) (n := 1) rfl rfl
set_option maxRecDepth 100000 in
theorem e_L_462 {d : Nat} {Q : Option Value → gS → Prop} {x0 x1 x2 x3 : Option Value}  {st : List Value} {σ : gS} : wp d pr_L Q 462 [x0, x1, x2, x3] st σ ↔ wp d pr_L Q 463 [x0, x1, x2, x3] (.int (2) :: st) σ := w_push (n := 1) rfl
set_option maxRecDepth 100000 in
theorem e_L_463 {d : Nat} {Q : Option Value → gS → Prop} {x0 x1 x2 x3 : Option Value} {x y : Int32} {st : List Value} {σ : gS} : wp d pr_L Q 463 [x0, x1, x2, x3] (.int y :: .int x :: st) σ ↔ wp d pr_L Q 464 [x0, x1, x2, x3] (.int (x + y) :: st) σ := w_bI (f := fun x y => x + y) rfl
set_option maxRecDepth 100000 in
theorem e_L_464 {d : Nat} {Q : Option Value → gS → Prop} {x0 x1 x2 x3 : Option Value} {i : Int32} {a : Nat} {st : List Value} {σ : gS} : wp d pr_L Q 464 [x0, x1, x2, x3] (.int i :: .ref a :: st) σ ↔ ((gK σ a = 21 ∨ gK σ a = 26) ∧ ¬ i < 0 ∧ i.toNatClampNeg < gN σ a) ∧ wp d pr_L Q 465 [x0, x1, x2, x3] (.int (gI σ a i.toNatClampNeg) :: st) σ := w_iald rfl
set_option maxRecDepth 100000 in
theorem e_L_465 {d : Nat} {Q : Option Value → gS → Prop} {x0 x1 x2 x3 : Option Value} {v0 v1 : Value} {a : Nat}  {st : List Value} {σ : gS} : wp d pr_L Q 465 [x0, x1, x2, x3] (v1 :: v0 :: .ref a :: st) σ ↔ (gK σ a = 13 ∧ st.length ≤ 4) ∧ wc d 190 [.ref a, v0, v1] σ (fun r τ => wp d pr_L Q 468 [x0, x1, x2, x3] (r.toList ++ st) τ) := w_callV rfl (by simp) rfl rfl
set_option maxRecDepth 100000 in
theorem e_L_468 {d : Nat} {Q : Option Value → gS → Prop} {x0 x1 x2 x3 : Option Value} {x y : Int32} {st : List Value} {σ : gS} : wp d pr_L Q 468 [x0, x1, x2, x3] (.int y :: .int x :: st) σ ↔ ((x = y) → wp d pr_L Q 1495 [x0, x1, x2, x3] (st) σ) ∧ (¬ (x = y) → wp d pr_L Q 471 [x0, x1, x2, x3] (st) σ) := w_icmp rfl decide_eq_true_iff
set_option maxRecDepth 100000 in
theorem e_L_471 {d : Nat} {Q : Option Value → gS → Prop} {x0 x1 x2 x3 : Option Value}  {st : List Value} {σ : gS} : wp d pr_L Q 471 [x0, x1, x2, x3] st σ ↔ wp d pr_L Q 472 [x0, x1, x2, x3] (.int (0) :: st) σ := w_push (n := 1) rfl
set_option maxRecDepth 100000 in
theorem e_L_472 {d : Nat} {Q : Option Value → gS → Prop} {x0 x1 x2 x3 : Option Value} {v : Int32} {σ : gS} : wp d pr_L Q 472 [x0, x1, x2, x3] [.int v] σ ↔ (v = 0 ∨ v = 1) ∧ Q (some (.int v)) σ := w_zret rfl
set_option maxRecDepth 100000 in
theorem e_L_473 {d : Nat} {Q : Option Value → gS → Prop} {x0 x2 x3 : Option Value} {v : Nat} {st : List Value} {σ : gS} : wp d pr_L Q 473 [x0, some (.ref v), x2, x3] st σ ↔ wp d pr_L Q 474 [x0, some (.ref v), x2, x3] (.ref v :: st) σ := w_aload (k := 1) (n := 1) rfl rfl
set_option maxRecDepth 100000 in
theorem e_L_473n {d : Nat} {Q : Option Value → gS → Prop} {x0 x2 x3 : Option Value}  {st : List Value} {σ : gS} : wp d pr_L Q 473 [x0, some .null, x2, x3] st σ ↔ wp d pr_L Q 474 [x0, some .null, x2, x3] (.null :: st) σ := w_aloadN (k := 1) (n := 1) rfl rfl
set_option maxRecDepth 100000 in
theorem e_L_474 {d : Nat} {Q : Option Value → gS → Prop} {x1 x2 x3 : Option Value} {v : Nat} {st : List Value} {σ : gS} : wp d pr_L Q 474 [some (.ref v), x1, x2, x3] st σ ↔ wp d pr_L Q 475 [some (.ref v), x1, x2, x3] (.ref v :: st) σ := w_aload (k := 0) (n := 1) rfl rfl
set_option maxRecDepth 100000 in
theorem e_L_475 {d : Nat} {Q : Option Value → gS → Prop} {x0 x1 x2 : Option Value} {v : Int32} {st : List Value} {σ : gS} : wp d pr_L Q 475 [x0, x1, x2, some (.int v)] st σ ↔ wp d pr_L Q 476 [x0, x1, x2, some (.int v)] (.int v :: st) σ := w_iload (k := 3) (n := 1) rfl rfl
set_option maxRecDepth 100000 in
theorem e_L_476 {d : Nat} {Q : Option Value → gS → Prop} {x0 x1 x2 x3 : Option Value}  {st : List Value} {σ : gS} : wp d pr_L Q 476 [x0, x1, x2, x3] st σ ↔ wp d pr_L Q 477 [x0, x1, x2, x3] (.int (1) :: st) σ := w_push (n := 1) rfl
set_option maxRecDepth 100000 in
theorem e_L_477 {d : Nat} {Q : Option Value → gS → Prop} {x0 x1 x2 x3 : Option Value} {x y : Int32} {st : List Value} {σ : gS} : wp d pr_L Q 477 [x0, x1, x2, x3] (.int y :: .int x :: st) σ ↔ wp d pr_L Q 478 [x0, x1, x2, x3] (.int (x + y) :: st) σ := w_bI (f := fun x y => x + y) rfl
set_option maxRecDepth 100000 in
theorem e_L_478 {d : Nat} {Q : Option Value → gS → Prop} {x0 x1 x2 x3 : Option Value} {i : Int32} {a : Nat} {st : List Value} {σ : gS} : wp d pr_L Q 478 [x0, x1, x2, x3] (.int i :: .ref a :: st) σ ↔ ((gK σ a = 21 ∨ gK σ a = 26) ∧ ¬ i < 0 ∧ i.toNatClampNeg < gN σ a) ∧ wp d pr_L Q 479 [x0, x1, x2, x3] (.int (gI σ a i.toNatClampNeg) :: st) σ := w_iald rfl
set_option maxRecDepth 100000 in
theorem e_L_479 {d : Nat} {Q : Option Value → gS → Prop} {x1 x2 x3 : Option Value} {v : Nat} {st : List Value} {σ : gS} : wp d pr_L Q 479 [some (.ref v), x1, x2, x3] st σ ↔ wp d pr_L Q 480 [some (.ref v), x1, x2, x3] (.ref v :: st) σ := w_aload (k := 0) (n := 1) rfl rfl
set_option maxRecDepth 100000 in
theorem e_L_480 {d : Nat} {Q : Option Value → gS → Prop} {x0 x1 x2 : Option Value} {v : Int32} {st : List Value} {σ : gS} : wp d pr_L Q 480 [x0, x1, x2, some (.int v)] st σ ↔ wp d pr_L Q 481 [x0, x1, x2, some (.int v)] (.int v :: st) σ := w_iload (k := 3) (n := 1) rfl rfl
set_option maxRecDepth 100000 in
theorem e_L_481 {d : Nat} {Q : Option Value → gS → Prop} {x0 x1 x2 x3 : Option Value}  {st : List Value} {σ : gS} : wp d pr_L Q 481 [x0, x1, x2, x3] st σ ↔ wp d pr_L Q 482 [x0, x1, x2, x3] (.int (2) :: st) σ := w_push (n := 1) rfl
set_option maxRecDepth 100000 in
theorem e_L_482 {d : Nat} {Q : Option Value → gS → Prop} {x0 x1 x2 x3 : Option Value} {x y : Int32} {st : List Value} {σ : gS} : wp d pr_L Q 482 [x0, x1, x2, x3] (.int y :: .int x :: st) σ ↔ wp d pr_L Q 483 [x0, x1, x2, x3] (.int (x + y) :: st) σ := w_bI (f := fun x y => x + y) rfl
set_option maxRecDepth 100000 in
theorem e_L_483 {d : Nat} {Q : Option Value → gS → Prop} {x0 x1 x2 x3 : Option Value} {i : Int32} {a : Nat} {st : List Value} {σ : gS} : wp d pr_L Q 483 [x0, x1, x2, x3] (.int i :: .ref a :: st) σ ↔ ((gK σ a = 21 ∨ gK σ a = 26) ∧ ¬ i < 0 ∧ i.toNatClampNeg < gN σ a) ∧ wp d pr_L Q 484 [x0, x1, x2, x3] (.int (gI σ a i.toNatClampNeg) :: st) σ := w_iald rfl
set_option maxRecDepth 100000 in
theorem e_L_484 {d : Nat} {Q : Option Value → gS → Prop} {x0 x1 x2 x3 : Option Value} {v0 v1 : Value} {a : Nat}  {st : List Value} {σ : gS} : wp d pr_L Q 484 [x0, x1, x2, x3] (v1 :: v0 :: .ref a :: st) σ ↔ (gK σ a = 12 ∧ st.length ≤ 4) ∧ wc d 121 [.ref a, v0, v1] σ (fun r τ => wp d pr_L Q 487 [x0, x1, x2, x3] (r.toList ++ st) τ) := w_callV rfl (by simp) rfl rfl
set_option maxRecDepth 100000 in
theorem e_L_487 {d : Nat} {Q : Option Value → gS → Prop} {x0 x1 x3 : Option Value} {v : Nat} {st : List Value} {σ : gS} : wp d pr_L Q 487 [x0, x1, some (.ref v), x3] st σ ↔ wp d pr_L Q 488 [x0, x1, some (.ref v), x3] (.ref v :: st) σ := w_aload (k := 2) (n := 1) rfl rfl
set_option maxRecDepth 100000 in
theorem e_L_487n {d : Nat} {Q : Option Value → gS → Prop} {x0 x1 x3 : Option Value}  {st : List Value} {σ : gS} : wp d pr_L Q 487 [x0, x1, some .null, x3] st σ ↔ wp d pr_L Q 488 [x0, x1, some .null, x3] (.null :: st) σ := w_aloadN (k := 2) (n := 1) rfl rfl
set_option maxRecDepth 100000 in
theorem e_L_488 {d : Nat} {Q : Option Value → gS → Prop} {x1 x2 x3 : Option Value} {v : Nat} {st : List Value} {σ : gS} : wp d pr_L Q 488 [some (.ref v), x1, x2, x3] st σ ↔ wp d pr_L Q 489 [some (.ref v), x1, x2, x3] (.ref v :: st) σ := w_aload (k := 0) (n := 1) rfl rfl
set_option maxRecDepth 100000 in
theorem e_L_489 {d : Nat} {Q : Option Value → gS → Prop} {x0 x1 x2 : Option Value} {v : Int32} {st : List Value} {σ : gS} : wp d pr_L Q 489 [x0, x1, x2, some (.int v)] st σ ↔ wp d pr_L Q 490 [x0, x1, x2, some (.int v)] (.int v :: st) σ := w_iload (k := 3) (n := 1) rfl rfl
set_option maxRecDepth 100000 in
theorem e_L_490 {d : Nat} {Q : Option Value → gS → Prop} {x0 x1 x2 x3 : Option Value}  {st : List Value} {σ : gS} : wp d pr_L Q 490 [x0, x1, x2, x3] st σ ↔ wp d pr_L Q 491 [x0, x1, x2, x3] (.int (1) :: st) σ := w_push (n := 1) rfl
set_option maxRecDepth 100000 in
theorem e_L_491 {d : Nat} {Q : Option Value → gS → Prop} {x0 x1 x2 x3 : Option Value} {x y : Int32} {st : List Value} {σ : gS} : wp d pr_L Q 491 [x0, x1, x2, x3] (.int y :: .int x :: st) σ ↔ wp d pr_L Q 492 [x0, x1, x2, x3] (.int (x + y) :: st) σ := w_bI (f := fun x y => x + y) rfl
set_option maxRecDepth 100000 in
theorem e_L_492 {d : Nat} {Q : Option Value → gS → Prop} {x0 x1 x2 x3 : Option Value} {i : Int32} {a : Nat} {st : List Value} {σ : gS} : wp d pr_L Q 492 [x0, x1, x2, x3] (.int i :: .ref a :: st) σ ↔ ((gK σ a = 21 ∨ gK σ a = 26) ∧ ¬ i < 0 ∧ i.toNatClampNeg < gN σ a) ∧ wp d pr_L Q 493 [x0, x1, x2, x3] (.int (gI σ a i.toNatClampNeg) :: st) σ := w_iald rfl
set_option maxRecDepth 100000 in
theorem e_L_493 {d : Nat} {Q : Option Value → gS → Prop} {x1 x2 x3 : Option Value} {v : Nat} {st : List Value} {σ : gS} : wp d pr_L Q 493 [some (.ref v), x1, x2, x3] st σ ↔ wp d pr_L Q 494 [some (.ref v), x1, x2, x3] (.ref v :: st) σ := w_aload (k := 0) (n := 1) rfl rfl
set_option maxRecDepth 100000 in
theorem e_L_494 {d : Nat} {Q : Option Value → gS → Prop} {x0 x1 x2 : Option Value} {v : Int32} {st : List Value} {σ : gS} : wp d pr_L Q 494 [x0, x1, x2, some (.int v)] st σ ↔ wp d pr_L Q 495 [x0, x1, x2, some (.int v)] (.int v :: st) σ := w_iload (k := 3) (n := 1) rfl rfl
set_option maxRecDepth 100000 in
theorem e_L_495 {d : Nat} {Q : Option Value → gS → Prop} {x0 x1 x2 x3 : Option Value}  {st : List Value} {σ : gS} : wp d pr_L Q 495 [x0, x1, x2, x3] st σ ↔ wp d pr_L Q 496 [x0, x1, x2, x3] (.int (2) :: st) σ := w_push (n := 1) rfl
set_option maxRecDepth 100000 in
theorem e_L_496 {d : Nat} {Q : Option Value → gS → Prop} {x0 x1 x2 x3 : Option Value} {x y : Int32} {st : List Value} {σ : gS} : wp d pr_L Q 496 [x0, x1, x2, x3] (.int y :: .int x :: st) σ ↔ wp d pr_L Q 497 [x0, x1, x2, x3] (.int (x + y) :: st) σ := w_bI (f := fun x y => x + y) rfl
set_option maxRecDepth 100000 in
theorem e_L_497 {d : Nat} {Q : Option Value → gS → Prop} {x0 x1 x2 x3 : Option Value} {i : Int32} {a : Nat} {st : List Value} {σ : gS} : wp d pr_L Q 497 [x0, x1, x2, x3] (.int i :: .ref a :: st) σ ↔ ((gK σ a = 21 ∨ gK σ a = 26) ∧ ¬ i < 0 ∧ i.toNatClampNeg < gN σ a) ∧ wp d pr_L Q 498 [x0, x1, x2, x3] (.int (gI σ a i.toNatClampNeg) :: st) σ := w_iald rfl
set_option maxRecDepth 100000 in
theorem e_L_498 {d : Nat} {Q : Option Value → gS → Prop} {x0 x1 x2 x3 : Option Value} {v0 v1 : Value} {a : Nat}  {st : List Value} {σ : gS} : wp d pr_L Q 498 [x0, x1, x2, x3] (v1 :: v0 :: .ref a :: st) σ ↔ (gK σ a = 13 ∧ st.length ≤ 4) ∧ wc d 191 [.ref a, v0, v1] σ (fun r τ => wp d pr_L Q 501 [x0, x1, x2, x3] (r.toList ++ st) τ) := w_callV rfl (by simp) rfl rfl
set_option maxRecDepth 100000 in
theorem e_L_501 {d : Nat} {Q : Option Value → gS → Prop} {x0 x1 x2 x3 : Option Value} {x y : Int32} {st : List Value} {σ : gS} : wp d pr_L Q 501 [x0, x1, x2, x3] (.int y :: .int x :: st) σ ↔ ((x = y) → wp d pr_L Q 1495 [x0, x1, x2, x3] (st) σ) ∧ (¬ (x = y) → wp d pr_L Q 504 [x0, x1, x2, x3] (st) σ) := w_icmp rfl decide_eq_true_iff
set_option maxRecDepth 100000 in
theorem e_L_504 {d : Nat} {Q : Option Value → gS → Prop} {x0 x1 x2 x3 : Option Value}  {st : List Value} {σ : gS} : wp d pr_L Q 504 [x0, x1, x2, x3] st σ ↔ wp d pr_L Q 505 [x0, x1, x2, x3] (.int (0) :: st) σ := w_push (n := 1) rfl
set_option maxRecDepth 100000 in
theorem e_L_505 {d : Nat} {Q : Option Value → gS → Prop} {x0 x1 x2 x3 : Option Value} {v : Int32} {σ : gS} : wp d pr_L Q 505 [x0, x1, x2, x3] [.int v] σ ↔ (v = 0 ∨ v = 1) ∧ Q (some (.int v)) σ := w_zret rfl
set_option maxRecDepth 100000 in
theorem e_L_506 {d : Nat} {Q : Option Value → gS → Prop} {x0 x2 x3 : Option Value} {v : Nat} {st : List Value} {σ : gS} : wp d pr_L Q 506 [x0, some (.ref v), x2, x3] st σ ↔ wp d pr_L Q 507 [x0, some (.ref v), x2, x3] (.ref v :: st) σ := w_aload (k := 1) (n := 1) rfl rfl
set_option maxRecDepth 100000 in
theorem e_L_506n {d : Nat} {Q : Option Value → gS → Prop} {x0 x2 x3 : Option Value}  {st : List Value} {σ : gS} : wp d pr_L Q 506 [x0, some .null, x2, x3] st σ ↔ wp d pr_L Q 507 [x0, some .null, x2, x3] (.null :: st) σ := w_aloadN (k := 1) (n := 1) rfl rfl
set_option maxRecDepth 100000 in
theorem e_L_507 {d : Nat} {Q : Option Value → gS → Prop} {x1 x2 x3 : Option Value} {v : Nat} {st : List Value} {σ : gS} : wp d pr_L Q 507 [some (.ref v), x1, x2, x3] st σ ↔ wp d pr_L Q 508 [some (.ref v), x1, x2, x3] (.ref v :: st) σ := w_aload (k := 0) (n := 1) rfl rfl
set_option maxRecDepth 100000 in
theorem e_L_508 {d : Nat} {Q : Option Value → gS → Prop} {x0 x1 x2 : Option Value} {v : Int32} {st : List Value} {σ : gS} : wp d pr_L Q 508 [x0, x1, x2, some (.int v)] st σ ↔ wp d pr_L Q 509 [x0, x1, x2, some (.int v)] (.int v :: st) σ := w_iload (k := 3) (n := 1) rfl rfl
set_option maxRecDepth 100000 in
theorem e_L_509 {d : Nat} {Q : Option Value → gS → Prop} {x0 x1 x2 x3 : Option Value}  {st : List Value} {σ : gS} : wp d pr_L Q 509 [x0, x1, x2, x3] st σ ↔ wp d pr_L Q 510 [x0, x1, x2, x3] (.int (1) :: st) σ := w_push (n := 1) rfl
set_option maxRecDepth 100000 in
theorem e_L_510 {d : Nat} {Q : Option Value → gS → Prop} {x0 x1 x2 x3 : Option Value} {x y : Int32} {st : List Value} {σ : gS} : wp d pr_L Q 510 [x0, x1, x2, x3] (.int y :: .int x :: st) σ ↔ wp d pr_L Q 511 [x0, x1, x2, x3] (.int (x + y) :: st) σ := w_bI (f := fun x y => x + y) rfl
set_option maxRecDepth 100000 in
theorem e_L_511 {d : Nat} {Q : Option Value → gS → Prop} {x0 x1 x2 x3 : Option Value} {i : Int32} {a : Nat} {st : List Value} {σ : gS} : wp d pr_L Q 511 [x0, x1, x2, x3] (.int i :: .ref a :: st) σ ↔ ((gK σ a = 21 ∨ gK σ a = 26) ∧ ¬ i < 0 ∧ i.toNatClampNeg < gN σ a) ∧ wp d pr_L Q 512 [x0, x1, x2, x3] (.int (gI σ a i.toNatClampNeg) :: st) σ := w_iald rfl
set_option maxRecDepth 100000 in
theorem e_L_512 {d : Nat} {Q : Option Value → gS → Prop} {x1 x2 x3 : Option Value} {v : Nat} {st : List Value} {σ : gS} : wp d pr_L Q 512 [some (.ref v), x1, x2, x3] st σ ↔ wp d pr_L Q 513 [some (.ref v), x1, x2, x3] (.ref v :: st) σ := w_aload (k := 0) (n := 1) rfl rfl
set_option maxRecDepth 100000 in
theorem e_L_513 {d : Nat} {Q : Option Value → gS → Prop} {x0 x1 x2 : Option Value} {v : Int32} {st : List Value} {σ : gS} : wp d pr_L Q 513 [x0, x1, x2, some (.int v)] st σ ↔ wp d pr_L Q 514 [x0, x1, x2, some (.int v)] (.int v :: st) σ := w_iload (k := 3) (n := 1) rfl rfl
set_option maxRecDepth 100000 in
theorem e_L_514 {d : Nat} {Q : Option Value → gS → Prop} {x0 x1 x2 x3 : Option Value}  {st : List Value} {σ : gS} : wp d pr_L Q 514 [x0, x1, x2, x3] st σ ↔ wp d pr_L Q 515 [x0, x1, x2, x3] (.int (2) :: st) σ := w_push (n := 1) rfl
set_option maxRecDepth 100000 in
theorem e_L_515 {d : Nat} {Q : Option Value → gS → Prop} {x0 x1 x2 x3 : Option Value} {x y : Int32} {st : List Value} {σ : gS} : wp d pr_L Q 515 [x0, x1, x2, x3] (.int y :: .int x :: st) σ ↔ wp d pr_L Q 516 [x0, x1, x2, x3] (.int (x + y) :: st) σ := w_bI (f := fun x y => x + y) rfl
set_option maxRecDepth 100000 in
theorem e_L_516 {d : Nat} {Q : Option Value → gS → Prop} {x0 x1 x2 x3 : Option Value} {i : Int32} {a : Nat} {st : List Value} {σ : gS} : wp d pr_L Q 516 [x0, x1, x2, x3] (.int i :: .ref a :: st) σ ↔ ((gK σ a = 21 ∨ gK σ a = 26) ∧ ¬ i < 0 ∧ i.toNatClampNeg < gN σ a) ∧ wp d pr_L Q 517 [x0, x1, x2, x3] (.int (gI σ a i.toNatClampNeg) :: st) σ := w_iald rfl
set_option maxRecDepth 100000 in
theorem e_L_517 {d : Nat} {Q : Option Value → gS → Prop} {x1 x2 x3 : Option Value} {v : Nat} {st : List Value} {σ : gS} : wp d pr_L Q 517 [some (.ref v), x1, x2, x3] st σ ↔ wp d pr_L Q 518 [some (.ref v), x1, x2, x3] (.ref v :: st) σ := w_aload (k := 0) (n := 1) rfl rfl
set_option maxRecDepth 100000 in
theorem e_L_518 {d : Nat} {Q : Option Value → gS → Prop} {x0 x1 x2 : Option Value} {v : Int32} {st : List Value} {σ : gS} : wp d pr_L Q 518 [x0, x1, x2, some (.int v)] st σ ↔ wp d pr_L Q 519 [x0, x1, x2, some (.int v)] (.int v :: st) σ := w_iload (k := 3) (n := 1) rfl rfl
set_option maxRecDepth 100000 in
theorem e_L_519 {d : Nat} {Q : Option Value → gS → Prop} {x0 x1 x2 x3 : Option Value}  {st : List Value} {σ : gS} : wp d pr_L Q 519 [x0, x1, x2, x3] st σ ↔ wp d pr_L Q 520 [x0, x1, x2, x3] (.int (3) :: st) σ := w_push (n := 1) rfl
set_option maxRecDepth 100000 in
theorem e_L_520 {d : Nat} {Q : Option Value → gS → Prop} {x0 x1 x2 x3 : Option Value} {x y : Int32} {st : List Value} {σ : gS} : wp d pr_L Q 520 [x0, x1, x2, x3] (.int y :: .int x :: st) σ ↔ wp d pr_L Q 521 [x0, x1, x2, x3] (.int (x + y) :: st) σ := w_bI (f := fun x y => x + y) rfl
set_option maxRecDepth 100000 in
theorem e_L_521 {d : Nat} {Q : Option Value → gS → Prop} {x0 x1 x2 x3 : Option Value} {i : Int32} {a : Nat} {st : List Value} {σ : gS} : wp d pr_L Q 521 [x0, x1, x2, x3] (.int i :: .ref a :: st) σ ↔ ((gK σ a = 21 ∨ gK σ a = 26) ∧ ¬ i < 0 ∧ i.toNatClampNeg < gN σ a) ∧ wp d pr_L Q 522 [x0, x1, x2, x3] (.int (gI σ a i.toNatClampNeg) :: st) σ := w_iald rfl
set_option maxRecDepth 100000 in
theorem e_L_522 {d : Nat} {Q : Option Value → gS → Prop} {x1 x2 x3 : Option Value} {v : Nat} {st : List Value} {σ : gS} : wp d pr_L Q 522 [some (.ref v), x1, x2, x3] st σ ↔ wp d pr_L Q 523 [some (.ref v), x1, x2, x3] (.ref v :: st) σ := w_aload (k := 0) (n := 1) rfl rfl
set_option maxRecDepth 100000 in
theorem e_L_523 {d : Nat} {Q : Option Value → gS → Prop} {x0 x1 x2 : Option Value} {v : Int32} {st : List Value} {σ : gS} : wp d pr_L Q 523 [x0, x1, x2, some (.int v)] st σ ↔ wp d pr_L Q 524 [x0, x1, x2, some (.int v)] (.int v :: st) σ := w_iload (k := 3) (n := 1) rfl rfl
set_option maxRecDepth 100000 in
theorem e_L_524 {d : Nat} {Q : Option Value → gS → Prop} {x0 x1 x2 x3 : Option Value}  {st : List Value} {σ : gS} : wp d pr_L Q 524 [x0, x1, x2, x3] st σ ↔ wp d pr_L Q 525 [x0, x1, x2, x3] (.int (4) :: st) σ := w_push (n := 1) rfl
set_option maxRecDepth 100000 in
theorem e_L_525 {d : Nat} {Q : Option Value → gS → Prop} {x0 x1 x2 x3 : Option Value} {x y : Int32} {st : List Value} {σ : gS} : wp d pr_L Q 525 [x0, x1, x2, x3] (.int y :: .int x :: st) σ ↔ wp d pr_L Q 526 [x0, x1, x2, x3] (.int (x + y) :: st) σ := w_bI (f := fun x y => x + y) rfl
set_option maxRecDepth 100000 in
theorem e_L_526 {d : Nat} {Q : Option Value → gS → Prop} {x0 x1 x2 x3 : Option Value} {i : Int32} {a : Nat} {st : List Value} {σ : gS} : wp d pr_L Q 526 [x0, x1, x2, x3] (.int i :: .ref a :: st) σ ↔ ((gK σ a = 21 ∨ gK σ a = 26) ∧ ¬ i < 0 ∧ i.toNatClampNeg < gN σ a) ∧ wp d pr_L Q 527 [x0, x1, x2, x3] (.int (gI σ a i.toNatClampNeg) :: st) σ := w_iald rfl
set_option maxRecDepth 100000 in
theorem e_L_527 {d : Nat} {Q : Option Value → gS → Prop} {x1 x2 x3 : Option Value} {v : Nat} {st : List Value} {σ : gS} : wp d pr_L Q 527 [some (.ref v), x1, x2, x3] st σ ↔ wp d pr_L Q 528 [some (.ref v), x1, x2, x3] (.ref v :: st) σ := w_aload (k := 0) (n := 1) rfl rfl
set_option maxRecDepth 100000 in
theorem e_L_528 {d : Nat} {Q : Option Value → gS → Prop} {x0 x1 x2 : Option Value} {v : Int32} {st : List Value} {σ : gS} : wp d pr_L Q 528 [x0, x1, x2, some (.int v)] st σ ↔ wp d pr_L Q 529 [x0, x1, x2, some (.int v)] (.int v :: st) σ := w_iload (k := 3) (n := 1) rfl rfl
set_option maxRecDepth 100000 in
theorem e_L_529 {d : Nat} {Q : Option Value → gS → Prop} {x0 x1 x2 x3 : Option Value}  {st : List Value} {σ : gS} : wp d pr_L Q 529 [x0, x1, x2, x3] st σ ↔ wp d pr_L Q 530 [x0, x1, x2, x3] (.int (5) :: st) σ := w_push (n := 1) rfl
set_option maxRecDepth 100000 in
theorem e_L_530 {d : Nat} {Q : Option Value → gS → Prop} {x0 x1 x2 x3 : Option Value} {x y : Int32} {st : List Value} {σ : gS} : wp d pr_L Q 530 [x0, x1, x2, x3] (.int y :: .int x :: st) σ ↔ wp d pr_L Q 531 [x0, x1, x2, x3] (.int (x + y) :: st) σ := w_bI (f := fun x y => x + y) rfl
set_option maxRecDepth 100000 in
theorem e_L_531 {d : Nat} {Q : Option Value → gS → Prop} {x0 x1 x2 x3 : Option Value} {i : Int32} {a : Nat} {st : List Value} {σ : gS} : wp d pr_L Q 531 [x0, x1, x2, x3] (.int i :: .ref a :: st) σ ↔ ((gK σ a = 21 ∨ gK σ a = 26) ∧ ¬ i < 0 ∧ i.toNatClampNeg < gN σ a) ∧ wp d pr_L Q 532 [x0, x1, x2, x3] (.int (gI σ a i.toNatClampNeg) :: st) σ := w_iald rfl
set_option maxRecDepth 100000 in
theorem e_L_532 {d : Nat} {Q : Option Value → gS → Prop} {x0 x1 x2 x3 : Option Value} {v0 v1 v2 v3 v4 : Value} {a : Nat}  {st : List Value} {σ : gS} : wp d pr_L Q 532 [x0, x1, x2, x3] (v4 :: v3 :: v2 :: v1 :: v0 :: .ref a :: st) σ ↔ (gK σ a = 12 ∧ st.length ≤ 4) ∧ wc d 122 [.ref a, v0, v1, v2, v3, v4] σ (fun r τ => wp d pr_L Q 535 [x0, x1, x2, x3] (r.toList ++ st) τ) := w_callV rfl (by simp) rfl rfl
set_option maxRecDepth 100000 in
theorem e_L_535 {d : Nat} {Q : Option Value → gS → Prop} {x0 x1 x3 : Option Value} {v : Nat} {st : List Value} {σ : gS} : wp d pr_L Q 535 [x0, x1, some (.ref v), x3] st σ ↔ wp d pr_L Q 536 [x0, x1, some (.ref v), x3] (.ref v :: st) σ := w_aload (k := 2) (n := 1) rfl rfl
set_option maxRecDepth 100000 in
theorem e_L_535n {d : Nat} {Q : Option Value → gS → Prop} {x0 x1 x3 : Option Value}  {st : List Value} {σ : gS} : wp d pr_L Q 535 [x0, x1, some .null, x3] st σ ↔ wp d pr_L Q 536 [x0, x1, some .null, x3] (.null :: st) σ := w_aloadN (k := 2) (n := 1) rfl rfl
set_option maxRecDepth 100000 in
theorem e_L_536 {d : Nat} {Q : Option Value → gS → Prop} {x1 x2 x3 : Option Value} {v : Nat} {st : List Value} {σ : gS} : wp d pr_L Q 536 [some (.ref v), x1, x2, x3] st σ ↔ wp d pr_L Q 537 [some (.ref v), x1, x2, x3] (.ref v :: st) σ := w_aload (k := 0) (n := 1) rfl rfl
set_option maxRecDepth 100000 in
theorem e_L_537 {d : Nat} {Q : Option Value → gS → Prop} {x0 x1 x2 : Option Value} {v : Int32} {st : List Value} {σ : gS} : wp d pr_L Q 537 [x0, x1, x2, some (.int v)] st σ ↔ wp d pr_L Q 538 [x0, x1, x2, some (.int v)] (.int v :: st) σ := w_iload (k := 3) (n := 1) rfl rfl
set_option maxRecDepth 100000 in
theorem e_L_538 {d : Nat} {Q : Option Value → gS → Prop} {x0 x1 x2 x3 : Option Value}  {st : List Value} {σ : gS} : wp d pr_L Q 538 [x0, x1, x2, x3] st σ ↔ wp d pr_L Q 539 [x0, x1, x2, x3] (.int (1) :: st) σ := w_push (n := 1) rfl
set_option maxRecDepth 100000 in
theorem e_L_539 {d : Nat} {Q : Option Value → gS → Prop} {x0 x1 x2 x3 : Option Value} {x y : Int32} {st : List Value} {σ : gS} : wp d pr_L Q 539 [x0, x1, x2, x3] (.int y :: .int x :: st) σ ↔ wp d pr_L Q 540 [x0, x1, x2, x3] (.int (x + y) :: st) σ := w_bI (f := fun x y => x + y) rfl
set_option maxRecDepth 100000 in
theorem e_L_540 {d : Nat} {Q : Option Value → gS → Prop} {x0 x1 x2 x3 : Option Value} {i : Int32} {a : Nat} {st : List Value} {σ : gS} : wp d pr_L Q 540 [x0, x1, x2, x3] (.int i :: .ref a :: st) σ ↔ ((gK σ a = 21 ∨ gK σ a = 26) ∧ ¬ i < 0 ∧ i.toNatClampNeg < gN σ a) ∧ wp d pr_L Q 541 [x0, x1, x2, x3] (.int (gI σ a i.toNatClampNeg) :: st) σ := w_iald rfl
set_option maxRecDepth 100000 in
theorem e_L_541 {d : Nat} {Q : Option Value → gS → Prop} {x1 x2 x3 : Option Value} {v : Nat} {st : List Value} {σ : gS} : wp d pr_L Q 541 [some (.ref v), x1, x2, x3] st σ ↔ wp d pr_L Q 542 [some (.ref v), x1, x2, x3] (.ref v :: st) σ := w_aload (k := 0) (n := 1) rfl rfl
set_option maxRecDepth 100000 in
theorem e_L_542 {d : Nat} {Q : Option Value → gS → Prop} {x0 x1 x2 : Option Value} {v : Int32} {st : List Value} {σ : gS} : wp d pr_L Q 542 [x0, x1, x2, some (.int v)] st σ ↔ wp d pr_L Q 543 [x0, x1, x2, some (.int v)] (.int v :: st) σ := w_iload (k := 3) (n := 1) rfl rfl
set_option maxRecDepth 100000 in
theorem e_L_543 {d : Nat} {Q : Option Value → gS → Prop} {x0 x1 x2 x3 : Option Value}  {st : List Value} {σ : gS} : wp d pr_L Q 543 [x0, x1, x2, x3] st σ ↔ wp d pr_L Q 544 [x0, x1, x2, x3] (.int (2) :: st) σ := w_push (n := 1) rfl
set_option maxRecDepth 100000 in
theorem e_L_544 {d : Nat} {Q : Option Value → gS → Prop} {x0 x1 x2 x3 : Option Value} {x y : Int32} {st : List Value} {σ : gS} : wp d pr_L Q 544 [x0, x1, x2, x3] (.int y :: .int x :: st) σ ↔ wp d pr_L Q 545 [x0, x1, x2, x3] (.int (x + y) :: st) σ := w_bI (f := fun x y => x + y) rfl
set_option maxRecDepth 100000 in
theorem e_L_545 {d : Nat} {Q : Option Value → gS → Prop} {x0 x1 x2 x3 : Option Value} {i : Int32} {a : Nat} {st : List Value} {σ : gS} : wp d pr_L Q 545 [x0, x1, x2, x3] (.int i :: .ref a :: st) σ ↔ ((gK σ a = 21 ∨ gK σ a = 26) ∧ ¬ i < 0 ∧ i.toNatClampNeg < gN σ a) ∧ wp d pr_L Q 546 [x0, x1, x2, x3] (.int (gI σ a i.toNatClampNeg) :: st) σ := w_iald rfl
set_option maxRecDepth 100000 in
theorem e_L_546 {d : Nat} {Q : Option Value → gS → Prop} {x1 x2 x3 : Option Value} {v : Nat} {st : List Value} {σ : gS} : wp d pr_L Q 546 [some (.ref v), x1, x2, x3] st σ ↔ wp d pr_L Q 547 [some (.ref v), x1, x2, x3] (.ref v :: st) σ := w_aload (k := 0) (n := 1) rfl rfl
set_option maxRecDepth 100000 in
theorem e_L_547 {d : Nat} {Q : Option Value → gS → Prop} {x0 x1 x2 : Option Value} {v : Int32} {st : List Value} {σ : gS} : wp d pr_L Q 547 [x0, x1, x2, some (.int v)] st σ ↔ wp d pr_L Q 548 [x0, x1, x2, some (.int v)] (.int v :: st) σ := w_iload (k := 3) (n := 1) rfl rfl
set_option maxRecDepth 100000 in
theorem e_L_548 {d : Nat} {Q : Option Value → gS → Prop} {x0 x1 x2 x3 : Option Value}  {st : List Value} {σ : gS} : wp d pr_L Q 548 [x0, x1, x2, x3] st σ ↔ wp d pr_L Q 549 [x0, x1, x2, x3] (.int (3) :: st) σ := w_push (n := 1) rfl
set_option maxRecDepth 100000 in
theorem e_L_549 {d : Nat} {Q : Option Value → gS → Prop} {x0 x1 x2 x3 : Option Value} {x y : Int32} {st : List Value} {σ : gS} : wp d pr_L Q 549 [x0, x1, x2, x3] (.int y :: .int x :: st) σ ↔ wp d pr_L Q 550 [x0, x1, x2, x3] (.int (x + y) :: st) σ := w_bI (f := fun x y => x + y) rfl
set_option maxRecDepth 100000 in
theorem e_L_550 {d : Nat} {Q : Option Value → gS → Prop} {x0 x1 x2 x3 : Option Value} {i : Int32} {a : Nat} {st : List Value} {σ : gS} : wp d pr_L Q 550 [x0, x1, x2, x3] (.int i :: .ref a :: st) σ ↔ ((gK σ a = 21 ∨ gK σ a = 26) ∧ ¬ i < 0 ∧ i.toNatClampNeg < gN σ a) ∧ wp d pr_L Q 551 [x0, x1, x2, x3] (.int (gI σ a i.toNatClampNeg) :: st) σ := w_iald rfl
set_option maxRecDepth 100000 in
theorem e_L_551 {d : Nat} {Q : Option Value → gS → Prop} {x1 x2 x3 : Option Value} {v : Nat} {st : List Value} {σ : gS} : wp d pr_L Q 551 [some (.ref v), x1, x2, x3] st σ ↔ wp d pr_L Q 552 [some (.ref v), x1, x2, x3] (.ref v :: st) σ := w_aload (k := 0) (n := 1) rfl rfl
set_option maxRecDepth 100000 in
theorem e_L_552 {d : Nat} {Q : Option Value → gS → Prop} {x0 x1 x2 : Option Value} {v : Int32} {st : List Value} {σ : gS} : wp d pr_L Q 552 [x0, x1, x2, some (.int v)] st σ ↔ wp d pr_L Q 553 [x0, x1, x2, some (.int v)] (.int v :: st) σ := w_iload (k := 3) (n := 1) rfl rfl
set_option maxRecDepth 100000 in
theorem e_L_553 {d : Nat} {Q : Option Value → gS → Prop} {x0 x1 x2 x3 : Option Value}  {st : List Value} {σ : gS} : wp d pr_L Q 553 [x0, x1, x2, x3] st σ ↔ wp d pr_L Q 554 [x0, x1, x2, x3] (.int (4) :: st) σ := w_push (n := 1) rfl
set_option maxRecDepth 100000 in
theorem e_L_554 {d : Nat} {Q : Option Value → gS → Prop} {x0 x1 x2 x3 : Option Value} {x y : Int32} {st : List Value} {σ : gS} : wp d pr_L Q 554 [x0, x1, x2, x3] (.int y :: .int x :: st) σ ↔ wp d pr_L Q 555 [x0, x1, x2, x3] (.int (x + y) :: st) σ := w_bI (f := fun x y => x + y) rfl
set_option maxRecDepth 100000 in
theorem e_L_555 {d : Nat} {Q : Option Value → gS → Prop} {x0 x1 x2 x3 : Option Value} {i : Int32} {a : Nat} {st : List Value} {σ : gS} : wp d pr_L Q 555 [x0, x1, x2, x3] (.int i :: .ref a :: st) σ ↔ ((gK σ a = 21 ∨ gK σ a = 26) ∧ ¬ i < 0 ∧ i.toNatClampNeg < gN σ a) ∧ wp d pr_L Q 556 [x0, x1, x2, x3] (.int (gI σ a i.toNatClampNeg) :: st) σ := w_iald rfl
set_option maxRecDepth 100000 in
theorem e_L_556 {d : Nat} {Q : Option Value → gS → Prop} {x1 x2 x3 : Option Value} {v : Nat} {st : List Value} {σ : gS} : wp d pr_L Q 556 [some (.ref v), x1, x2, x3] st σ ↔ wp d pr_L Q 557 [some (.ref v), x1, x2, x3] (.ref v :: st) σ := w_aload (k := 0) (n := 1) rfl rfl
set_option maxRecDepth 100000 in
theorem e_L_557 {d : Nat} {Q : Option Value → gS → Prop} {x0 x1 x2 : Option Value} {v : Int32} {st : List Value} {σ : gS} : wp d pr_L Q 557 [x0, x1, x2, some (.int v)] st σ ↔ wp d pr_L Q 558 [x0, x1, x2, some (.int v)] (.int v :: st) σ := w_iload (k := 3) (n := 1) rfl rfl
set_option maxRecDepth 100000 in
theorem e_L_558 {d : Nat} {Q : Option Value → gS → Prop} {x0 x1 x2 x3 : Option Value}  {st : List Value} {σ : gS} : wp d pr_L Q 558 [x0, x1, x2, x3] st σ ↔ wp d pr_L Q 559 [x0, x1, x2, x3] (.int (5) :: st) σ := w_push (n := 1) rfl
set_option maxRecDepth 100000 in
theorem e_L_559 {d : Nat} {Q : Option Value → gS → Prop} {x0 x1 x2 x3 : Option Value} {x y : Int32} {st : List Value} {σ : gS} : wp d pr_L Q 559 [x0, x1, x2, x3] (.int y :: .int x :: st) σ ↔ wp d pr_L Q 560 [x0, x1, x2, x3] (.int (x + y) :: st) σ := w_bI (f := fun x y => x + y) rfl
set_option maxRecDepth 100000 in
theorem e_L_560 {d : Nat} {Q : Option Value → gS → Prop} {x0 x1 x2 x3 : Option Value} {i : Int32} {a : Nat} {st : List Value} {σ : gS} : wp d pr_L Q 560 [x0, x1, x2, x3] (.int i :: .ref a :: st) σ ↔ ((gK σ a = 21 ∨ gK σ a = 26) ∧ ¬ i < 0 ∧ i.toNatClampNeg < gN σ a) ∧ wp d pr_L Q 561 [x0, x1, x2, x3] (.int (gI σ a i.toNatClampNeg) :: st) σ := w_iald rfl
set_option maxRecDepth 100000 in
theorem e_L_561 {d : Nat} {Q : Option Value → gS → Prop} {x0 x1 x2 x3 : Option Value} {v0 v1 v2 v3 v4 : Value} {a : Nat}  {st : List Value} {σ : gS} : wp d pr_L Q 561 [x0, x1, x2, x3] (v4 :: v3 :: v2 :: v1 :: v0 :: .ref a :: st) σ ↔ (gK σ a = 13 ∧ st.length ≤ 4) ∧ wc d 194 [.ref a, v0, v1, v2, v3, v4] σ (fun r τ => wp d pr_L Q 564 [x0, x1, x2, x3] (r.toList ++ st) τ) := w_callV rfl (by simp) rfl rfl
set_option maxRecDepth 100000 in
theorem e_L_564 {d : Nat} {Q : Option Value → gS → Prop} {x0 x1 x2 x3 : Option Value} {x y : Int32} {st : List Value} {σ : gS} : wp d pr_L Q 564 [x0, x1, x2, x3] (.int y :: .int x :: st) σ ↔ ((x = y) → wp d pr_L Q 1495 [x0, x1, x2, x3] (st) σ) ∧ (¬ (x = y) → wp d pr_L Q 567 [x0, x1, x2, x3] (st) σ) := w_icmp rfl decide_eq_true_iff
set_option maxRecDepth 100000 in
theorem e_L_567 {d : Nat} {Q : Option Value → gS → Prop} {x0 x1 x2 x3 : Option Value}  {st : List Value} {σ : gS} : wp d pr_L Q 567 [x0, x1, x2, x3] st σ ↔ wp d pr_L Q 568 [x0, x1, x2, x3] (.int (0) :: st) σ := w_push (n := 1) rfl
set_option maxRecDepth 100000 in
theorem e_L_568 {d : Nat} {Q : Option Value → gS → Prop} {x0 x1 x2 x3 : Option Value} {v : Int32} {σ : gS} : wp d pr_L Q 568 [x0, x1, x2, x3] [.int v] σ ↔ (v = 0 ∨ v = 1) ∧ Q (some (.int v)) σ := w_zret rfl
set_option maxRecDepth 100000 in
theorem e_L_569 {d : Nat} {Q : Option Value → gS → Prop} {x0 x2 x3 : Option Value} {v : Nat} {st : List Value} {σ : gS} : wp d pr_L Q 569 [x0, some (.ref v), x2, x3] st σ ↔ wp d pr_L Q 570 [x0, some (.ref v), x2, x3] (.ref v :: st) σ := w_aload (k := 1) (n := 1) rfl rfl
set_option maxRecDepth 100000 in
theorem e_L_569n {d : Nat} {Q : Option Value → gS → Prop} {x0 x2 x3 : Option Value}  {st : List Value} {σ : gS} : wp d pr_L Q 569 [x0, some .null, x2, x3] st σ ↔ wp d pr_L Q 570 [x0, some .null, x2, x3] (.null :: st) σ := w_aloadN (k := 1) (n := 1) rfl rfl
set_option maxRecDepth 100000 in
theorem e_L_570 {d : Nat} {Q : Option Value → gS → Prop} {x1 x2 x3 : Option Value} {v : Nat} {st : List Value} {σ : gS} : wp d pr_L Q 570 [some (.ref v), x1, x2, x3] st σ ↔ wp d pr_L Q 571 [some (.ref v), x1, x2, x3] (.ref v :: st) σ := w_aload (k := 0) (n := 1) rfl rfl
set_option maxRecDepth 100000 in
theorem e_L_571 {d : Nat} {Q : Option Value → gS → Prop} {x0 x1 x2 : Option Value} {v : Int32} {st : List Value} {σ : gS} : wp d pr_L Q 571 [x0, x1, x2, some (.int v)] st σ ↔ wp d pr_L Q 572 [x0, x1, x2, some (.int v)] (.int v :: st) σ := w_iload (k := 3) (n := 1) rfl rfl
set_option maxRecDepth 100000 in
theorem e_L_572 {d : Nat} {Q : Option Value → gS → Prop} {x0 x1 x2 x3 : Option Value}  {st : List Value} {σ : gS} : wp d pr_L Q 572 [x0, x1, x2, x3] st σ ↔ wp d pr_L Q 573 [x0, x1, x2, x3] (.int (1) :: st) σ := w_push (n := 1) rfl
set_option maxRecDepth 100000 in
theorem e_L_573 {d : Nat} {Q : Option Value → gS → Prop} {x0 x1 x2 x3 : Option Value} {x y : Int32} {st : List Value} {σ : gS} : wp d pr_L Q 573 [x0, x1, x2, x3] (.int y :: .int x :: st) σ ↔ wp d pr_L Q 574 [x0, x1, x2, x3] (.int (x + y) :: st) σ := w_bI (f := fun x y => x + y) rfl
set_option maxRecDepth 100000 in
theorem e_L_574 {d : Nat} {Q : Option Value → gS → Prop} {x0 x1 x2 x3 : Option Value} {i : Int32} {a : Nat} {st : List Value} {σ : gS} : wp d pr_L Q 574 [x0, x1, x2, x3] (.int i :: .ref a :: st) σ ↔ ((gK σ a = 21 ∨ gK σ a = 26) ∧ ¬ i < 0 ∧ i.toNatClampNeg < gN σ a) ∧ wp d pr_L Q 575 [x0, x1, x2, x3] (.int (gI σ a i.toNatClampNeg) :: st) σ := w_iald rfl
set_option maxRecDepth 100000 in
theorem e_L_575 {d : Nat} {Q : Option Value → gS → Prop} {x0 x1 x2 x3 : Option Value} {v0 : Value} {a : Nat}  {st : List Value} {σ : gS} : wp d pr_L Q 575 [x0, x1, x2, x3] (v0 :: .ref a :: st) σ ↔ (gK σ a = 12 ∧ st.length ≤ 4) ∧ wc d 123 [.ref a, v0] σ (fun r τ => wp d pr_L Q 578 [x0, x1, x2, x3] (r.toList ++ st) τ) := w_callV rfl (by simp) rfl rfl
set_option maxRecDepth 100000 in
theorem e_L_578 {d : Nat} {Q : Option Value → gS → Prop} {x0 x1 x3 : Option Value} {v : Nat} {st : List Value} {σ : gS} : wp d pr_L Q 578 [x0, x1, some (.ref v), x3] st σ ↔ wp d pr_L Q 579 [x0, x1, some (.ref v), x3] (.ref v :: st) σ := w_aload (k := 2) (n := 1) rfl rfl
set_option maxRecDepth 100000 in
theorem e_L_578n {d : Nat} {Q : Option Value → gS → Prop} {x0 x1 x3 : Option Value}  {st : List Value} {σ : gS} : wp d pr_L Q 578 [x0, x1, some .null, x3] st σ ↔ wp d pr_L Q 579 [x0, x1, some .null, x3] (.null :: st) σ := w_aloadN (k := 2) (n := 1) rfl rfl
set_option maxRecDepth 100000 in
theorem e_L_579 {d : Nat} {Q : Option Value → gS → Prop} {x1 x2 x3 : Option Value} {v : Nat} {st : List Value} {σ : gS} : wp d pr_L Q 579 [some (.ref v), x1, x2, x3] st σ ↔ wp d pr_L Q 580 [some (.ref v), x1, x2, x3] (.ref v :: st) σ := w_aload (k := 0) (n := 1) rfl rfl
set_option maxRecDepth 100000 in
theorem e_L_580 {d : Nat} {Q : Option Value → gS → Prop} {x0 x1 x2 : Option Value} {v : Int32} {st : List Value} {σ : gS} : wp d pr_L Q 580 [x0, x1, x2, some (.int v)] st σ ↔ wp d pr_L Q 581 [x0, x1, x2, some (.int v)] (.int v :: st) σ := w_iload (k := 3) (n := 1) rfl rfl
set_option maxRecDepth 100000 in
theorem e_L_581 {d : Nat} {Q : Option Value → gS → Prop} {x0 x1 x2 x3 : Option Value}  {st : List Value} {σ : gS} : wp d pr_L Q 581 [x0, x1, x2, x3] st σ ↔ wp d pr_L Q 582 [x0, x1, x2, x3] (.int (1) :: st) σ := w_push (n := 1) rfl
set_option maxRecDepth 100000 in
theorem e_L_582 {d : Nat} {Q : Option Value → gS → Prop} {x0 x1 x2 x3 : Option Value} {x y : Int32} {st : List Value} {σ : gS} : wp d pr_L Q 582 [x0, x1, x2, x3] (.int y :: .int x :: st) σ ↔ wp d pr_L Q 583 [x0, x1, x2, x3] (.int (x + y) :: st) σ := w_bI (f := fun x y => x + y) rfl
set_option maxRecDepth 100000 in
theorem e_L_583 {d : Nat} {Q : Option Value → gS → Prop} {x0 x1 x2 x3 : Option Value} {i : Int32} {a : Nat} {st : List Value} {σ : gS} : wp d pr_L Q 583 [x0, x1, x2, x3] (.int i :: .ref a :: st) σ ↔ ((gK σ a = 21 ∨ gK σ a = 26) ∧ ¬ i < 0 ∧ i.toNatClampNeg < gN σ a) ∧ wp d pr_L Q 584 [x0, x1, x2, x3] (.int (gI σ a i.toNatClampNeg) :: st) σ := w_iald rfl
set_option maxRecDepth 100000 in
theorem e_L_584 {d : Nat} {Q : Option Value → gS → Prop} {x0 x1 x2 x3 : Option Value} {v0 : Value} {a : Nat}  {st : List Value} {σ : gS} : wp d pr_L Q 584 [x0, x1, x2, x3] (v0 :: .ref a :: st) σ ↔ (gK σ a = 13 ∧ st.length ≤ 4) ∧ wc d 195 [.ref a, v0] σ (fun r τ => wp d pr_L Q 587 [x0, x1, x2, x3] (r.toList ++ st) τ) := w_callV rfl (by simp) rfl rfl
set_option maxRecDepth 100000 in
theorem e_L_587 {d : Nat} {Q : Option Value → gS → Prop} {x0 x1 x2 x3 : Option Value} {x y : Int32} {st : List Value} {σ : gS} : wp d pr_L Q 587 [x0, x1, x2, x3] (.int y :: .int x :: st) σ ↔ ((x = y) → wp d pr_L Q 1495 [x0, x1, x2, x3] (st) σ) ∧ (¬ (x = y) → wp d pr_L Q 590 [x0, x1, x2, x3] (st) σ) := w_icmp rfl decide_eq_true_iff
set_option maxRecDepth 100000 in
theorem e_L_590 {d : Nat} {Q : Option Value → gS → Prop} {x0 x1 x2 x3 : Option Value}  {st : List Value} {σ : gS} : wp d pr_L Q 590 [x0, x1, x2, x3] st σ ↔ wp d pr_L Q 591 [x0, x1, x2, x3] (.int (0) :: st) σ := w_push (n := 1) rfl
set_option maxRecDepth 100000 in
theorem e_L_591 {d : Nat} {Q : Option Value → gS → Prop} {x0 x1 x2 x3 : Option Value} {v : Int32} {σ : gS} : wp d pr_L Q 591 [x0, x1, x2, x3] [.int v] σ ↔ (v = 0 ∨ v = 1) ∧ Q (some (.int v)) σ := w_zret rfl
set_option maxRecDepth 100000 in
theorem e_L_592 {d : Nat} {Q : Option Value → gS → Prop} {x0 x2 x3 : Option Value} {v : Nat} {st : List Value} {σ : gS} : wp d pr_L Q 592 [x0, some (.ref v), x2, x3] st σ ↔ wp d pr_L Q 593 [x0, some (.ref v), x2, x3] (.ref v :: st) σ := w_aload (k := 1) (n := 1) rfl rfl
set_option maxRecDepth 100000 in
theorem e_L_592n {d : Nat} {Q : Option Value → gS → Prop} {x0 x2 x3 : Option Value}  {st : List Value} {σ : gS} : wp d pr_L Q 592 [x0, some .null, x2, x3] st σ ↔ wp d pr_L Q 593 [x0, some .null, x2, x3] (.null :: st) σ := w_aloadN (k := 1) (n := 1) rfl rfl
set_option maxRecDepth 100000 in
theorem e_L_593 {d : Nat} {Q : Option Value → gS → Prop} {x0 x1 x2 x3 : Option Value} {a : Nat}  {st : List Value} {σ : gS} : wp d pr_L Q 593 [x0, x1, x2, x3] (.ref a :: st) σ ↔ (gK σ a = 12 ∧ st.length ≤ 4) ∧ wc d 124 [.ref a] σ (fun r τ => wp d pr_L Q 596 [x0, x1, x2, x3] (r.toList ++ st) τ) := w_callV rfl (by simp) rfl rfl
set_option maxRecDepth 100000 in
theorem e_L_596 {d : Nat} {Q : Option Value → gS → Prop} {x0 x1 x3 : Option Value} {v : Nat} {st : List Value} {σ : gS} : wp d pr_L Q 596 [x0, x1, some (.ref v), x3] st σ ↔ wp d pr_L Q 597 [x0, x1, some (.ref v), x3] (.ref v :: st) σ := w_aload (k := 2) (n := 1) rfl rfl
set_option maxRecDepth 100000 in
theorem e_L_596n {d : Nat} {Q : Option Value → gS → Prop} {x0 x1 x3 : Option Value}  {st : List Value} {σ : gS} : wp d pr_L Q 596 [x0, x1, some .null, x3] st σ ↔ wp d pr_L Q 597 [x0, x1, some .null, x3] (.null :: st) σ := w_aloadN (k := 2) (n := 1) rfl rfl
set_option maxRecDepth 100000 in
theorem e_L_597 {d : Nat} {Q : Option Value → gS → Prop} {x0 x1 x2 x3 : Option Value} {a : Nat}  {st : List Value} {σ : gS} : wp d pr_L Q 597 [x0, x1, x2, x3] (.ref a :: st) σ ↔ (gK σ a = 13 ∧ st.length ≤ 4) ∧ wc d 192 [.ref a] σ (fun r τ => wp d pr_L Q 600 [x0, x1, x2, x3] (r.toList ++ st) τ) := w_callV rfl (by simp) rfl rfl
set_option maxRecDepth 100000 in
theorem e_L_600 {d : Nat} {Q : Option Value → gS → Prop} {x0 x1 x2 x3 : Option Value} {x y : Int32} {st : List Value} {σ : gS} : wp d pr_L Q 600 [x0, x1, x2, x3] (.int y :: .int x :: st) σ ↔ ((x = y) → wp d pr_L Q 1495 [x0, x1, x2, x3] (st) σ) ∧ (¬ (x = y) → wp d pr_L Q 603 [x0, x1, x2, x3] (st) σ) := w_icmp rfl decide_eq_true_iff
set_option maxRecDepth 100000 in
theorem e_L_603 {d : Nat} {Q : Option Value → gS → Prop} {x0 x1 x2 x3 : Option Value}  {st : List Value} {σ : gS} : wp d pr_L Q 603 [x0, x1, x2, x3] st σ ↔ wp d pr_L Q 604 [x0, x1, x2, x3] (.int (0) :: st) σ := w_push (n := 1) rfl
set_option maxRecDepth 100000 in
theorem e_L_604 {d : Nat} {Q : Option Value → gS → Prop} {x0 x1 x2 x3 : Option Value} {v : Int32} {σ : gS} : wp d pr_L Q 604 [x0, x1, x2, x3] [.int v] σ ↔ (v = 0 ∨ v = 1) ∧ Q (some (.int v)) σ := w_zret rfl
set_option maxRecDepth 100000 in
theorem e_L_605 {d : Nat} {Q : Option Value → gS → Prop} {x0 x2 x3 : Option Value} {v : Nat} {st : List Value} {σ : gS} : wp d pr_L Q 605 [x0, some (.ref v), x2, x3] st σ ↔ wp d pr_L Q 606 [x0, some (.ref v), x2, x3] (.ref v :: st) σ := w_aload (k := 1) (n := 1) rfl rfl
set_option maxRecDepth 100000 in
theorem e_L_605n {d : Nat} {Q : Option Value → gS → Prop} {x0 x2 x3 : Option Value}  {st : List Value} {σ : gS} : wp d pr_L Q 605 [x0, some .null, x2, x3] st σ ↔ wp d pr_L Q 606 [x0, some .null, x2, x3] (.null :: st) σ := w_aloadN (k := 1) (n := 1) rfl rfl
set_option maxRecDepth 100000 in
theorem e_L_606 {d : Nat} {Q : Option Value → gS → Prop} {x0 x1 x2 x3 : Option Value} {a : Nat}  {st : List Value} {σ : gS} : wp d pr_L Q 606 [x0, x1, x2, x3] (.ref a :: st) σ ↔ (gK σ a = 12 ∧ st.length ≤ 4) ∧ wc d 125 [.ref a] σ (fun r τ => wp d pr_L Q 609 [x0, x1, x2, x3] (r.toList ++ st) τ) := w_callV rfl (by simp) rfl rfl
set_option maxRecDepth 100000 in
theorem e_L_609 {d : Nat} {Q : Option Value → gS → Prop} {x0 x1 x3 : Option Value} {v : Nat} {st : List Value} {σ : gS} : wp d pr_L Q 609 [x0, x1, some (.ref v), x3] st σ ↔ wp d pr_L Q 610 [x0, x1, some (.ref v), x3] (.ref v :: st) σ := w_aload (k := 2) (n := 1) rfl rfl
set_option maxRecDepth 100000 in
theorem e_L_609n {d : Nat} {Q : Option Value → gS → Prop} {x0 x1 x3 : Option Value}  {st : List Value} {σ : gS} : wp d pr_L Q 609 [x0, x1, some .null, x3] st σ ↔ wp d pr_L Q 610 [x0, x1, some .null, x3] (.null :: st) σ := w_aloadN (k := 2) (n := 1) rfl rfl
set_option maxRecDepth 100000 in
theorem e_L_610 {d : Nat} {Q : Option Value → gS → Prop} {x0 x1 x2 x3 : Option Value} {a : Nat}  {st : List Value} {σ : gS} : wp d pr_L Q 610 [x0, x1, x2, x3] (.ref a :: st) σ ↔ (gK σ a = 13 ∧ st.length ≤ 4) ∧ wc d 193 [.ref a] σ (fun r τ => wp d pr_L Q 613 [x0, x1, x2, x3] (r.toList ++ st) τ) := w_callV rfl (by simp) rfl rfl
set_option maxRecDepth 100000 in
theorem e_L_613 {d : Nat} {Q : Option Value → gS → Prop} {x0 x1 x2 x3 : Option Value} {x y : Int32} {st : List Value} {σ : gS} : wp d pr_L Q 613 [x0, x1, x2, x3] (.int y :: .int x :: st) σ ↔ ((x = y) → wp d pr_L Q 1495 [x0, x1, x2, x3] (st) σ) ∧ (¬ (x = y) → wp d pr_L Q 616 [x0, x1, x2, x3] (st) σ) := w_icmp rfl decide_eq_true_iff
set_option maxRecDepth 100000 in
theorem e_L_616 {d : Nat} {Q : Option Value → gS → Prop} {x0 x1 x2 x3 : Option Value}  {st : List Value} {σ : gS} : wp d pr_L Q 616 [x0, x1, x2, x3] st σ ↔ wp d pr_L Q 617 [x0, x1, x2, x3] (.int (0) :: st) σ := w_push (n := 1) rfl
set_option maxRecDepth 100000 in
theorem e_L_617 {d : Nat} {Q : Option Value → gS → Prop} {x0 x1 x2 x3 : Option Value} {v : Int32} {σ : gS} : wp d pr_L Q 617 [x0, x1, x2, x3] [.int v] σ ↔ (v = 0 ∨ v = 1) ∧ Q (some (.int v)) σ := w_zret rfl
set_option maxRecDepth 100000 in
theorem e_L_618 {d : Nat} {Q : Option Value → gS → Prop} {x0 x2 x3 : Option Value} {v : Nat} {st : List Value} {σ : gS} : wp d pr_L Q 618 [x0, some (.ref v), x2, x3] st σ ↔ wp d pr_L Q 619 [x0, some (.ref v), x2, x3] (.ref v :: st) σ := w_aload (k := 1) (n := 1) rfl rfl
set_option maxRecDepth 100000 in
theorem e_L_618n {d : Nat} {Q : Option Value → gS → Prop} {x0 x2 x3 : Option Value}  {st : List Value} {σ : gS} : wp d pr_L Q 618 [x0, some .null, x2, x3] st σ ↔ wp d pr_L Q 619 [x0, some .null, x2, x3] (.null :: st) σ := w_aloadN (k := 1) (n := 1) rfl rfl
set_option maxRecDepth 100000 in
theorem e_L_619 {d : Nat} {Q : Option Value → gS → Prop} {x0 x1 x2 x3 : Option Value} {a : Nat}  {st : List Value} {σ : gS} : wp d pr_L Q 619 [x0, x1, x2, x3] (.ref a :: st) σ ↔ (gK σ a = 12 ∧ st.length ≤ 4) ∧ wc d 126 [.ref a] σ (fun r τ => wp d pr_L Q 622 [x0, x1, x2, x3] (r.toList ++ st) τ) := w_callV rfl (by simp) rfl rfl
set_option maxRecDepth 100000 in
theorem e_L_622 {d : Nat} {Q : Option Value → gS → Prop} {x0 x1 x3 : Option Value} {v : Nat} {st : List Value} {σ : gS} : wp d pr_L Q 622 [x0, x1, some (.ref v), x3] st σ ↔ wp d pr_L Q 623 [x0, x1, some (.ref v), x3] (.ref v :: st) σ := w_aload (k := 2) (n := 1) rfl rfl
set_option maxRecDepth 100000 in
theorem e_L_622n {d : Nat} {Q : Option Value → gS → Prop} {x0 x1 x3 : Option Value}  {st : List Value} {σ : gS} : wp d pr_L Q 622 [x0, x1, some .null, x3] st σ ↔ wp d pr_L Q 623 [x0, x1, some .null, x3] (.null :: st) σ := w_aloadN (k := 2) (n := 1) rfl rfl
set_option maxRecDepth 100000 in
theorem e_L_623 {d : Nat} {Q : Option Value → gS → Prop} {x0 x1 x2 x3 : Option Value} {a : Nat}  {st : List Value} {σ : gS} : wp d pr_L Q 623 [x0, x1, x2, x3] (.ref a :: st) σ ↔ (gK σ a = 13 ∧ st.length ≤ 4) ∧ wc d 214 [.ref a] σ (fun r τ => wp d pr_L Q 626 [x0, x1, x2, x3] (r.toList ++ st) τ) := w_callV rfl (by simp) rfl rfl
set_option maxRecDepth 100000 in
theorem e_L_626 {d : Nat} {Q : Option Value → gS → Prop} {x0 x1 x2 x3 : Option Value} {x y : Int32} {st : List Value} {σ : gS} : wp d pr_L Q 626 [x0, x1, x2, x3] (.int y :: .int x :: st) σ ↔ ((x = y) → wp d pr_L Q 1495 [x0, x1, x2, x3] (st) σ) ∧ (¬ (x = y) → wp d pr_L Q 629 [x0, x1, x2, x3] (st) σ) := w_icmp rfl decide_eq_true_iff
set_option maxRecDepth 100000 in
theorem e_L_629 {d : Nat} {Q : Option Value → gS → Prop} {x0 x1 x2 x3 : Option Value}  {st : List Value} {σ : gS} : wp d pr_L Q 629 [x0, x1, x2, x3] st σ ↔ wp d pr_L Q 630 [x0, x1, x2, x3] (.int (0) :: st) σ := w_push (n := 1) rfl
set_option maxRecDepth 100000 in
theorem e_L_630 {d : Nat} {Q : Option Value → gS → Prop} {x0 x1 x2 x3 : Option Value} {v : Int32} {σ : gS} : wp d pr_L Q 630 [x0, x1, x2, x3] [.int v] σ ↔ (v = 0 ∨ v = 1) ∧ Q (some (.int v)) σ := w_zret rfl
set_option maxRecDepth 100000 in
theorem e_L_631 {d : Nat} {Q : Option Value → gS → Prop} {x0 x2 x3 : Option Value} {v : Nat} {st : List Value} {σ : gS} : wp d pr_L Q 631 [x0, some (.ref v), x2, x3] st σ ↔ wp d pr_L Q 632 [x0, some (.ref v), x2, x3] (.ref v :: st) σ := w_aload (k := 1) (n := 1) rfl rfl
set_option maxRecDepth 100000 in
theorem e_L_631n {d : Nat} {Q : Option Value → gS → Prop} {x0 x2 x3 : Option Value}  {st : List Value} {σ : gS} : wp d pr_L Q 631 [x0, some .null, x2, x3] st σ ↔ wp d pr_L Q 632 [x0, some .null, x2, x3] (.null :: st) σ := w_aloadN (k := 1) (n := 1) rfl rfl
set_option maxRecDepth 100000 in
theorem e_L_632 {d : Nat} {Q : Option Value → gS → Prop} {x0 x1 x2 x3 : Option Value} {a : Nat}  {st : List Value} {σ : gS} : wp d pr_L Q 632 [x0, x1, x2, x3] (.ref a :: st) σ ↔ (gK σ a = 12 ∧ st.length ≤ 4) ∧ wc d 127 [.ref a] σ (fun r τ => wp d pr_L Q 635 [x0, x1, x2, x3] (r.toList ++ st) τ) := w_callV rfl (by simp) rfl rfl
set_option maxRecDepth 100000 in
theorem e_L_635 {d : Nat} {Q : Option Value → gS → Prop} {x0 x1 x3 : Option Value} {v : Nat} {st : List Value} {σ : gS} : wp d pr_L Q 635 [x0, x1, some (.ref v), x3] st σ ↔ wp d pr_L Q 636 [x0, x1, some (.ref v), x3] (.ref v :: st) σ := w_aload (k := 2) (n := 1) rfl rfl
set_option maxRecDepth 100000 in
theorem e_L_635n {d : Nat} {Q : Option Value → gS → Prop} {x0 x1 x3 : Option Value}  {st : List Value} {σ : gS} : wp d pr_L Q 635 [x0, x1, some .null, x3] st σ ↔ wp d pr_L Q 636 [x0, x1, some .null, x3] (.null :: st) σ := w_aloadN (k := 2) (n := 1) rfl rfl
set_option maxRecDepth 100000 in
theorem e_L_636 {d : Nat} {Q : Option Value → gS → Prop} {x0 x1 x2 x3 : Option Value} {a : Nat}  {st : List Value} {σ : gS} : wp d pr_L Q 636 [x0, x1, x2, x3] (.ref a :: st) σ ↔ (gK σ a = 13 ∧ st.length ≤ 4) ∧ wc d 215 [.ref a] σ (fun r τ => wp d pr_L Q 639 [x0, x1, x2, x3] (r.toList ++ st) τ) := w_callV rfl (by simp) rfl rfl
set_option maxRecDepth 100000 in
theorem e_L_639 {d : Nat} {Q : Option Value → gS → Prop} {x0 x1 x2 x3 : Option Value} {x y : Int32} {st : List Value} {σ : gS} : wp d pr_L Q 639 [x0, x1, x2, x3] (.int y :: .int x :: st) σ ↔ ((x = y) → wp d pr_L Q 1495 [x0, x1, x2, x3] (st) σ) ∧ (¬ (x = y) → wp d pr_L Q 642 [x0, x1, x2, x3] (st) σ) := w_icmp rfl decide_eq_true_iff
set_option maxRecDepth 100000 in
theorem e_L_642 {d : Nat} {Q : Option Value → gS → Prop} {x0 x1 x2 x3 : Option Value}  {st : List Value} {σ : gS} : wp d pr_L Q 642 [x0, x1, x2, x3] st σ ↔ wp d pr_L Q 643 [x0, x1, x2, x3] (.int (0) :: st) σ := w_push (n := 1) rfl
set_option maxRecDepth 100000 in
theorem e_L_643 {d : Nat} {Q : Option Value → gS → Prop} {x0 x1 x2 x3 : Option Value} {v : Int32} {σ : gS} : wp d pr_L Q 643 [x0, x1, x2, x3] [.int v] σ ↔ (v = 0 ∨ v = 1) ∧ Q (some (.int v)) σ := w_zret rfl
set_option maxRecDepth 100000 in
theorem e_L_644 {d : Nat} {Q : Option Value → gS → Prop} {x0 x2 x3 : Option Value} {v : Nat} {st : List Value} {σ : gS} : wp d pr_L Q 644 [x0, some (.ref v), x2, x3] st σ ↔ wp d pr_L Q 645 [x0, some (.ref v), x2, x3] (.ref v :: st) σ := w_aload (k := 1) (n := 1) rfl rfl
set_option maxRecDepth 100000 in
theorem e_L_644n {d : Nat} {Q : Option Value → gS → Prop} {x0 x2 x3 : Option Value}  {st : List Value} {σ : gS} : wp d pr_L Q 644 [x0, some .null, x2, x3] st σ ↔ wp d pr_L Q 645 [x0, some .null, x2, x3] (.null :: st) σ := w_aloadN (k := 1) (n := 1) rfl rfl
set_option maxRecDepth 100000 in
theorem e_L_645 {d : Nat} {Q : Option Value → gS → Prop} {x1 x2 x3 : Option Value} {v : Nat} {st : List Value} {σ : gS} : wp d pr_L Q 645 [some (.ref v), x1, x2, x3] st σ ↔ wp d pr_L Q 646 [some (.ref v), x1, x2, x3] (.ref v :: st) σ := w_aload (k := 0) (n := 1) rfl rfl
set_option maxRecDepth 100000 in
theorem e_L_646 {d : Nat} {Q : Option Value → gS → Prop} {x0 x1 x2 : Option Value} {v : Int32} {st : List Value} {σ : gS} : wp d pr_L Q 646 [x0, x1, x2, some (.int v)] st σ ↔ wp d pr_L Q 647 [x0, x1, x2, some (.int v)] (.int v :: st) σ := w_iload (k := 3) (n := 1) rfl rfl
set_option maxRecDepth 100000 in
theorem e_L_647 {d : Nat} {Q : Option Value → gS → Prop} {x0 x1 x2 x3 : Option Value}  {st : List Value} {σ : gS} : wp d pr_L Q 647 [x0, x1, x2, x3] st σ ↔ wp d pr_L Q 648 [x0, x1, x2, x3] (.int (1) :: st) σ := w_push (n := 1) rfl
set_option maxRecDepth 100000 in
theorem e_L_648 {d : Nat} {Q : Option Value → gS → Prop} {x0 x1 x2 x3 : Option Value} {x y : Int32} {st : List Value} {σ : gS} : wp d pr_L Q 648 [x0, x1, x2, x3] (.int y :: .int x :: st) σ ↔ wp d pr_L Q 649 [x0, x1, x2, x3] (.int (x + y) :: st) σ := w_bI (f := fun x y => x + y) rfl
set_option maxRecDepth 100000 in
theorem e_L_649 {d : Nat} {Q : Option Value → gS → Prop} {x0 x1 x2 x3 : Option Value} {i : Int32} {a : Nat} {st : List Value} {σ : gS} : wp d pr_L Q 649 [x0, x1, x2, x3] (.int i :: .ref a :: st) σ ↔ ((gK σ a = 21 ∨ gK σ a = 26) ∧ ¬ i < 0 ∧ i.toNatClampNeg < gN σ a) ∧ wp d pr_L Q 650 [x0, x1, x2, x3] (.int (gI σ a i.toNatClampNeg) :: st) σ := w_iald rfl
set_option maxRecDepth 100000 in
theorem e_L_650 {d : Nat} {Q : Option Value → gS → Prop} {x0 x1 x2 x3 : Option Value} {v0 : Value} {a : Nat}  {st : List Value} {σ : gS} : wp d pr_L Q 650 [x0, x1, x2, x3] (v0 :: .ref a :: st) σ ↔ (gK σ a = 12 ∧ st.length ≤ 4) ∧ wc d 128 [.ref a, v0] σ (fun r τ => wp d pr_L Q 653 [x0, x1, x2, x3] (r.toList ++ st) τ) := w_callV rfl (by simp) rfl rfl
set_option maxRecDepth 100000 in
theorem e_L_653 {d : Nat} {Q : Option Value → gS → Prop} {x0 x1 x3 : Option Value} {v : Nat} {st : List Value} {σ : gS} : wp d pr_L Q 653 [x0, x1, some (.ref v), x3] st σ ↔ wp d pr_L Q 654 [x0, x1, some (.ref v), x3] (.ref v :: st) σ := w_aload (k := 2) (n := 1) rfl rfl
set_option maxRecDepth 100000 in
theorem e_L_653n {d : Nat} {Q : Option Value → gS → Prop} {x0 x1 x3 : Option Value}  {st : List Value} {σ : gS} : wp d pr_L Q 653 [x0, x1, some .null, x3] st σ ↔ wp d pr_L Q 654 [x0, x1, some .null, x3] (.null :: st) σ := w_aloadN (k := 2) (n := 1) rfl rfl
set_option maxRecDepth 100000 in
theorem e_L_654 {d : Nat} {Q : Option Value → gS → Prop} {x1 x2 x3 : Option Value} {v : Nat} {st : List Value} {σ : gS} : wp d pr_L Q 654 [some (.ref v), x1, x2, x3] st σ ↔ wp d pr_L Q 655 [some (.ref v), x1, x2, x3] (.ref v :: st) σ := w_aload (k := 0) (n := 1) rfl rfl
set_option maxRecDepth 100000 in
theorem e_L_655 {d : Nat} {Q : Option Value → gS → Prop} {x0 x1 x2 : Option Value} {v : Int32} {st : List Value} {σ : gS} : wp d pr_L Q 655 [x0, x1, x2, some (.int v)] st σ ↔ wp d pr_L Q 656 [x0, x1, x2, some (.int v)] (.int v :: st) σ := w_iload (k := 3) (n := 1) rfl rfl
set_option maxRecDepth 100000 in
theorem e_L_656 {d : Nat} {Q : Option Value → gS → Prop} {x0 x1 x2 x3 : Option Value}  {st : List Value} {σ : gS} : wp d pr_L Q 656 [x0, x1, x2, x3] st σ ↔ wp d pr_L Q 657 [x0, x1, x2, x3] (.int (1) :: st) σ := w_push (n := 1) rfl
set_option maxRecDepth 100000 in
theorem e_L_657 {d : Nat} {Q : Option Value → gS → Prop} {x0 x1 x2 x3 : Option Value} {x y : Int32} {st : List Value} {σ : gS} : wp d pr_L Q 657 [x0, x1, x2, x3] (.int y :: .int x :: st) σ ↔ wp d pr_L Q 658 [x0, x1, x2, x3] (.int (x + y) :: st) σ := w_bI (f := fun x y => x + y) rfl
set_option maxRecDepth 100000 in
theorem e_L_658 {d : Nat} {Q : Option Value → gS → Prop} {x0 x1 x2 x3 : Option Value} {i : Int32} {a : Nat} {st : List Value} {σ : gS} : wp d pr_L Q 658 [x0, x1, x2, x3] (.int i :: .ref a :: st) σ ↔ ((gK σ a = 21 ∨ gK σ a = 26) ∧ ¬ i < 0 ∧ i.toNatClampNeg < gN σ a) ∧ wp d pr_L Q 659 [x0, x1, x2, x3] (.int (gI σ a i.toNatClampNeg) :: st) σ := w_iald rfl
set_option maxRecDepth 100000 in
theorem e_L_659 {d : Nat} {Q : Option Value → gS → Prop} {x0 x1 x2 x3 : Option Value} {v0 : Value} {a : Nat}  {st : List Value} {σ : gS} : wp d pr_L Q 659 [x0, x1, x2, x3] (v0 :: .ref a :: st) σ ↔ (gK σ a = 13 ∧ st.length ≤ 4) ∧ wc d 216 [.ref a, v0] σ (fun r τ => wp d pr_L Q 662 [x0, x1, x2, x3] (r.toList ++ st) τ) := w_callV rfl (by simp) rfl rfl
set_option maxRecDepth 100000 in
theorem e_L_662 {d : Nat} {Q : Option Value → gS → Prop} {x0 x1 x2 x3 : Option Value} {x y : Int32} {st : List Value} {σ : gS} : wp d pr_L Q 662 [x0, x1, x2, x3] (.int y :: .int x :: st) σ ↔ ((x = y) → wp d pr_L Q 1495 [x0, x1, x2, x3] (st) σ) ∧ (¬ (x = y) → wp d pr_L Q 665 [x0, x1, x2, x3] (st) σ) := w_icmp rfl decide_eq_true_iff
set_option maxRecDepth 100000 in
theorem e_L_665 {d : Nat} {Q : Option Value → gS → Prop} {x0 x1 x2 x3 : Option Value}  {st : List Value} {σ : gS} : wp d pr_L Q 665 [x0, x1, x2, x3] st σ ↔ wp d pr_L Q 666 [x0, x1, x2, x3] (.int (0) :: st) σ := w_push (n := 1) rfl
set_option maxRecDepth 100000 in
theorem e_L_666 {d : Nat} {Q : Option Value → gS → Prop} {x0 x1 x2 x3 : Option Value} {v : Int32} {σ : gS} : wp d pr_L Q 666 [x0, x1, x2, x3] [.int v] σ ↔ (v = 0 ∨ v = 1) ∧ Q (some (.int v)) σ := w_zret rfl
set_option maxRecDepth 100000 in
theorem e_L_667 {d : Nat} {Q : Option Value → gS → Prop} {x0 x2 x3 : Option Value} {v : Nat} {st : List Value} {σ : gS} : wp d pr_L Q 667 [x0, some (.ref v), x2, x3] st σ ↔ wp d pr_L Q 668 [x0, some (.ref v), x2, x3] (.ref v :: st) σ := w_aload (k := 1) (n := 1) rfl rfl
set_option maxRecDepth 100000 in
theorem e_L_667n {d : Nat} {Q : Option Value → gS → Prop} {x0 x2 x3 : Option Value}  {st : List Value} {σ : gS} : wp d pr_L Q 667 [x0, some .null, x2, x3] st σ ↔ wp d pr_L Q 668 [x0, some .null, x2, x3] (.null :: st) σ := w_aloadN (k := 1) (n := 1) rfl rfl
set_option maxRecDepth 100000 in
theorem e_L_668 {d : Nat} {Q : Option Value → gS → Prop} {x1 x2 x3 : Option Value} {v : Nat} {st : List Value} {σ : gS} : wp d pr_L Q 668 [some (.ref v), x1, x2, x3] st σ ↔ wp d pr_L Q 669 [some (.ref v), x1, x2, x3] (.ref v :: st) σ := w_aload (k := 0) (n := 1) rfl rfl
set_option maxRecDepth 100000 in
theorem e_L_669 {d : Nat} {Q : Option Value → gS → Prop} {x0 x1 x2 : Option Value} {v : Int32} {st : List Value} {σ : gS} : wp d pr_L Q 669 [x0, x1, x2, some (.int v)] st σ ↔ wp d pr_L Q 670 [x0, x1, x2, some (.int v)] (.int v :: st) σ := w_iload (k := 3) (n := 1) rfl rfl
set_option maxRecDepth 100000 in
theorem e_L_670 {d : Nat} {Q : Option Value → gS → Prop} {x0 x1 x2 x3 : Option Value}  {st : List Value} {σ : gS} : wp d pr_L Q 670 [x0, x1, x2, x3] st σ ↔ wp d pr_L Q 671 [x0, x1, x2, x3] (.int (1) :: st) σ := w_push (n := 1) rfl
set_option maxRecDepth 100000 in
theorem e_L_671 {d : Nat} {Q : Option Value → gS → Prop} {x0 x1 x2 x3 : Option Value} {x y : Int32} {st : List Value} {σ : gS} : wp d pr_L Q 671 [x0, x1, x2, x3] (.int y :: .int x :: st) σ ↔ wp d pr_L Q 672 [x0, x1, x2, x3] (.int (x + y) :: st) σ := w_bI (f := fun x y => x + y) rfl
set_option maxRecDepth 100000 in
theorem e_L_672 {d : Nat} {Q : Option Value → gS → Prop} {x0 x1 x2 x3 : Option Value} {i : Int32} {a : Nat} {st : List Value} {σ : gS} : wp d pr_L Q 672 [x0, x1, x2, x3] (.int i :: .ref a :: st) σ ↔ ((gK σ a = 21 ∨ gK σ a = 26) ∧ ¬ i < 0 ∧ i.toNatClampNeg < gN σ a) ∧ wp d pr_L Q 673 [x0, x1, x2, x3] (.int (gI σ a i.toNatClampNeg) :: st) σ := w_iald rfl
set_option maxRecDepth 100000 in
theorem e_L_673 {d : Nat} {Q : Option Value → gS → Prop} {x1 x2 x3 : Option Value} {v : Nat} {st : List Value} {σ : gS} : wp d pr_L Q 673 [some (.ref v), x1, x2, x3] st σ ↔ wp d pr_L Q 674 [some (.ref v), x1, x2, x3] (.ref v :: st) σ := w_aload (k := 0) (n := 1) rfl rfl
set_option maxRecDepth 100000 in
theorem e_L_674 {d : Nat} {Q : Option Value → gS → Prop} {x0 x1 x2 : Option Value} {v : Int32} {st : List Value} {σ : gS} : wp d pr_L Q 674 [x0, x1, x2, some (.int v)] st σ ↔ wp d pr_L Q 675 [x0, x1, x2, some (.int v)] (.int v :: st) σ := w_iload (k := 3) (n := 1) rfl rfl
set_option maxRecDepth 100000 in
theorem e_L_675 {d : Nat} {Q : Option Value → gS → Prop} {x0 x1 x2 x3 : Option Value}  {st : List Value} {σ : gS} : wp d pr_L Q 675 [x0, x1, x2, x3] st σ ↔ wp d pr_L Q 676 [x0, x1, x2, x3] (.int (2) :: st) σ := w_push (n := 1) rfl
set_option maxRecDepth 100000 in
theorem e_L_676 {d : Nat} {Q : Option Value → gS → Prop} {x0 x1 x2 x3 : Option Value} {x y : Int32} {st : List Value} {σ : gS} : wp d pr_L Q 676 [x0, x1, x2, x3] (.int y :: .int x :: st) σ ↔ wp d pr_L Q 677 [x0, x1, x2, x3] (.int (x + y) :: st) σ := w_bI (f := fun x y => x + y) rfl
set_option maxRecDepth 100000 in
theorem e_L_677 {d : Nat} {Q : Option Value → gS → Prop} {x0 x1 x2 x3 : Option Value} {i : Int32} {a : Nat} {st : List Value} {σ : gS} : wp d pr_L Q 677 [x0, x1, x2, x3] (.int i :: .ref a :: st) σ ↔ ((gK σ a = 21 ∨ gK σ a = 26) ∧ ¬ i < 0 ∧ i.toNatClampNeg < gN σ a) ∧ wp d pr_L Q 678 [x0, x1, x2, x3] (.int (gI σ a i.toNatClampNeg) :: st) σ := w_iald rfl
set_option maxRecDepth 100000 in
theorem e_L_678 {d : Nat} {Q : Option Value → gS → Prop} {x0 x1 x2 x3 : Option Value} {v0 v1 : Value} {a : Nat}  {st : List Value} {σ : gS} : wp d pr_L Q 678 [x0, x1, x2, x3] (v1 :: v0 :: .ref a :: st) σ ↔ (gK σ a = 12 ∧ st.length ≤ 4) ∧ wc d 129 [.ref a, v0, v1] σ (fun r τ => wp d pr_L Q 681 [x0, x1, x2, x3] (r.toList ++ st) τ) := w_callV rfl (by simp) rfl rfl
set_option maxRecDepth 100000 in
theorem e_L_681 {d : Nat} {Q : Option Value → gS → Prop} {x0 x1 x3 : Option Value} {v : Nat} {st : List Value} {σ : gS} : wp d pr_L Q 681 [x0, x1, some (.ref v), x3] st σ ↔ wp d pr_L Q 682 [x0, x1, some (.ref v), x3] (.ref v :: st) σ := w_aload (k := 2) (n := 1) rfl rfl
set_option maxRecDepth 100000 in
theorem e_L_681n {d : Nat} {Q : Option Value → gS → Prop} {x0 x1 x3 : Option Value}  {st : List Value} {σ : gS} : wp d pr_L Q 681 [x0, x1, some .null, x3] st σ ↔ wp d pr_L Q 682 [x0, x1, some .null, x3] (.null :: st) σ := w_aloadN (k := 2) (n := 1) rfl rfl
set_option maxRecDepth 100000 in
theorem e_L_682 {d : Nat} {Q : Option Value → gS → Prop} {x1 x2 x3 : Option Value} {v : Nat} {st : List Value} {σ : gS} : wp d pr_L Q 682 [some (.ref v), x1, x2, x3] st σ ↔ wp d pr_L Q 683 [some (.ref v), x1, x2, x3] (.ref v :: st) σ := w_aload (k := 0) (n := 1) rfl rfl
set_option maxRecDepth 100000 in
theorem e_L_683 {d : Nat} {Q : Option Value → gS → Prop} {x0 x1 x2 : Option Value} {v : Int32} {st : List Value} {σ : gS} : wp d pr_L Q 683 [x0, x1, x2, some (.int v)] st σ ↔ wp d pr_L Q 684 [x0, x1, x2, some (.int v)] (.int v :: st) σ := w_iload (k := 3) (n := 1) rfl rfl
set_option maxRecDepth 100000 in
theorem e_L_684 {d : Nat} {Q : Option Value → gS → Prop} {x0 x1 x2 x3 : Option Value}  {st : List Value} {σ : gS} : wp d pr_L Q 684 [x0, x1, x2, x3] st σ ↔ wp d pr_L Q 685 [x0, x1, x2, x3] (.int (1) :: st) σ := w_push (n := 1) rfl
set_option maxRecDepth 100000 in
theorem e_L_685 {d : Nat} {Q : Option Value → gS → Prop} {x0 x1 x2 x3 : Option Value} {x y : Int32} {st : List Value} {σ : gS} : wp d pr_L Q 685 [x0, x1, x2, x3] (.int y :: .int x :: st) σ ↔ wp d pr_L Q 686 [x0, x1, x2, x3] (.int (x + y) :: st) σ := w_bI (f := fun x y => x + y) rfl
set_option maxRecDepth 100000 in
theorem e_L_686 {d : Nat} {Q : Option Value → gS → Prop} {x0 x1 x2 x3 : Option Value} {i : Int32} {a : Nat} {st : List Value} {σ : gS} : wp d pr_L Q 686 [x0, x1, x2, x3] (.int i :: .ref a :: st) σ ↔ ((gK σ a = 21 ∨ gK σ a = 26) ∧ ¬ i < 0 ∧ i.toNatClampNeg < gN σ a) ∧ wp d pr_L Q 687 [x0, x1, x2, x3] (.int (gI σ a i.toNatClampNeg) :: st) σ := w_iald rfl
set_option maxRecDepth 100000 in
theorem e_L_687 {d : Nat} {Q : Option Value → gS → Prop} {x1 x2 x3 : Option Value} {v : Nat} {st : List Value} {σ : gS} : wp d pr_L Q 687 [some (.ref v), x1, x2, x3] st σ ↔ wp d pr_L Q 688 [some (.ref v), x1, x2, x3] (.ref v :: st) σ := w_aload (k := 0) (n := 1) rfl rfl
set_option maxRecDepth 100000 in
theorem e_L_688 {d : Nat} {Q : Option Value → gS → Prop} {x0 x1 x2 : Option Value} {v : Int32} {st : List Value} {σ : gS} : wp d pr_L Q 688 [x0, x1, x2, some (.int v)] st σ ↔ wp d pr_L Q 689 [x0, x1, x2, some (.int v)] (.int v :: st) σ := w_iload (k := 3) (n := 1) rfl rfl
set_option maxRecDepth 100000 in
theorem e_L_689 {d : Nat} {Q : Option Value → gS → Prop} {x0 x1 x2 x3 : Option Value}  {st : List Value} {σ : gS} : wp d pr_L Q 689 [x0, x1, x2, x3] st σ ↔ wp d pr_L Q 690 [x0, x1, x2, x3] (.int (2) :: st) σ := w_push (n := 1) rfl
set_option maxRecDepth 100000 in
theorem e_L_690 {d : Nat} {Q : Option Value → gS → Prop} {x0 x1 x2 x3 : Option Value} {x y : Int32} {st : List Value} {σ : gS} : wp d pr_L Q 690 [x0, x1, x2, x3] (.int y :: .int x :: st) σ ↔ wp d pr_L Q 691 [x0, x1, x2, x3] (.int (x + y) :: st) σ := w_bI (f := fun x y => x + y) rfl
set_option maxRecDepth 100000 in
theorem e_L_691 {d : Nat} {Q : Option Value → gS → Prop} {x0 x1 x2 x3 : Option Value} {i : Int32} {a : Nat} {st : List Value} {σ : gS} : wp d pr_L Q 691 [x0, x1, x2, x3] (.int i :: .ref a :: st) σ ↔ ((gK σ a = 21 ∨ gK σ a = 26) ∧ ¬ i < 0 ∧ i.toNatClampNeg < gN σ a) ∧ wp d pr_L Q 692 [x0, x1, x2, x3] (.int (gI σ a i.toNatClampNeg) :: st) σ := w_iald rfl
set_option maxRecDepth 100000 in
theorem e_L_692 {d : Nat} {Q : Option Value → gS → Prop} {x0 x1 x2 x3 : Option Value} {v0 v1 : Value} {a : Nat}  {st : List Value} {σ : gS} : wp d pr_L Q 692 [x0, x1, x2, x3] (v1 :: v0 :: .ref a :: st) σ ↔ (gK σ a = 13 ∧ st.length ≤ 4) ∧ wc d 232 [.ref a, v0, v1] σ (fun r τ => wp d pr_L Q 695 [x0, x1, x2, x3] (r.toList ++ st) τ) := w_callV rfl (by simp) rfl rfl
set_option maxRecDepth 100000 in
theorem e_L_695 {d : Nat} {Q : Option Value → gS → Prop} {x0 x1 x2 x3 : Option Value} {x y : Int32} {st : List Value} {σ : gS} : wp d pr_L Q 695 [x0, x1, x2, x3] (.int y :: .int x :: st) σ ↔ ((x = y) → wp d pr_L Q 1495 [x0, x1, x2, x3] (st) σ) ∧ (¬ (x = y) → wp d pr_L Q 698 [x0, x1, x2, x3] (st) σ) := w_icmp rfl decide_eq_true_iff
set_option maxRecDepth 100000 in
theorem e_L_698 {d : Nat} {Q : Option Value → gS → Prop} {x0 x1 x2 x3 : Option Value}  {st : List Value} {σ : gS} : wp d pr_L Q 698 [x0, x1, x2, x3] st σ ↔ wp d pr_L Q 699 [x0, x1, x2, x3] (.int (0) :: st) σ := w_push (n := 1) rfl
set_option maxRecDepth 100000 in
theorem e_L_699 {d : Nat} {Q : Option Value → gS → Prop} {x0 x1 x2 x3 : Option Value} {v : Int32} {σ : gS} : wp d pr_L Q 699 [x0, x1, x2, x3] [.int v] σ ↔ (v = 0 ∨ v = 1) ∧ Q (some (.int v)) σ := w_zret rfl
set_option maxRecDepth 100000 in
theorem e_L_700 {d : Nat} {Q : Option Value → gS → Prop} {x0 x2 x3 : Option Value} {v : Nat} {st : List Value} {σ : gS} : wp d pr_L Q 700 [x0, some (.ref v), x2, x3] st σ ↔ wp d pr_L Q 701 [x0, some (.ref v), x2, x3] (.ref v :: st) σ := w_aload (k := 1) (n := 1) rfl rfl
set_option maxRecDepth 100000 in
theorem e_L_700n {d : Nat} {Q : Option Value → gS → Prop} {x0 x2 x3 : Option Value}  {st : List Value} {σ : gS} : wp d pr_L Q 700 [x0, some .null, x2, x3] st σ ↔ wp d pr_L Q 701 [x0, some .null, x2, x3] (.null :: st) σ := w_aloadN (k := 1) (n := 1) rfl rfl
set_option maxRecDepth 100000 in
theorem e_L_701 {d : Nat} {Q : Option Value → gS → Prop} {x1 x2 x3 : Option Value} {v : Nat} {st : List Value} {σ : gS} : wp d pr_L Q 701 [some (.ref v), x1, x2, x3] st σ ↔ wp d pr_L Q 702 [some (.ref v), x1, x2, x3] (.ref v :: st) σ := w_aload (k := 0) (n := 1) rfl rfl
set_option maxRecDepth 100000 in
theorem e_L_702 {d : Nat} {Q : Option Value → gS → Prop} {x0 x1 x2 : Option Value} {v : Int32} {st : List Value} {σ : gS} : wp d pr_L Q 702 [x0, x1, x2, some (.int v)] st σ ↔ wp d pr_L Q 703 [x0, x1, x2, some (.int v)] (.int v :: st) σ := w_iload (k := 3) (n := 1) rfl rfl
set_option maxRecDepth 100000 in
theorem e_L_703 {d : Nat} {Q : Option Value → gS → Prop} {x0 x1 x2 x3 : Option Value}  {st : List Value} {σ : gS} : wp d pr_L Q 703 [x0, x1, x2, x3] st σ ↔ wp d pr_L Q 704 [x0, x1, x2, x3] (.int (1) :: st) σ := w_push (n := 1) rfl
set_option maxRecDepth 100000 in
theorem e_L_704 {d : Nat} {Q : Option Value → gS → Prop} {x0 x1 x2 x3 : Option Value} {x y : Int32} {st : List Value} {σ : gS} : wp d pr_L Q 704 [x0, x1, x2, x3] (.int y :: .int x :: st) σ ↔ wp d pr_L Q 705 [x0, x1, x2, x3] (.int (x + y) :: st) σ := w_bI (f := fun x y => x + y) rfl
set_option maxRecDepth 100000 in
theorem e_L_705 {d : Nat} {Q : Option Value → gS → Prop} {x0 x1 x2 x3 : Option Value} {i : Int32} {a : Nat} {st : List Value} {σ : gS} : wp d pr_L Q 705 [x0, x1, x2, x3] (.int i :: .ref a :: st) σ ↔ ((gK σ a = 21 ∨ gK σ a = 26) ∧ ¬ i < 0 ∧ i.toNatClampNeg < gN σ a) ∧ wp d pr_L Q 706 [x0, x1, x2, x3] (.int (gI σ a i.toNatClampNeg) :: st) σ := w_iald rfl
set_option maxRecDepth 100000 in
theorem e_L_706 {d : Nat} {Q : Option Value → gS → Prop} {x1 x2 x3 : Option Value} {v : Nat} {st : List Value} {σ : gS} : wp d pr_L Q 706 [some (.ref v), x1, x2, x3] st σ ↔ wp d pr_L Q 707 [some (.ref v), x1, x2, x3] (.ref v :: st) σ := w_aload (k := 0) (n := 1) rfl rfl
set_option maxRecDepth 100000 in
theorem e_L_707 {d : Nat} {Q : Option Value → gS → Prop} {x0 x1 x2 : Option Value} {v : Int32} {st : List Value} {σ : gS} : wp d pr_L Q 707 [x0, x1, x2, some (.int v)] st σ ↔ wp d pr_L Q 708 [x0, x1, x2, some (.int v)] (.int v :: st) σ := w_iload (k := 3) (n := 1) rfl rfl
set_option maxRecDepth 100000 in
theorem e_L_708 {d : Nat} {Q : Option Value → gS → Prop} {x0 x1 x2 x3 : Option Value}  {st : List Value} {σ : gS} : wp d pr_L Q 708 [x0, x1, x2, x3] st σ ↔ wp d pr_L Q 709 [x0, x1, x2, x3] (.int (2) :: st) σ := w_push (n := 1) rfl
set_option maxRecDepth 100000 in
theorem e_L_709 {d : Nat} {Q : Option Value → gS → Prop} {x0 x1 x2 x3 : Option Value} {x y : Int32} {st : List Value} {σ : gS} : wp d pr_L Q 709 [x0, x1, x2, x3] (.int y :: .int x :: st) σ ↔ wp d pr_L Q 710 [x0, x1, x2, x3] (.int (x + y) :: st) σ := w_bI (f := fun x y => x + y) rfl
set_option maxRecDepth 100000 in
theorem e_L_710 {d : Nat} {Q : Option Value → gS → Prop} {x0 x1 x2 x3 : Option Value} {i : Int32} {a : Nat} {st : List Value} {σ : gS} : wp d pr_L Q 710 [x0, x1, x2, x3] (.int i :: .ref a :: st) σ ↔ ((gK σ a = 21 ∨ gK σ a = 26) ∧ ¬ i < 0 ∧ i.toNatClampNeg < gN σ a) ∧ wp d pr_L Q 711 [x0, x1, x2, x3] (.int (gI σ a i.toNatClampNeg) :: st) σ := w_iald rfl
set_option maxRecDepth 100000 in
theorem e_L_711 {d : Nat} {Q : Option Value → gS → Prop} {x1 x2 x3 : Option Value} {v : Nat} {st : List Value} {σ : gS} : wp d pr_L Q 711 [some (.ref v), x1, x2, x3] st σ ↔ wp d pr_L Q 712 [some (.ref v), x1, x2, x3] (.ref v :: st) σ := w_aload (k := 0) (n := 1) rfl rfl
set_option maxRecDepth 100000 in
theorem e_L_712 {d : Nat} {Q : Option Value → gS → Prop} {x0 x1 x2 : Option Value} {v : Int32} {st : List Value} {σ : gS} : wp d pr_L Q 712 [x0, x1, x2, some (.int v)] st σ ↔ wp d pr_L Q 713 [x0, x1, x2, some (.int v)] (.int v :: st) σ := w_iload (k := 3) (n := 1) rfl rfl
set_option maxRecDepth 100000 in
theorem e_L_713 {d : Nat} {Q : Option Value → gS → Prop} {x0 x1 x2 x3 : Option Value}  {st : List Value} {σ : gS} : wp d pr_L Q 713 [x0, x1, x2, x3] st σ ↔ wp d pr_L Q 714 [x0, x1, x2, x3] (.int (3) :: st) σ := w_push (n := 1) rfl
set_option maxRecDepth 100000 in
theorem e_L_714 {d : Nat} {Q : Option Value → gS → Prop} {x0 x1 x2 x3 : Option Value} {x y : Int32} {st : List Value} {σ : gS} : wp d pr_L Q 714 [x0, x1, x2, x3] (.int y :: .int x :: st) σ ↔ wp d pr_L Q 715 [x0, x1, x2, x3] (.int (x + y) :: st) σ := w_bI (f := fun x y => x + y) rfl
set_option maxRecDepth 100000 in
theorem e_L_715 {d : Nat} {Q : Option Value → gS → Prop} {x0 x1 x2 x3 : Option Value} {i : Int32} {a : Nat} {st : List Value} {σ : gS} : wp d pr_L Q 715 [x0, x1, x2, x3] (.int i :: .ref a :: st) σ ↔ ((gK σ a = 21 ∨ gK σ a = 26) ∧ ¬ i < 0 ∧ i.toNatClampNeg < gN σ a) ∧ wp d pr_L Q 716 [x0, x1, x2, x3] (.int (gI σ a i.toNatClampNeg) :: st) σ := w_iald rfl
set_option maxRecDepth 100000 in
theorem e_L_716 {d : Nat} {Q : Option Value → gS → Prop} {x0 x1 x2 x3 : Option Value} {v0 v1 v2 : Value} {a : Nat}  {st : List Value} {σ : gS} : wp d pr_L Q 716 [x0, x1, x2, x3] (v2 :: v1 :: v0 :: .ref a :: st) σ ↔ (gK σ a = 12 ∧ st.length ≤ 4) ∧ wc d 130 [.ref a, v0, v1, v2] σ (fun r τ => wp d pr_L Q 719 [x0, x1, x2, x3] (r.toList ++ st) τ) := w_callV rfl (by simp) rfl rfl
set_option maxRecDepth 100000 in
theorem e_L_719 {d : Nat} {Q : Option Value → gS → Prop} {x0 x1 x3 : Option Value} {v : Nat} {st : List Value} {σ : gS} : wp d pr_L Q 719 [x0, x1, some (.ref v), x3] st σ ↔ wp d pr_L Q 720 [x0, x1, some (.ref v), x3] (.ref v :: st) σ := w_aload (k := 2) (n := 1) rfl rfl
set_option maxRecDepth 100000 in
theorem e_L_719n {d : Nat} {Q : Option Value → gS → Prop} {x0 x1 x3 : Option Value}  {st : List Value} {σ : gS} : wp d pr_L Q 719 [x0, x1, some .null, x3] st σ ↔ wp d pr_L Q 720 [x0, x1, some .null, x3] (.null :: st) σ := w_aloadN (k := 2) (n := 1) rfl rfl
set_option maxRecDepth 100000 in
theorem e_L_720 {d : Nat} {Q : Option Value → gS → Prop} {x1 x2 x3 : Option Value} {v : Nat} {st : List Value} {σ : gS} : wp d pr_L Q 720 [some (.ref v), x1, x2, x3] st σ ↔ wp d pr_L Q 721 [some (.ref v), x1, x2, x3] (.ref v :: st) σ := w_aload (k := 0) (n := 1) rfl rfl
set_option maxRecDepth 100000 in
theorem e_L_721 {d : Nat} {Q : Option Value → gS → Prop} {x0 x1 x2 : Option Value} {v : Int32} {st : List Value} {σ : gS} : wp d pr_L Q 721 [x0, x1, x2, some (.int v)] st σ ↔ wp d pr_L Q 722 [x0, x1, x2, some (.int v)] (.int v :: st) σ := w_iload (k := 3) (n := 1) rfl rfl
set_option maxRecDepth 100000 in
theorem e_L_722 {d : Nat} {Q : Option Value → gS → Prop} {x0 x1 x2 x3 : Option Value}  {st : List Value} {σ : gS} : wp d pr_L Q 722 [x0, x1, x2, x3] st σ ↔ wp d pr_L Q 723 [x0, x1, x2, x3] (.int (1) :: st) σ := w_push (n := 1) rfl
set_option maxRecDepth 100000 in
theorem e_L_723 {d : Nat} {Q : Option Value → gS → Prop} {x0 x1 x2 x3 : Option Value} {x y : Int32} {st : List Value} {σ : gS} : wp d pr_L Q 723 [x0, x1, x2, x3] (.int y :: .int x :: st) σ ↔ wp d pr_L Q 724 [x0, x1, x2, x3] (.int (x + y) :: st) σ := w_bI (f := fun x y => x + y) rfl
set_option maxRecDepth 100000 in
theorem e_L_724 {d : Nat} {Q : Option Value → gS → Prop} {x0 x1 x2 x3 : Option Value} {i : Int32} {a : Nat} {st : List Value} {σ : gS} : wp d pr_L Q 724 [x0, x1, x2, x3] (.int i :: .ref a :: st) σ ↔ ((gK σ a = 21 ∨ gK σ a = 26) ∧ ¬ i < 0 ∧ i.toNatClampNeg < gN σ a) ∧ wp d pr_L Q 725 [x0, x1, x2, x3] (.int (gI σ a i.toNatClampNeg) :: st) σ := w_iald rfl
set_option maxRecDepth 100000 in
theorem e_L_725 {d : Nat} {Q : Option Value → gS → Prop} {x1 x2 x3 : Option Value} {v : Nat} {st : List Value} {σ : gS} : wp d pr_L Q 725 [some (.ref v), x1, x2, x3] st σ ↔ wp d pr_L Q 726 [some (.ref v), x1, x2, x3] (.ref v :: st) σ := w_aload (k := 0) (n := 1) rfl rfl
set_option maxRecDepth 100000 in
theorem e_L_726 {d : Nat} {Q : Option Value → gS → Prop} {x0 x1 x2 : Option Value} {v : Int32} {st : List Value} {σ : gS} : wp d pr_L Q 726 [x0, x1, x2, some (.int v)] st σ ↔ wp d pr_L Q 727 [x0, x1, x2, some (.int v)] (.int v :: st) σ := w_iload (k := 3) (n := 1) rfl rfl
set_option maxRecDepth 100000 in
theorem e_L_727 {d : Nat} {Q : Option Value → gS → Prop} {x0 x1 x2 x3 : Option Value}  {st : List Value} {σ : gS} : wp d pr_L Q 727 [x0, x1, x2, x3] st σ ↔ wp d pr_L Q 728 [x0, x1, x2, x3] (.int (2) :: st) σ := w_push (n := 1) rfl
set_option maxRecDepth 100000 in
theorem e_L_728 {d : Nat} {Q : Option Value → gS → Prop} {x0 x1 x2 x3 : Option Value} {x y : Int32} {st : List Value} {σ : gS} : wp d pr_L Q 728 [x0, x1, x2, x3] (.int y :: .int x :: st) σ ↔ wp d pr_L Q 729 [x0, x1, x2, x3] (.int (x + y) :: st) σ := w_bI (f := fun x y => x + y) rfl
set_option maxRecDepth 100000 in
theorem e_L_729 {d : Nat} {Q : Option Value → gS → Prop} {x0 x1 x2 x3 : Option Value} {i : Int32} {a : Nat} {st : List Value} {σ : gS} : wp d pr_L Q 729 [x0, x1, x2, x3] (.int i :: .ref a :: st) σ ↔ ((gK σ a = 21 ∨ gK σ a = 26) ∧ ¬ i < 0 ∧ i.toNatClampNeg < gN σ a) ∧ wp d pr_L Q 730 [x0, x1, x2, x3] (.int (gI σ a i.toNatClampNeg) :: st) σ := w_iald rfl
set_option maxRecDepth 100000 in
theorem e_L_730 {d : Nat} {Q : Option Value → gS → Prop} {x1 x2 x3 : Option Value} {v : Nat} {st : List Value} {σ : gS} : wp d pr_L Q 730 [some (.ref v), x1, x2, x3] st σ ↔ wp d pr_L Q 731 [some (.ref v), x1, x2, x3] (.ref v :: st) σ := w_aload (k := 0) (n := 1) rfl rfl
set_option maxRecDepth 100000 in
theorem e_L_731 {d : Nat} {Q : Option Value → gS → Prop} {x0 x1 x2 : Option Value} {v : Int32} {st : List Value} {σ : gS} : wp d pr_L Q 731 [x0, x1, x2, some (.int v)] st σ ↔ wp d pr_L Q 732 [x0, x1, x2, some (.int v)] (.int v :: st) σ := w_iload (k := 3) (n := 1) rfl rfl
set_option maxRecDepth 100000 in
theorem e_L_732 {d : Nat} {Q : Option Value → gS → Prop} {x0 x1 x2 x3 : Option Value}  {st : List Value} {σ : gS} : wp d pr_L Q 732 [x0, x1, x2, x3] st σ ↔ wp d pr_L Q 733 [x0, x1, x2, x3] (.int (3) :: st) σ := w_push (n := 1) rfl
set_option maxRecDepth 100000 in
theorem e_L_733 {d : Nat} {Q : Option Value → gS → Prop} {x0 x1 x2 x3 : Option Value} {x y : Int32} {st : List Value} {σ : gS} : wp d pr_L Q 733 [x0, x1, x2, x3] (.int y :: .int x :: st) σ ↔ wp d pr_L Q 734 [x0, x1, x2, x3] (.int (x + y) :: st) σ := w_bI (f := fun x y => x + y) rfl
set_option maxRecDepth 100000 in
theorem e_L_734 {d : Nat} {Q : Option Value → gS → Prop} {x0 x1 x2 x3 : Option Value} {i : Int32} {a : Nat} {st : List Value} {σ : gS} : wp d pr_L Q 734 [x0, x1, x2, x3] (.int i :: .ref a :: st) σ ↔ ((gK σ a = 21 ∨ gK σ a = 26) ∧ ¬ i < 0 ∧ i.toNatClampNeg < gN σ a) ∧ wp d pr_L Q 735 [x0, x1, x2, x3] (.int (gI σ a i.toNatClampNeg) :: st) σ := w_iald rfl
set_option maxRecDepth 100000 in
theorem e_L_735 {d : Nat} {Q : Option Value → gS → Prop} {x0 x1 x2 x3 : Option Value} {v0 v1 v2 : Value} {a : Nat}  {st : List Value} {σ : gS} : wp d pr_L Q 735 [x0, x1, x2, x3] (v2 :: v1 :: v0 :: .ref a :: st) σ ↔ (gK σ a = 13 ∧ st.length ≤ 4) ∧ wc d 235 [.ref a, v0, v1, v2] σ (fun r τ => wp d pr_L Q 738 [x0, x1, x2, x3] (r.toList ++ st) τ) := w_callV rfl (by simp) rfl rfl
set_option maxRecDepth 100000 in
theorem e_L_738 {d : Nat} {Q : Option Value → gS → Prop} {x0 x1 x2 x3 : Option Value} {x y : Int32} {st : List Value} {σ : gS} : wp d pr_L Q 738 [x0, x1, x2, x3] (.int y :: .int x :: st) σ ↔ ((x = y) → wp d pr_L Q 1495 [x0, x1, x2, x3] (st) σ) ∧ (¬ (x = y) → wp d pr_L Q 741 [x0, x1, x2, x3] (st) σ) := w_icmp rfl decide_eq_true_iff
set_option maxRecDepth 100000 in
theorem e_L_741 {d : Nat} {Q : Option Value → gS → Prop} {x0 x1 x2 x3 : Option Value}  {st : List Value} {σ : gS} : wp d pr_L Q 741 [x0, x1, x2, x3] st σ ↔ wp d pr_L Q 742 [x0, x1, x2, x3] (.int (0) :: st) σ := w_push (n := 1) rfl
set_option maxRecDepth 100000 in
theorem e_L_742 {d : Nat} {Q : Option Value → gS → Prop} {x0 x1 x2 x3 : Option Value} {v : Int32} {σ : gS} : wp d pr_L Q 742 [x0, x1, x2, x3] [.int v] σ ↔ (v = 0 ∨ v = 1) ∧ Q (some (.int v)) σ := w_zret rfl
set_option maxRecDepth 100000 in
theorem e_L_743 {d : Nat} {Q : Option Value → gS → Prop} {x0 x2 x3 : Option Value} {v : Nat} {st : List Value} {σ : gS} : wp d pr_L Q 743 [x0, some (.ref v), x2, x3] st σ ↔ wp d pr_L Q 744 [x0, some (.ref v), x2, x3] (.ref v :: st) σ := w_aload (k := 1) (n := 1) rfl rfl
set_option maxRecDepth 100000 in
theorem e_L_743n {d : Nat} {Q : Option Value → gS → Prop} {x0 x2 x3 : Option Value}  {st : List Value} {σ : gS} : wp d pr_L Q 743 [x0, some .null, x2, x3] st σ ↔ wp d pr_L Q 744 [x0, some .null, x2, x3] (.null :: st) σ := w_aloadN (k := 1) (n := 1) rfl rfl
set_option maxRecDepth 100000 in
theorem e_L_744 {d : Nat} {Q : Option Value → gS → Prop} {x1 x2 x3 : Option Value} {v : Nat} {st : List Value} {σ : gS} : wp d pr_L Q 744 [some (.ref v), x1, x2, x3] st σ ↔ wp d pr_L Q 745 [some (.ref v), x1, x2, x3] (.ref v :: st) σ := w_aload (k := 0) (n := 1) rfl rfl
set_option maxRecDepth 100000 in
theorem e_L_745 {d : Nat} {Q : Option Value → gS → Prop} {x0 x1 x2 : Option Value} {v : Int32} {st : List Value} {σ : gS} : wp d pr_L Q 745 [x0, x1, x2, some (.int v)] st σ ↔ wp d pr_L Q 746 [x0, x1, x2, some (.int v)] (.int v :: st) σ := w_iload (k := 3) (n := 1) rfl rfl
set_option maxRecDepth 100000 in
theorem e_L_746 {d : Nat} {Q : Option Value → gS → Prop} {x0 x1 x2 x3 : Option Value}  {st : List Value} {σ : gS} : wp d pr_L Q 746 [x0, x1, x2, x3] st σ ↔ wp d pr_L Q 747 [x0, x1, x2, x3] (.int (1) :: st) σ := w_push (n := 1) rfl
set_option maxRecDepth 100000 in
theorem e_L_747 {d : Nat} {Q : Option Value → gS → Prop} {x0 x1 x2 x3 : Option Value} {x y : Int32} {st : List Value} {σ : gS} : wp d pr_L Q 747 [x0, x1, x2, x3] (.int y :: .int x :: st) σ ↔ wp d pr_L Q 748 [x0, x1, x2, x3] (.int (x + y) :: st) σ := w_bI (f := fun x y => x + y) rfl
set_option maxRecDepth 100000 in
theorem e_L_748 {d : Nat} {Q : Option Value → gS → Prop} {x0 x1 x2 x3 : Option Value} {i : Int32} {a : Nat} {st : List Value} {σ : gS} : wp d pr_L Q 748 [x0, x1, x2, x3] (.int i :: .ref a :: st) σ ↔ ((gK σ a = 21 ∨ gK σ a = 26) ∧ ¬ i < 0 ∧ i.toNatClampNeg < gN σ a) ∧ wp d pr_L Q 749 [x0, x1, x2, x3] (.int (gI σ a i.toNatClampNeg) :: st) σ := w_iald rfl
set_option maxRecDepth 100000 in
theorem e_L_749 {d : Nat} {Q : Option Value → gS → Prop} {x0 x1 x2 x3 : Option Value} {v0 : Value} {a : Nat}  {st : List Value} {σ : gS} : wp d pr_L Q 749 [x0, x1, x2, x3] (v0 :: .ref a :: st) σ ↔ (gK σ a = 12 ∧ st.length ≤ 4) ∧ wc d 131 [.ref a, v0] σ (fun r τ => wp d pr_L Q 752 [x0, x1, x2, x3] (r.toList ++ st) τ) := w_callV rfl (by simp) rfl rfl
set_option maxRecDepth 100000 in
theorem e_L_752 {d : Nat} {Q : Option Value → gS → Prop} {x0 x1 x3 : Option Value} {v : Nat} {st : List Value} {σ : gS} : wp d pr_L Q 752 [x0, x1, some (.ref v), x3] st σ ↔ wp d pr_L Q 753 [x0, x1, some (.ref v), x3] (.ref v :: st) σ := w_aload (k := 2) (n := 1) rfl rfl
set_option maxRecDepth 100000 in
theorem e_L_752n {d : Nat} {Q : Option Value → gS → Prop} {x0 x1 x3 : Option Value}  {st : List Value} {σ : gS} : wp d pr_L Q 752 [x0, x1, some .null, x3] st σ ↔ wp d pr_L Q 753 [x0, x1, some .null, x3] (.null :: st) σ := w_aloadN (k := 2) (n := 1) rfl rfl
set_option maxRecDepth 100000 in
theorem e_L_753 {d : Nat} {Q : Option Value → gS → Prop} {x1 x2 x3 : Option Value} {v : Nat} {st : List Value} {σ : gS} : wp d pr_L Q 753 [some (.ref v), x1, x2, x3] st σ ↔ wp d pr_L Q 754 [some (.ref v), x1, x2, x3] (.ref v :: st) σ := w_aload (k := 0) (n := 1) rfl rfl
set_option maxRecDepth 100000 in
theorem e_L_754 {d : Nat} {Q : Option Value → gS → Prop} {x0 x1 x2 : Option Value} {v : Int32} {st : List Value} {σ : gS} : wp d pr_L Q 754 [x0, x1, x2, some (.int v)] st σ ↔ wp d pr_L Q 755 [x0, x1, x2, some (.int v)] (.int v :: st) σ := w_iload (k := 3) (n := 1) rfl rfl
set_option maxRecDepth 100000 in
theorem e_L_755 {d : Nat} {Q : Option Value → gS → Prop} {x0 x1 x2 x3 : Option Value}  {st : List Value} {σ : gS} : wp d pr_L Q 755 [x0, x1, x2, x3] st σ ↔ wp d pr_L Q 756 [x0, x1, x2, x3] (.int (1) :: st) σ := w_push (n := 1) rfl
set_option maxRecDepth 100000 in
theorem e_L_756 {d : Nat} {Q : Option Value → gS → Prop} {x0 x1 x2 x3 : Option Value} {x y : Int32} {st : List Value} {σ : gS} : wp d pr_L Q 756 [x0, x1, x2, x3] (.int y :: .int x :: st) σ ↔ wp d pr_L Q 757 [x0, x1, x2, x3] (.int (x + y) :: st) σ := w_bI (f := fun x y => x + y) rfl
set_option maxRecDepth 100000 in
theorem e_L_757 {d : Nat} {Q : Option Value → gS → Prop} {x0 x1 x2 x3 : Option Value} {i : Int32} {a : Nat} {st : List Value} {σ : gS} : wp d pr_L Q 757 [x0, x1, x2, x3] (.int i :: .ref a :: st) σ ↔ ((gK σ a = 21 ∨ gK σ a = 26) ∧ ¬ i < 0 ∧ i.toNatClampNeg < gN σ a) ∧ wp d pr_L Q 758 [x0, x1, x2, x3] (.int (gI σ a i.toNatClampNeg) :: st) σ := w_iald rfl
set_option maxRecDepth 100000 in
theorem e_L_758 {d : Nat} {Q : Option Value → gS → Prop} {x0 x1 x2 x3 : Option Value} {v0 : Value} {a : Nat}  {st : List Value} {σ : gS} : wp d pr_L Q 758 [x0, x1, x2, x3] (v0 :: .ref a :: st) σ ↔ (gK σ a = 13 ∧ st.length ≤ 4) ∧ wc d 236 [.ref a, v0] σ (fun r τ => wp d pr_L Q 761 [x0, x1, x2, x3] (r.toList ++ st) τ) := w_callV rfl (by simp) rfl rfl
set_option maxRecDepth 100000 in
theorem e_L_761 {d : Nat} {Q : Option Value → gS → Prop} {x0 x1 x2 x3 : Option Value} {x y : Int32} {st : List Value} {σ : gS} : wp d pr_L Q 761 [x0, x1, x2, x3] (.int y :: .int x :: st) σ ↔ ((x = y) → wp d pr_L Q 1495 [x0, x1, x2, x3] (st) σ) ∧ (¬ (x = y) → wp d pr_L Q 764 [x0, x1, x2, x3] (st) σ) := w_icmp rfl decide_eq_true_iff
set_option maxRecDepth 100000 in
theorem e_L_764 {d : Nat} {Q : Option Value → gS → Prop} {x0 x1 x2 x3 : Option Value}  {st : List Value} {σ : gS} : wp d pr_L Q 764 [x0, x1, x2, x3] st σ ↔ wp d pr_L Q 765 [x0, x1, x2, x3] (.int (0) :: st) σ := w_push (n := 1) rfl
set_option maxRecDepth 100000 in
theorem e_L_765 {d : Nat} {Q : Option Value → gS → Prop} {x0 x1 x2 x3 : Option Value} {v : Int32} {σ : gS} : wp d pr_L Q 765 [x0, x1, x2, x3] [.int v] σ ↔ (v = 0 ∨ v = 1) ∧ Q (some (.int v)) σ := w_zret rfl
set_option maxRecDepth 100000 in
theorem e_L_766 {d : Nat} {Q : Option Value → gS → Prop} {x0 x2 x3 : Option Value} {v : Nat} {st : List Value} {σ : gS} : wp d pr_L Q 766 [x0, some (.ref v), x2, x3] st σ ↔ wp d pr_L Q 767 [x0, some (.ref v), x2, x3] (.ref v :: st) σ := w_aload (k := 1) (n := 1) rfl rfl
set_option maxRecDepth 100000 in
theorem e_L_766n {d : Nat} {Q : Option Value → gS → Prop} {x0 x2 x3 : Option Value}  {st : List Value} {σ : gS} : wp d pr_L Q 766 [x0, some .null, x2, x3] st σ ↔ wp d pr_L Q 767 [x0, some .null, x2, x3] (.null :: st) σ := w_aloadN (k := 1) (n := 1) rfl rfl
set_option maxRecDepth 100000 in
theorem e_L_767 {d : Nat} {Q : Option Value → gS → Prop} {x1 x2 x3 : Option Value} {v : Nat} {st : List Value} {σ : gS} : wp d pr_L Q 767 [some (.ref v), x1, x2, x3] st σ ↔ wp d pr_L Q 768 [some (.ref v), x1, x2, x3] (.ref v :: st) σ := w_aload (k := 0) (n := 1) rfl rfl
set_option maxRecDepth 100000 in
theorem e_L_768 {d : Nat} {Q : Option Value → gS → Prop} {x0 x1 x2 : Option Value} {v : Int32} {st : List Value} {σ : gS} : wp d pr_L Q 768 [x0, x1, x2, some (.int v)] st σ ↔ wp d pr_L Q 769 [x0, x1, x2, some (.int v)] (.int v :: st) σ := w_iload (k := 3) (n := 1) rfl rfl
set_option maxRecDepth 100000 in
theorem e_L_769 {d : Nat} {Q : Option Value → gS → Prop} {x0 x1 x2 x3 : Option Value}  {st : List Value} {σ : gS} : wp d pr_L Q 769 [x0, x1, x2, x3] st σ ↔ wp d pr_L Q 770 [x0, x1, x2, x3] (.int (1) :: st) σ := w_push (n := 1) rfl
set_option maxRecDepth 100000 in
theorem e_L_770 {d : Nat} {Q : Option Value → gS → Prop} {x0 x1 x2 x3 : Option Value} {x y : Int32} {st : List Value} {σ : gS} : wp d pr_L Q 770 [x0, x1, x2, x3] (.int y :: .int x :: st) σ ↔ wp d pr_L Q 771 [x0, x1, x2, x3] (.int (x + y) :: st) σ := w_bI (f := fun x y => x + y) rfl
set_option maxRecDepth 100000 in
theorem e_L_771 {d : Nat} {Q : Option Value → gS → Prop} {x0 x1 x2 x3 : Option Value} {i : Int32} {a : Nat} {st : List Value} {σ : gS} : wp d pr_L Q 771 [x0, x1, x2, x3] (.int i :: .ref a :: st) σ ↔ ((gK σ a = 21 ∨ gK σ a = 26) ∧ ¬ i < 0 ∧ i.toNatClampNeg < gN σ a) ∧ wp d pr_L Q 772 [x0, x1, x2, x3] (.int (gI σ a i.toNatClampNeg) :: st) σ := w_iald rfl
set_option maxRecDepth 100000 in
theorem e_L_772 {d : Nat} {Q : Option Value → gS → Prop} {x1 x2 x3 : Option Value} {v : Nat} {st : List Value} {σ : gS} : wp d pr_L Q 772 [some (.ref v), x1, x2, x3] st σ ↔ wp d pr_L Q 773 [some (.ref v), x1, x2, x3] (.ref v :: st) σ := w_aload (k := 0) (n := 1) rfl rfl
set_option maxRecDepth 100000 in
theorem e_L_773 {d : Nat} {Q : Option Value → gS → Prop} {x0 x1 x2 : Option Value} {v : Int32} {st : List Value} {σ : gS} : wp d pr_L Q 773 [x0, x1, x2, some (.int v)] st σ ↔ wp d pr_L Q 774 [x0, x1, x2, some (.int v)] (.int v :: st) σ := w_iload (k := 3) (n := 1) rfl rfl
set_option maxRecDepth 100000 in
theorem e_L_774 {d : Nat} {Q : Option Value → gS → Prop} {x0 x1 x2 x3 : Option Value}  {st : List Value} {σ : gS} : wp d pr_L Q 774 [x0, x1, x2, x3] st σ ↔ wp d pr_L Q 775 [x0, x1, x2, x3] (.int (2) :: st) σ := w_push (n := 1) rfl
set_option maxRecDepth 100000 in
theorem e_L_775 {d : Nat} {Q : Option Value → gS → Prop} {x0 x1 x2 x3 : Option Value} {x y : Int32} {st : List Value} {σ : gS} : wp d pr_L Q 775 [x0, x1, x2, x3] (.int y :: .int x :: st) σ ↔ wp d pr_L Q 776 [x0, x1, x2, x3] (.int (x + y) :: st) σ := w_bI (f := fun x y => x + y) rfl
set_option maxRecDepth 100000 in
theorem e_L_776 {d : Nat} {Q : Option Value → gS → Prop} {x0 x1 x2 x3 : Option Value} {i : Int32} {a : Nat} {st : List Value} {σ : gS} : wp d pr_L Q 776 [x0, x1, x2, x3] (.int i :: .ref a :: st) σ ↔ ((gK σ a = 21 ∨ gK σ a = 26) ∧ ¬ i < 0 ∧ i.toNatClampNeg < gN σ a) ∧ wp d pr_L Q 777 [x0, x1, x2, x3] (.int (gI σ a i.toNatClampNeg) :: st) σ := w_iald rfl
set_option maxRecDepth 100000 in
theorem e_L_777 {d : Nat} {Q : Option Value → gS → Prop} {x1 x2 x3 : Option Value} {v : Nat} {st : List Value} {σ : gS} : wp d pr_L Q 777 [some (.ref v), x1, x2, x3] st σ ↔ wp d pr_L Q 778 [some (.ref v), x1, x2, x3] (.ref v :: st) σ := w_aload (k := 0) (n := 1) rfl rfl
set_option maxRecDepth 100000 in
theorem e_L_778 {d : Nat} {Q : Option Value → gS → Prop} {x0 x1 x2 : Option Value} {v : Int32} {st : List Value} {σ : gS} : wp d pr_L Q 778 [x0, x1, x2, some (.int v)] st σ ↔ wp d pr_L Q 779 [x0, x1, x2, some (.int v)] (.int v :: st) σ := w_iload (k := 3) (n := 1) rfl rfl
set_option maxRecDepth 100000 in
theorem e_L_779 {d : Nat} {Q : Option Value → gS → Prop} {x0 x1 x2 x3 : Option Value}  {st : List Value} {σ : gS} : wp d pr_L Q 779 [x0, x1, x2, x3] st σ ↔ wp d pr_L Q 780 [x0, x1, x2, x3] (.int (3) :: st) σ := w_push (n := 1) rfl
set_option maxRecDepth 100000 in
theorem e_L_780 {d : Nat} {Q : Option Value → gS → Prop} {x0 x1 x2 x3 : Option Value} {x y : Int32} {st : List Value} {σ : gS} : wp d pr_L Q 780 [x0, x1, x2, x3] (.int y :: .int x :: st) σ ↔ wp d pr_L Q 781 [x0, x1, x2, x3] (.int (x + y) :: st) σ := w_bI (f := fun x y => x + y) rfl
set_option maxRecDepth 100000 in
theorem e_L_781 {d : Nat} {Q : Option Value → gS → Prop} {x0 x1 x2 x3 : Option Value} {i : Int32} {a : Nat} {st : List Value} {σ : gS} : wp d pr_L Q 781 [x0, x1, x2, x3] (.int i :: .ref a :: st) σ ↔ ((gK σ a = 21 ∨ gK σ a = 26) ∧ ¬ i < 0 ∧ i.toNatClampNeg < gN σ a) ∧ wp d pr_L Q 782 [x0, x1, x2, x3] (.int (gI σ a i.toNatClampNeg) :: st) σ := w_iald rfl
set_option maxRecDepth 100000 in
theorem e_L_782 {d : Nat} {Q : Option Value → gS → Prop} {x0 x1 x2 x3 : Option Value} {v0 v1 v2 : Value} {a : Nat}  {st : List Value} {σ : gS} : wp d pr_L Q 782 [x0, x1, x2, x3] (v2 :: v1 :: v0 :: .ref a :: st) σ ↔ (gK σ a = 12 ∧ st.length ≤ 4) ∧ wc d 132 [.ref a, v0, v1, v2] σ (fun r τ => wp d pr_L Q 785 [x0, x1, x2, x3] (r.toList ++ st) τ) := w_callV rfl (by simp) rfl rfl
set_option maxRecDepth 100000 in
theorem e_L_785 {d : Nat} {Q : Option Value → gS → Prop} {x0 x1 x3 : Option Value} {v : Nat} {st : List Value} {σ : gS} : wp d pr_L Q 785 [x0, x1, some (.ref v), x3] st σ ↔ wp d pr_L Q 786 [x0, x1, some (.ref v), x3] (.ref v :: st) σ := w_aload (k := 2) (n := 1) rfl rfl
set_option maxRecDepth 100000 in
theorem e_L_785n {d : Nat} {Q : Option Value → gS → Prop} {x0 x1 x3 : Option Value}  {st : List Value} {σ : gS} : wp d pr_L Q 785 [x0, x1, some .null, x3] st σ ↔ wp d pr_L Q 786 [x0, x1, some .null, x3] (.null :: st) σ := w_aloadN (k := 2) (n := 1) rfl rfl
set_option maxRecDepth 100000 in
theorem e_L_786 {d : Nat} {Q : Option Value → gS → Prop} {x1 x2 x3 : Option Value} {v : Nat} {st : List Value} {σ : gS} : wp d pr_L Q 786 [some (.ref v), x1, x2, x3] st σ ↔ wp d pr_L Q 787 [some (.ref v), x1, x2, x3] (.ref v :: st) σ := w_aload (k := 0) (n := 1) rfl rfl
set_option maxRecDepth 100000 in
theorem e_L_787 {d : Nat} {Q : Option Value → gS → Prop} {x0 x1 x2 : Option Value} {v : Int32} {st : List Value} {σ : gS} : wp d pr_L Q 787 [x0, x1, x2, some (.int v)] st σ ↔ wp d pr_L Q 788 [x0, x1, x2, some (.int v)] (.int v :: st) σ := w_iload (k := 3) (n := 1) rfl rfl
set_option maxRecDepth 100000 in
theorem e_L_788 {d : Nat} {Q : Option Value → gS → Prop} {x0 x1 x2 x3 : Option Value}  {st : List Value} {σ : gS} : wp d pr_L Q 788 [x0, x1, x2, x3] st σ ↔ wp d pr_L Q 789 [x0, x1, x2, x3] (.int (1) :: st) σ := w_push (n := 1) rfl
set_option maxRecDepth 100000 in
theorem e_L_789 {d : Nat} {Q : Option Value → gS → Prop} {x0 x1 x2 x3 : Option Value} {x y : Int32} {st : List Value} {σ : gS} : wp d pr_L Q 789 [x0, x1, x2, x3] (.int y :: .int x :: st) σ ↔ wp d pr_L Q 790 [x0, x1, x2, x3] (.int (x + y) :: st) σ := w_bI (f := fun x y => x + y) rfl
set_option maxRecDepth 100000 in
theorem e_L_790 {d : Nat} {Q : Option Value → gS → Prop} {x0 x1 x2 x3 : Option Value} {i : Int32} {a : Nat} {st : List Value} {σ : gS} : wp d pr_L Q 790 [x0, x1, x2, x3] (.int i :: .ref a :: st) σ ↔ ((gK σ a = 21 ∨ gK σ a = 26) ∧ ¬ i < 0 ∧ i.toNatClampNeg < gN σ a) ∧ wp d pr_L Q 791 [x0, x1, x2, x3] (.int (gI σ a i.toNatClampNeg) :: st) σ := w_iald rfl
set_option maxRecDepth 100000 in
theorem e_L_791 {d : Nat} {Q : Option Value → gS → Prop} {x1 x2 x3 : Option Value} {v : Nat} {st : List Value} {σ : gS} : wp d pr_L Q 791 [some (.ref v), x1, x2, x3] st σ ↔ wp d pr_L Q 792 [some (.ref v), x1, x2, x3] (.ref v :: st) σ := w_aload (k := 0) (n := 1) rfl rfl
set_option maxRecDepth 100000 in
theorem e_L_792 {d : Nat} {Q : Option Value → gS → Prop} {x0 x1 x2 : Option Value} {v : Int32} {st : List Value} {σ : gS} : wp d pr_L Q 792 [x0, x1, x2, some (.int v)] st σ ↔ wp d pr_L Q 793 [x0, x1, x2, some (.int v)] (.int v :: st) σ := w_iload (k := 3) (n := 1) rfl rfl
set_option maxRecDepth 100000 in
theorem e_L_793 {d : Nat} {Q : Option Value → gS → Prop} {x0 x1 x2 x3 : Option Value}  {st : List Value} {σ : gS} : wp d pr_L Q 793 [x0, x1, x2, x3] st σ ↔ wp d pr_L Q 794 [x0, x1, x2, x3] (.int (2) :: st) σ := w_push (n := 1) rfl
set_option maxRecDepth 100000 in
theorem e_L_794 {d : Nat} {Q : Option Value → gS → Prop} {x0 x1 x2 x3 : Option Value} {x y : Int32} {st : List Value} {σ : gS} : wp d pr_L Q 794 [x0, x1, x2, x3] (.int y :: .int x :: st) σ ↔ wp d pr_L Q 795 [x0, x1, x2, x3] (.int (x + y) :: st) σ := w_bI (f := fun x y => x + y) rfl
set_option maxRecDepth 100000 in
theorem e_L_795 {d : Nat} {Q : Option Value → gS → Prop} {x0 x1 x2 x3 : Option Value} {i : Int32} {a : Nat} {st : List Value} {σ : gS} : wp d pr_L Q 795 [x0, x1, x2, x3] (.int i :: .ref a :: st) σ ↔ ((gK σ a = 21 ∨ gK σ a = 26) ∧ ¬ i < 0 ∧ i.toNatClampNeg < gN σ a) ∧ wp d pr_L Q 796 [x0, x1, x2, x3] (.int (gI σ a i.toNatClampNeg) :: st) σ := w_iald rfl
set_option maxRecDepth 100000 in
theorem e_L_796 {d : Nat} {Q : Option Value → gS → Prop} {x1 x2 x3 : Option Value} {v : Nat} {st : List Value} {σ : gS} : wp d pr_L Q 796 [some (.ref v), x1, x2, x3] st σ ↔ wp d pr_L Q 797 [some (.ref v), x1, x2, x3] (.ref v :: st) σ := w_aload (k := 0) (n := 1) rfl rfl
set_option maxRecDepth 100000 in
theorem e_L_797 {d : Nat} {Q : Option Value → gS → Prop} {x0 x1 x2 : Option Value} {v : Int32} {st : List Value} {σ : gS} : wp d pr_L Q 797 [x0, x1, x2, some (.int v)] st σ ↔ wp d pr_L Q 798 [x0, x1, x2, some (.int v)] (.int v :: st) σ := w_iload (k := 3) (n := 1) rfl rfl
set_option maxRecDepth 100000 in
theorem e_L_798 {d : Nat} {Q : Option Value → gS → Prop} {x0 x1 x2 x3 : Option Value}  {st : List Value} {σ : gS} : wp d pr_L Q 798 [x0, x1, x2, x3] st σ ↔ wp d pr_L Q 799 [x0, x1, x2, x3] (.int (3) :: st) σ := w_push (n := 1) rfl
set_option maxRecDepth 100000 in
theorem e_L_799 {d : Nat} {Q : Option Value → gS → Prop} {x0 x1 x2 x3 : Option Value} {x y : Int32} {st : List Value} {σ : gS} : wp d pr_L Q 799 [x0, x1, x2, x3] (.int y :: .int x :: st) σ ↔ wp d pr_L Q 800 [x0, x1, x2, x3] (.int (x + y) :: st) σ := w_bI (f := fun x y => x + y) rfl
set_option maxRecDepth 100000 in
theorem e_L_800 {d : Nat} {Q : Option Value → gS → Prop} {x0 x1 x2 x3 : Option Value} {i : Int32} {a : Nat} {st : List Value} {σ : gS} : wp d pr_L Q 800 [x0, x1, x2, x3] (.int i :: .ref a :: st) σ ↔ ((gK σ a = 21 ∨ gK σ a = 26) ∧ ¬ i < 0 ∧ i.toNatClampNeg < gN σ a) ∧ wp d pr_L Q 801 [x0, x1, x2, x3] (.int (gI σ a i.toNatClampNeg) :: st) σ := w_iald rfl
set_option maxRecDepth 100000 in
theorem e_L_801 {d : Nat} {Q : Option Value → gS → Prop} {x0 x1 x2 x3 : Option Value} {v0 v1 v2 : Value} {a : Nat}  {st : List Value} {σ : gS} : wp d pr_L Q 801 [x0, x1, x2, x3] (v2 :: v1 :: v0 :: .ref a :: st) σ ↔ (gK σ a = 13 ∧ st.length ≤ 4) ∧ wc d 243 [.ref a, v0, v1, v2] σ (fun r τ => wp d pr_L Q 804 [x0, x1, x2, x3] (r.toList ++ st) τ) := w_callV rfl (by simp) rfl rfl
set_option maxRecDepth 100000 in
theorem e_L_804 {d : Nat} {Q : Option Value → gS → Prop} {x0 x1 x2 x3 : Option Value} {x y : Int32} {st : List Value} {σ : gS} : wp d pr_L Q 804 [x0, x1, x2, x3] (.int y :: .int x :: st) σ ↔ ((x = y) → wp d pr_L Q 1495 [x0, x1, x2, x3] (st) σ) ∧ (¬ (x = y) → wp d pr_L Q 807 [x0, x1, x2, x3] (st) σ) := w_icmp rfl decide_eq_true_iff
set_option maxRecDepth 100000 in
theorem e_L_807 {d : Nat} {Q : Option Value → gS → Prop} {x0 x1 x2 x3 : Option Value}  {st : List Value} {σ : gS} : wp d pr_L Q 807 [x0, x1, x2, x3] st σ ↔ wp d pr_L Q 808 [x0, x1, x2, x3] (.int (0) :: st) σ := w_push (n := 1) rfl
set_option maxRecDepth 100000 in
theorem e_L_808 {d : Nat} {Q : Option Value → gS → Prop} {x0 x1 x2 x3 : Option Value} {v : Int32} {σ : gS} : wp d pr_L Q 808 [x0, x1, x2, x3] [.int v] σ ↔ (v = 0 ∨ v = 1) ∧ Q (some (.int v)) σ := w_zret rfl
set_option maxRecDepth 100000 in
theorem e_L_809 {d : Nat} {Q : Option Value → gS → Prop} {x0 x2 x3 : Option Value} {v : Nat} {st : List Value} {σ : gS} : wp d pr_L Q 809 [x0, some (.ref v), x2, x3] st σ ↔ wp d pr_L Q 810 [x0, some (.ref v), x2, x3] (.ref v :: st) σ := w_aload (k := 1) (n := 1) rfl rfl
set_option maxRecDepth 100000 in
theorem e_L_809n {d : Nat} {Q : Option Value → gS → Prop} {x0 x2 x3 : Option Value}  {st : List Value} {σ : gS} : wp d pr_L Q 809 [x0, some .null, x2, x3] st σ ↔ wp d pr_L Q 810 [x0, some .null, x2, x3] (.null :: st) σ := w_aloadN (k := 1) (n := 1) rfl rfl
set_option maxRecDepth 100000 in
theorem e_L_810 {d : Nat} {Q : Option Value → gS → Prop} {x1 x2 x3 : Option Value} {v : Nat} {st : List Value} {σ : gS} : wp d pr_L Q 810 [some (.ref v), x1, x2, x3] st σ ↔ wp d pr_L Q 811 [some (.ref v), x1, x2, x3] (.ref v :: st) σ := w_aload (k := 0) (n := 1) rfl rfl
set_option maxRecDepth 100000 in
theorem e_L_811 {d : Nat} {Q : Option Value → gS → Prop} {x0 x1 x2 : Option Value} {v : Int32} {st : List Value} {σ : gS} : wp d pr_L Q 811 [x0, x1, x2, some (.int v)] st σ ↔ wp d pr_L Q 812 [x0, x1, x2, some (.int v)] (.int v :: st) σ := w_iload (k := 3) (n := 1) rfl rfl
set_option maxRecDepth 100000 in
theorem e_L_812 {d : Nat} {Q : Option Value → gS → Prop} {x0 x1 x2 x3 : Option Value}  {st : List Value} {σ : gS} : wp d pr_L Q 812 [x0, x1, x2, x3] st σ ↔ wp d pr_L Q 813 [x0, x1, x2, x3] (.int (1) :: st) σ := w_push (n := 1) rfl
set_option maxRecDepth 100000 in
theorem e_L_813 {d : Nat} {Q : Option Value → gS → Prop} {x0 x1 x2 x3 : Option Value} {x y : Int32} {st : List Value} {σ : gS} : wp d pr_L Q 813 [x0, x1, x2, x3] (.int y :: .int x :: st) σ ↔ wp d pr_L Q 814 [x0, x1, x2, x3] (.int (x + y) :: st) σ := w_bI (f := fun x y => x + y) rfl
set_option maxRecDepth 100000 in
theorem e_L_814 {d : Nat} {Q : Option Value → gS → Prop} {x0 x1 x2 x3 : Option Value} {i : Int32} {a : Nat} {st : List Value} {σ : gS} : wp d pr_L Q 814 [x0, x1, x2, x3] (.int i :: .ref a :: st) σ ↔ ((gK σ a = 21 ∨ gK σ a = 26) ∧ ¬ i < 0 ∧ i.toNatClampNeg < gN σ a) ∧ wp d pr_L Q 815 [x0, x1, x2, x3] (.int (gI σ a i.toNatClampNeg) :: st) σ := w_iald rfl
set_option maxRecDepth 100000 in
theorem e_L_815 {d : Nat} {Q : Option Value → gS → Prop} {x1 x2 x3 : Option Value} {v : Nat} {st : List Value} {σ : gS} : wp d pr_L Q 815 [some (.ref v), x1, x2, x3] st σ ↔ wp d pr_L Q 816 [some (.ref v), x1, x2, x3] (.ref v :: st) σ := w_aload (k := 0) (n := 1) rfl rfl
set_option maxRecDepth 100000 in
theorem e_L_816 {d : Nat} {Q : Option Value → gS → Prop} {x0 x1 x2 : Option Value} {v : Int32} {st : List Value} {σ : gS} : wp d pr_L Q 816 [x0, x1, x2, some (.int v)] st σ ↔ wp d pr_L Q 817 [x0, x1, x2, some (.int v)] (.int v :: st) σ := w_iload (k := 3) (n := 1) rfl rfl
set_option maxRecDepth 100000 in
theorem e_L_817 {d : Nat} {Q : Option Value → gS → Prop} {x0 x1 x2 x3 : Option Value}  {st : List Value} {σ : gS} : wp d pr_L Q 817 [x0, x1, x2, x3] st σ ↔ wp d pr_L Q 818 [x0, x1, x2, x3] (.int (2) :: st) σ := w_push (n := 1) rfl
set_option maxRecDepth 100000 in
theorem e_L_818 {d : Nat} {Q : Option Value → gS → Prop} {x0 x1 x2 x3 : Option Value} {x y : Int32} {st : List Value} {σ : gS} : wp d pr_L Q 818 [x0, x1, x2, x3] (.int y :: .int x :: st) σ ↔ wp d pr_L Q 819 [x0, x1, x2, x3] (.int (x + y) :: st) σ := w_bI (f := fun x y => x + y) rfl
set_option maxRecDepth 100000 in
theorem e_L_819 {d : Nat} {Q : Option Value → gS → Prop} {x0 x1 x2 x3 : Option Value} {i : Int32} {a : Nat} {st : List Value} {σ : gS} : wp d pr_L Q 819 [x0, x1, x2, x3] (.int i :: .ref a :: st) σ ↔ ((gK σ a = 21 ∨ gK σ a = 26) ∧ ¬ i < 0 ∧ i.toNatClampNeg < gN σ a) ∧ wp d pr_L Q 820 [x0, x1, x2, x3] (.int (gI σ a i.toNatClampNeg) :: st) σ := w_iald rfl
set_option maxRecDepth 100000 in
theorem e_L_820 {d : Nat} {Q : Option Value → gS → Prop} {x1 x2 x3 : Option Value} {v : Nat} {st : List Value} {σ : gS} : wp d pr_L Q 820 [some (.ref v), x1, x2, x3] st σ ↔ wp d pr_L Q 821 [some (.ref v), x1, x2, x3] (.ref v :: st) σ := w_aload (k := 0) (n := 1) rfl rfl
set_option maxRecDepth 100000 in
theorem e_L_821 {d : Nat} {Q : Option Value → gS → Prop} {x0 x1 x2 : Option Value} {v : Int32} {st : List Value} {σ : gS} : wp d pr_L Q 821 [x0, x1, x2, some (.int v)] st σ ↔ wp d pr_L Q 822 [x0, x1, x2, some (.int v)] (.int v :: st) σ := w_iload (k := 3) (n := 1) rfl rfl
set_option maxRecDepth 100000 in
theorem e_L_822 {d : Nat} {Q : Option Value → gS → Prop} {x0 x1 x2 x3 : Option Value}  {st : List Value} {σ : gS} : wp d pr_L Q 822 [x0, x1, x2, x3] st σ ↔ wp d pr_L Q 823 [x0, x1, x2, x3] (.int (3) :: st) σ := w_push (n := 1) rfl
set_option maxRecDepth 100000 in
theorem e_L_823 {d : Nat} {Q : Option Value → gS → Prop} {x0 x1 x2 x3 : Option Value} {x y : Int32} {st : List Value} {σ : gS} : wp d pr_L Q 823 [x0, x1, x2, x3] (.int y :: .int x :: st) σ ↔ wp d pr_L Q 824 [x0, x1, x2, x3] (.int (x + y) :: st) σ := w_bI (f := fun x y => x + y) rfl
set_option maxRecDepth 100000 in
theorem e_L_824 {d : Nat} {Q : Option Value → gS → Prop} {x0 x1 x2 x3 : Option Value} {i : Int32} {a : Nat} {st : List Value} {σ : gS} : wp d pr_L Q 824 [x0, x1, x2, x3] (.int i :: .ref a :: st) σ ↔ ((gK σ a = 21 ∨ gK σ a = 26) ∧ ¬ i < 0 ∧ i.toNatClampNeg < gN σ a) ∧ wp d pr_L Q 825 [x0, x1, x2, x3] (.int (gI σ a i.toNatClampNeg) :: st) σ := w_iald rfl
set_option maxRecDepth 100000 in
theorem e_L_825 {d : Nat} {Q : Option Value → gS → Prop} {x0 x1 x2 x3 : Option Value} {v0 v1 v2 : Value} {a : Nat}  {st : List Value} {σ : gS} : wp d pr_L Q 825 [x0, x1, x2, x3] (v2 :: v1 :: v0 :: .ref a :: st) σ ↔ (gK σ a = 12 ∧ st.length ≤ 4) ∧ wc d 133 [.ref a, v0, v1, v2] σ (fun r τ => wp d pr_L Q 828 [x0, x1, x2, x3] (r.toList ++ st) τ) := w_callV rfl (by simp) rfl rfl
set_option maxRecDepth 100000 in
theorem e_L_828 {d : Nat} {Q : Option Value → gS → Prop} {x0 x1 x3 : Option Value} {v : Nat} {st : List Value} {σ : gS} : wp d pr_L Q 828 [x0, x1, some (.ref v), x3] st σ ↔ wp d pr_L Q 829 [x0, x1, some (.ref v), x3] (.ref v :: st) σ := w_aload (k := 2) (n := 1) rfl rfl
set_option maxRecDepth 100000 in
theorem e_L_828n {d : Nat} {Q : Option Value → gS → Prop} {x0 x1 x3 : Option Value}  {st : List Value} {σ : gS} : wp d pr_L Q 828 [x0, x1, some .null, x3] st σ ↔ wp d pr_L Q 829 [x0, x1, some .null, x3] (.null :: st) σ := w_aloadN (k := 2) (n := 1) rfl rfl
set_option maxRecDepth 100000 in
theorem e_L_829 {d : Nat} {Q : Option Value → gS → Prop} {x1 x2 x3 : Option Value} {v : Nat} {st : List Value} {σ : gS} : wp d pr_L Q 829 [some (.ref v), x1, x2, x3] st σ ↔ wp d pr_L Q 830 [some (.ref v), x1, x2, x3] (.ref v :: st) σ := w_aload (k := 0) (n := 1) rfl rfl
set_option maxRecDepth 100000 in
theorem e_L_830 {d : Nat} {Q : Option Value → gS → Prop} {x0 x1 x2 : Option Value} {v : Int32} {st : List Value} {σ : gS} : wp d pr_L Q 830 [x0, x1, x2, some (.int v)] st σ ↔ wp d pr_L Q 831 [x0, x1, x2, some (.int v)] (.int v :: st) σ := w_iload (k := 3) (n := 1) rfl rfl
set_option maxRecDepth 100000 in
theorem e_L_831 {d : Nat} {Q : Option Value → gS → Prop} {x0 x1 x2 x3 : Option Value}  {st : List Value} {σ : gS} : wp d pr_L Q 831 [x0, x1, x2, x3] st σ ↔ wp d pr_L Q 832 [x0, x1, x2, x3] (.int (1) :: st) σ := w_push (n := 1) rfl
set_option maxRecDepth 100000 in
theorem e_L_832 {d : Nat} {Q : Option Value → gS → Prop} {x0 x1 x2 x3 : Option Value} {x y : Int32} {st : List Value} {σ : gS} : wp d pr_L Q 832 [x0, x1, x2, x3] (.int y :: .int x :: st) σ ↔ wp d pr_L Q 833 [x0, x1, x2, x3] (.int (x + y) :: st) σ := w_bI (f := fun x y => x + y) rfl
set_option maxRecDepth 100000 in
theorem e_L_833 {d : Nat} {Q : Option Value → gS → Prop} {x0 x1 x2 x3 : Option Value} {i : Int32} {a : Nat} {st : List Value} {σ : gS} : wp d pr_L Q 833 [x0, x1, x2, x3] (.int i :: .ref a :: st) σ ↔ ((gK σ a = 21 ∨ gK σ a = 26) ∧ ¬ i < 0 ∧ i.toNatClampNeg < gN σ a) ∧ wp d pr_L Q 834 [x0, x1, x2, x3] (.int (gI σ a i.toNatClampNeg) :: st) σ := w_iald rfl
set_option maxRecDepth 100000 in
theorem e_L_834 {d : Nat} {Q : Option Value → gS → Prop} {x1 x2 x3 : Option Value} {v : Nat} {st : List Value} {σ : gS} : wp d pr_L Q 834 [some (.ref v), x1, x2, x3] st σ ↔ wp d pr_L Q 835 [some (.ref v), x1, x2, x3] (.ref v :: st) σ := w_aload (k := 0) (n := 1) rfl rfl
set_option maxRecDepth 100000 in
theorem e_L_835 {d : Nat} {Q : Option Value → gS → Prop} {x0 x1 x2 : Option Value} {v : Int32} {st : List Value} {σ : gS} : wp d pr_L Q 835 [x0, x1, x2, some (.int v)] st σ ↔ wp d pr_L Q 836 [x0, x1, x2, some (.int v)] (.int v :: st) σ := w_iload (k := 3) (n := 1) rfl rfl
set_option maxRecDepth 100000 in
theorem e_L_836 {d : Nat} {Q : Option Value → gS → Prop} {x0 x1 x2 x3 : Option Value}  {st : List Value} {σ : gS} : wp d pr_L Q 836 [x0, x1, x2, x3] st σ ↔ wp d pr_L Q 837 [x0, x1, x2, x3] (.int (2) :: st) σ := w_push (n := 1) rfl
set_option maxRecDepth 100000 in
theorem e_L_837 {d : Nat} {Q : Option Value → gS → Prop} {x0 x1 x2 x3 : Option Value} {x y : Int32} {st : List Value} {σ : gS} : wp d pr_L Q 837 [x0, x1, x2, x3] (.int y :: .int x :: st) σ ↔ wp d pr_L Q 838 [x0, x1, x2, x3] (.int (x + y) :: st) σ := w_bI (f := fun x y => x + y) rfl
set_option maxRecDepth 100000 in
theorem e_L_838 {d : Nat} {Q : Option Value → gS → Prop} {x0 x1 x2 x3 : Option Value} {i : Int32} {a : Nat} {st : List Value} {σ : gS} : wp d pr_L Q 838 [x0, x1, x2, x3] (.int i :: .ref a :: st) σ ↔ ((gK σ a = 21 ∨ gK σ a = 26) ∧ ¬ i < 0 ∧ i.toNatClampNeg < gN σ a) ∧ wp d pr_L Q 839 [x0, x1, x2, x3] (.int (gI σ a i.toNatClampNeg) :: st) σ := w_iald rfl
set_option maxRecDepth 100000 in
theorem e_L_839 {d : Nat} {Q : Option Value → gS → Prop} {x1 x2 x3 : Option Value} {v : Nat} {st : List Value} {σ : gS} : wp d pr_L Q 839 [some (.ref v), x1, x2, x3] st σ ↔ wp d pr_L Q 840 [some (.ref v), x1, x2, x3] (.ref v :: st) σ := w_aload (k := 0) (n := 1) rfl rfl
set_option maxRecDepth 100000 in
theorem e_L_840 {d : Nat} {Q : Option Value → gS → Prop} {x0 x1 x2 : Option Value} {v : Int32} {st : List Value} {σ : gS} : wp d pr_L Q 840 [x0, x1, x2, some (.int v)] st σ ↔ wp d pr_L Q 841 [x0, x1, x2, some (.int v)] (.int v :: st) σ := w_iload (k := 3) (n := 1) rfl rfl
set_option maxRecDepth 100000 in
theorem e_L_841 {d : Nat} {Q : Option Value → gS → Prop} {x0 x1 x2 x3 : Option Value}  {st : List Value} {σ : gS} : wp d pr_L Q 841 [x0, x1, x2, x3] st σ ↔ wp d pr_L Q 842 [x0, x1, x2, x3] (.int (3) :: st) σ := w_push (n := 1) rfl
set_option maxRecDepth 100000 in
theorem e_L_842 {d : Nat} {Q : Option Value → gS → Prop} {x0 x1 x2 x3 : Option Value} {x y : Int32} {st : List Value} {σ : gS} : wp d pr_L Q 842 [x0, x1, x2, x3] (.int y :: .int x :: st) σ ↔ wp d pr_L Q 843 [x0, x1, x2, x3] (.int (x + y) :: st) σ := w_bI (f := fun x y => x + y) rfl
set_option maxRecDepth 100000 in
theorem e_L_843 {d : Nat} {Q : Option Value → gS → Prop} {x0 x1 x2 x3 : Option Value} {i : Int32} {a : Nat} {st : List Value} {σ : gS} : wp d pr_L Q 843 [x0, x1, x2, x3] (.int i :: .ref a :: st) σ ↔ ((gK σ a = 21 ∨ gK σ a = 26) ∧ ¬ i < 0 ∧ i.toNatClampNeg < gN σ a) ∧ wp d pr_L Q 844 [x0, x1, x2, x3] (.int (gI σ a i.toNatClampNeg) :: st) σ := w_iald rfl
set_option maxRecDepth 100000 in
theorem e_L_844 {d : Nat} {Q : Option Value → gS → Prop} {x0 x1 x2 x3 : Option Value} {v0 v1 v2 : Value} {a : Nat}  {st : List Value} {σ : gS} : wp d pr_L Q 844 [x0, x1, x2, x3] (v2 :: v1 :: v0 :: .ref a :: st) σ ↔ (gK σ a = 13 ∧ st.length ≤ 4) ∧ wc d 244 [.ref a, v0, v1, v2] σ (fun r τ => wp d pr_L Q 847 [x0, x1, x2, x3] (r.toList ++ st) τ) := w_callV rfl (by simp) rfl rfl
set_option maxRecDepth 100000 in
theorem e_L_847 {d : Nat} {Q : Option Value → gS → Prop} {x0 x1 x2 x3 : Option Value} {x y : Int32} {st : List Value} {σ : gS} : wp d pr_L Q 847 [x0, x1, x2, x3] (.int y :: .int x :: st) σ ↔ ((x = y) → wp d pr_L Q 1495 [x0, x1, x2, x3] (st) σ) ∧ (¬ (x = y) → wp d pr_L Q 850 [x0, x1, x2, x3] (st) σ) := w_icmp rfl decide_eq_true_iff
set_option maxRecDepth 100000 in
theorem e_L_850 {d : Nat} {Q : Option Value → gS → Prop} {x0 x1 x2 x3 : Option Value}  {st : List Value} {σ : gS} : wp d pr_L Q 850 [x0, x1, x2, x3] st σ ↔ wp d pr_L Q 851 [x0, x1, x2, x3] (.int (0) :: st) σ := w_push (n := 1) rfl
set_option maxRecDepth 100000 in
theorem e_L_851 {d : Nat} {Q : Option Value → gS → Prop} {x0 x1 x2 x3 : Option Value} {v : Int32} {σ : gS} : wp d pr_L Q 851 [x0, x1, x2, x3] [.int v] σ ↔ (v = 0 ∨ v = 1) ∧ Q (some (.int v)) σ := w_zret rfl
set_option maxRecDepth 100000 in
theorem e_L_852 {d : Nat} {Q : Option Value → gS → Prop} {x0 x2 x3 : Option Value} {v : Nat} {st : List Value} {σ : gS} : wp d pr_L Q 852 [x0, some (.ref v), x2, x3] st σ ↔ wp d pr_L Q 853 [x0, some (.ref v), x2, x3] (.ref v :: st) σ := w_aload (k := 1) (n := 1) rfl rfl
set_option maxRecDepth 100000 in
theorem e_L_852n {d : Nat} {Q : Option Value → gS → Prop} {x0 x2 x3 : Option Value}  {st : List Value} {σ : gS} : wp d pr_L Q 852 [x0, some .null, x2, x3] st σ ↔ wp d pr_L Q 853 [x0, some .null, x2, x3] (.null :: st) σ := w_aloadN (k := 1) (n := 1) rfl rfl
set_option maxRecDepth 100000 in
theorem e_L_853 {d : Nat} {Q : Option Value → gS → Prop} {x1 x2 x3 : Option Value} {v : Nat} {st : List Value} {σ : gS} : wp d pr_L Q 853 [some (.ref v), x1, x2, x3] st σ ↔ wp d pr_L Q 854 [some (.ref v), x1, x2, x3] (.ref v :: st) σ := w_aload (k := 0) (n := 1) rfl rfl
set_option maxRecDepth 100000 in
theorem e_L_854 {d : Nat} {Q : Option Value → gS → Prop} {x0 x1 x2 : Option Value} {v : Int32} {st : List Value} {σ : gS} : wp d pr_L Q 854 [x0, x1, x2, some (.int v)] st σ ↔ wp d pr_L Q 855 [x0, x1, x2, some (.int v)] (.int v :: st) σ := w_iload (k := 3) (n := 1) rfl rfl
set_option maxRecDepth 100000 in
theorem e_L_855 {d : Nat} {Q : Option Value → gS → Prop} {x0 x1 x2 x3 : Option Value}  {st : List Value} {σ : gS} : wp d pr_L Q 855 [x0, x1, x2, x3] st σ ↔ wp d pr_L Q 856 [x0, x1, x2, x3] (.int (1) :: st) σ := w_push (n := 1) rfl
set_option maxRecDepth 100000 in
theorem e_L_856 {d : Nat} {Q : Option Value → gS → Prop} {x0 x1 x2 x3 : Option Value} {x y : Int32} {st : List Value} {σ : gS} : wp d pr_L Q 856 [x0, x1, x2, x3] (.int y :: .int x :: st) σ ↔ wp d pr_L Q 857 [x0, x1, x2, x3] (.int (x + y) :: st) σ := w_bI (f := fun x y => x + y) rfl
set_option maxRecDepth 100000 in
theorem e_L_857 {d : Nat} {Q : Option Value → gS → Prop} {x0 x1 x2 x3 : Option Value} {i : Int32} {a : Nat} {st : List Value} {σ : gS} : wp d pr_L Q 857 [x0, x1, x2, x3] (.int i :: .ref a :: st) σ ↔ ((gK σ a = 21 ∨ gK σ a = 26) ∧ ¬ i < 0 ∧ i.toNatClampNeg < gN σ a) ∧ wp d pr_L Q 858 [x0, x1, x2, x3] (.int (gI σ a i.toNatClampNeg) :: st) σ := w_iald rfl
set_option maxRecDepth 100000 in
theorem e_L_858 {d : Nat} {Q : Option Value → gS → Prop} {x0 x1 x2 x3 : Option Value} {v0 : Value} {a : Nat}  {st : List Value} {σ : gS} : wp d pr_L Q 858 [x0, x1, x2, x3] (v0 :: .ref a :: st) σ ↔ (gK σ a = 12 ∧ st.length ≤ 4) ∧ wc d 134 [.ref a, v0] σ (fun r τ => wp d pr_L Q 861 [x0, x1, x2, x3] (r.toList ++ st) τ) := w_callV rfl (by simp) rfl rfl
set_option maxRecDepth 100000 in
theorem e_L_861 {d : Nat} {Q : Option Value → gS → Prop} {x0 x1 x3 : Option Value} {v : Nat} {st : List Value} {σ : gS} : wp d pr_L Q 861 [x0, x1, some (.ref v), x3] st σ ↔ wp d pr_L Q 862 [x0, x1, some (.ref v), x3] (.ref v :: st) σ := w_aload (k := 2) (n := 1) rfl rfl
set_option maxRecDepth 100000 in
theorem e_L_861n {d : Nat} {Q : Option Value → gS → Prop} {x0 x1 x3 : Option Value}  {st : List Value} {σ : gS} : wp d pr_L Q 861 [x0, x1, some .null, x3] st σ ↔ wp d pr_L Q 862 [x0, x1, some .null, x3] (.null :: st) σ := w_aloadN (k := 2) (n := 1) rfl rfl
set_option maxRecDepth 100000 in
theorem e_L_862 {d : Nat} {Q : Option Value → gS → Prop} {x1 x2 x3 : Option Value} {v : Nat} {st : List Value} {σ : gS} : wp d pr_L Q 862 [some (.ref v), x1, x2, x3] st σ ↔ wp d pr_L Q 863 [some (.ref v), x1, x2, x3] (.ref v :: st) σ := w_aload (k := 0) (n := 1) rfl rfl
set_option maxRecDepth 100000 in
theorem e_L_863 {d : Nat} {Q : Option Value → gS → Prop} {x0 x1 x2 : Option Value} {v : Int32} {st : List Value} {σ : gS} : wp d pr_L Q 863 [x0, x1, x2, some (.int v)] st σ ↔ wp d pr_L Q 864 [x0, x1, x2, some (.int v)] (.int v :: st) σ := w_iload (k := 3) (n := 1) rfl rfl
set_option maxRecDepth 100000 in
theorem e_L_864 {d : Nat} {Q : Option Value → gS → Prop} {x0 x1 x2 x3 : Option Value}  {st : List Value} {σ : gS} : wp d pr_L Q 864 [x0, x1, x2, x3] st σ ↔ wp d pr_L Q 865 [x0, x1, x2, x3] (.int (1) :: st) σ := w_push (n := 1) rfl
set_option maxRecDepth 100000 in
theorem e_L_865 {d : Nat} {Q : Option Value → gS → Prop} {x0 x1 x2 x3 : Option Value} {x y : Int32} {st : List Value} {σ : gS} : wp d pr_L Q 865 [x0, x1, x2, x3] (.int y :: .int x :: st) σ ↔ wp d pr_L Q 866 [x0, x1, x2, x3] (.int (x + y) :: st) σ := w_bI (f := fun x y => x + y) rfl
set_option maxRecDepth 100000 in
theorem e_L_866 {d : Nat} {Q : Option Value → gS → Prop} {x0 x1 x2 x3 : Option Value} {i : Int32} {a : Nat} {st : List Value} {σ : gS} : wp d pr_L Q 866 [x0, x1, x2, x3] (.int i :: .ref a :: st) σ ↔ ((gK σ a = 21 ∨ gK σ a = 26) ∧ ¬ i < 0 ∧ i.toNatClampNeg < gN σ a) ∧ wp d pr_L Q 867 [x0, x1, x2, x3] (.int (gI σ a i.toNatClampNeg) :: st) σ := w_iald rfl
set_option maxRecDepth 100000 in
theorem e_L_867 {d : Nat} {Q : Option Value → gS → Prop} {x0 x1 x2 x3 : Option Value} {v0 : Value} {a : Nat}  {st : List Value} {σ : gS} : wp d pr_L Q 867 [x0, x1, x2, x3] (v0 :: .ref a :: st) σ ↔ (gK σ a = 13 ∧ st.length ≤ 4) ∧ wc d 246 [.ref a, v0] σ (fun r τ => wp d pr_L Q 870 [x0, x1, x2, x3] (r.toList ++ st) τ) := w_callV rfl (by simp) rfl rfl
set_option maxRecDepth 100000 in
theorem e_L_870 {d : Nat} {Q : Option Value → gS → Prop} {x0 x1 x2 x3 : Option Value} {x y : Int32} {st : List Value} {σ : gS} : wp d pr_L Q 870 [x0, x1, x2, x3] (.int y :: .int x :: st) σ ↔ ((x = y) → wp d pr_L Q 1495 [x0, x1, x2, x3] (st) σ) ∧ (¬ (x = y) → wp d pr_L Q 873 [x0, x1, x2, x3] (st) σ) := w_icmp rfl decide_eq_true_iff
set_option maxRecDepth 100000 in
theorem e_L_873 {d : Nat} {Q : Option Value → gS → Prop} {x0 x1 x2 x3 : Option Value}  {st : List Value} {σ : gS} : wp d pr_L Q 873 [x0, x1, x2, x3] st σ ↔ wp d pr_L Q 874 [x0, x1, x2, x3] (.int (0) :: st) σ := w_push (n := 1) rfl
set_option maxRecDepth 100000 in
theorem e_L_874 {d : Nat} {Q : Option Value → gS → Prop} {x0 x1 x2 x3 : Option Value} {v : Int32} {σ : gS} : wp d pr_L Q 874 [x0, x1, x2, x3] [.int v] σ ↔ (v = 0 ∨ v = 1) ∧ Q (some (.int v)) σ := w_zret rfl
set_option maxRecDepth 100000 in
theorem e_L_875 {d : Nat} {Q : Option Value → gS → Prop} {x0 x2 x3 : Option Value} {v : Nat} {st : List Value} {σ : gS} : wp d pr_L Q 875 [x0, some (.ref v), x2, x3] st σ ↔ wp d pr_L Q 876 [x0, some (.ref v), x2, x3] (.ref v :: st) σ := w_aload (k := 1) (n := 1) rfl rfl
set_option maxRecDepth 100000 in
theorem e_L_875n {d : Nat} {Q : Option Value → gS → Prop} {x0 x2 x3 : Option Value}  {st : List Value} {σ : gS} : wp d pr_L Q 875 [x0, some .null, x2, x3] st σ ↔ wp d pr_L Q 876 [x0, some .null, x2, x3] (.null :: st) σ := w_aloadN (k := 1) (n := 1) rfl rfl
set_option maxRecDepth 100000 in
theorem e_L_876 {d : Nat} {Q : Option Value → gS → Prop} {x1 x2 x3 : Option Value} {v : Nat} {st : List Value} {σ : gS} : wp d pr_L Q 876 [some (.ref v), x1, x2, x3] st σ ↔ wp d pr_L Q 877 [some (.ref v), x1, x2, x3] (.ref v :: st) σ := w_aload (k := 0) (n := 1) rfl rfl
set_option maxRecDepth 100000 in
theorem e_L_877 {d : Nat} {Q : Option Value → gS → Prop} {x0 x1 x2 : Option Value} {v : Int32} {st : List Value} {σ : gS} : wp d pr_L Q 877 [x0, x1, x2, some (.int v)] st σ ↔ wp d pr_L Q 878 [x0, x1, x2, some (.int v)] (.int v :: st) σ := w_iload (k := 3) (n := 1) rfl rfl
set_option maxRecDepth 100000 in
theorem e_L_878 {d : Nat} {Q : Option Value → gS → Prop} {x0 x1 x2 x3 : Option Value}  {st : List Value} {σ : gS} : wp d pr_L Q 878 [x0, x1, x2, x3] st σ ↔ wp d pr_L Q 879 [x0, x1, x2, x3] (.int (1) :: st) σ := w_push (n := 1) rfl
set_option maxRecDepth 100000 in
theorem e_L_879 {d : Nat} {Q : Option Value → gS → Prop} {x0 x1 x2 x3 : Option Value} {x y : Int32} {st : List Value} {σ : gS} : wp d pr_L Q 879 [x0, x1, x2, x3] (.int y :: .int x :: st) σ ↔ wp d pr_L Q 880 [x0, x1, x2, x3] (.int (x + y) :: st) σ := w_bI (f := fun x y => x + y) rfl
set_option maxRecDepth 100000 in
theorem e_L_880 {d : Nat} {Q : Option Value → gS → Prop} {x0 x1 x2 x3 : Option Value} {i : Int32} {a : Nat} {st : List Value} {σ : gS} : wp d pr_L Q 880 [x0, x1, x2, x3] (.int i :: .ref a :: st) σ ↔ ((gK σ a = 21 ∨ gK σ a = 26) ∧ ¬ i < 0 ∧ i.toNatClampNeg < gN σ a) ∧ wp d pr_L Q 881 [x0, x1, x2, x3] (.int (gI σ a i.toNatClampNeg) :: st) σ := w_iald rfl
set_option maxRecDepth 100000 in
theorem e_L_881 {d : Nat} {Q : Option Value → gS → Prop} {x1 x2 x3 : Option Value} {v : Nat} {st : List Value} {σ : gS} : wp d pr_L Q 881 [some (.ref v), x1, x2, x3] st σ ↔ wp d pr_L Q 882 [some (.ref v), x1, x2, x3] (.ref v :: st) σ := w_aload (k := 0) (n := 1) rfl rfl
set_option maxRecDepth 100000 in
theorem e_L_882 {d : Nat} {Q : Option Value → gS → Prop} {x0 x1 x2 : Option Value} {v : Int32} {st : List Value} {σ : gS} : wp d pr_L Q 882 [x0, x1, x2, some (.int v)] st σ ↔ wp d pr_L Q 883 [x0, x1, x2, some (.int v)] (.int v :: st) σ := w_iload (k := 3) (n := 1) rfl rfl
set_option maxRecDepth 100000 in
theorem e_L_883 {d : Nat} {Q : Option Value → gS → Prop} {x0 x1 x2 x3 : Option Value}  {st : List Value} {σ : gS} : wp d pr_L Q 883 [x0, x1, x2, x3] st σ ↔ wp d pr_L Q 884 [x0, x1, x2, x3] (.int (2) :: st) σ := w_push (n := 1) rfl
set_option maxRecDepth 100000 in
theorem e_L_884 {d : Nat} {Q : Option Value → gS → Prop} {x0 x1 x2 x3 : Option Value} {x y : Int32} {st : List Value} {σ : gS} : wp d pr_L Q 884 [x0, x1, x2, x3] (.int y :: .int x :: st) σ ↔ wp d pr_L Q 885 [x0, x1, x2, x3] (.int (x + y) :: st) σ := w_bI (f := fun x y => x + y) rfl
set_option maxRecDepth 100000 in
theorem e_L_885 {d : Nat} {Q : Option Value → gS → Prop} {x0 x1 x2 x3 : Option Value} {i : Int32} {a : Nat} {st : List Value} {σ : gS} : wp d pr_L Q 885 [x0, x1, x2, x3] (.int i :: .ref a :: st) σ ↔ ((gK σ a = 21 ∨ gK σ a = 26) ∧ ¬ i < 0 ∧ i.toNatClampNeg < gN σ a) ∧ wp d pr_L Q 886 [x0, x1, x2, x3] (.int (gI σ a i.toNatClampNeg) :: st) σ := w_iald rfl
set_option maxRecDepth 100000 in
theorem e_L_886 {d : Nat} {Q : Option Value → gS → Prop} {x0 x1 x2 x3 : Option Value} {v0 v1 : Value} {a : Nat}  {st : List Value} {σ : gS} : wp d pr_L Q 886 [x0, x1, x2, x3] (v1 :: v0 :: .ref a :: st) σ ↔ (gK σ a = 12 ∧ st.length ≤ 4) ∧ wc d 135 [.ref a, v0, v1] σ (fun r τ => wp d pr_L Q 889 [x0, x1, x2, x3] (r.toList ++ st) τ) := w_callV rfl (by simp) rfl rfl
set_option maxRecDepth 100000 in
theorem e_L_889 {d : Nat} {Q : Option Value → gS → Prop} {x0 x1 x3 : Option Value} {v : Nat} {st : List Value} {σ : gS} : wp d pr_L Q 889 [x0, x1, some (.ref v), x3] st σ ↔ wp d pr_L Q 890 [x0, x1, some (.ref v), x3] (.ref v :: st) σ := w_aload (k := 2) (n := 1) rfl rfl
set_option maxRecDepth 100000 in
theorem e_L_889n {d : Nat} {Q : Option Value → gS → Prop} {x0 x1 x3 : Option Value}  {st : List Value} {σ : gS} : wp d pr_L Q 889 [x0, x1, some .null, x3] st σ ↔ wp d pr_L Q 890 [x0, x1, some .null, x3] (.null :: st) σ := w_aloadN (k := 2) (n := 1) rfl rfl
set_option maxRecDepth 100000 in
theorem e_L_890 {d : Nat} {Q : Option Value → gS → Prop} {x1 x2 x3 : Option Value} {v : Nat} {st : List Value} {σ : gS} : wp d pr_L Q 890 [some (.ref v), x1, x2, x3] st σ ↔ wp d pr_L Q 891 [some (.ref v), x1, x2, x3] (.ref v :: st) σ := w_aload (k := 0) (n := 1) rfl rfl
set_option maxRecDepth 100000 in
theorem e_L_891 {d : Nat} {Q : Option Value → gS → Prop} {x0 x1 x2 : Option Value} {v : Int32} {st : List Value} {σ : gS} : wp d pr_L Q 891 [x0, x1, x2, some (.int v)] st σ ↔ wp d pr_L Q 892 [x0, x1, x2, some (.int v)] (.int v :: st) σ := w_iload (k := 3) (n := 1) rfl rfl
set_option maxRecDepth 100000 in
theorem e_L_892 {d : Nat} {Q : Option Value → gS → Prop} {x0 x1 x2 x3 : Option Value}  {st : List Value} {σ : gS} : wp d pr_L Q 892 [x0, x1, x2, x3] st σ ↔ wp d pr_L Q 893 [x0, x1, x2, x3] (.int (1) :: st) σ := w_push (n := 1) rfl
set_option maxRecDepth 100000 in
theorem e_L_893 {d : Nat} {Q : Option Value → gS → Prop} {x0 x1 x2 x3 : Option Value} {x y : Int32} {st : List Value} {σ : gS} : wp d pr_L Q 893 [x0, x1, x2, x3] (.int y :: .int x :: st) σ ↔ wp d pr_L Q 894 [x0, x1, x2, x3] (.int (x + y) :: st) σ := w_bI (f := fun x y => x + y) rfl
set_option maxRecDepth 100000 in
theorem e_L_894 {d : Nat} {Q : Option Value → gS → Prop} {x0 x1 x2 x3 : Option Value} {i : Int32} {a : Nat} {st : List Value} {σ : gS} : wp d pr_L Q 894 [x0, x1, x2, x3] (.int i :: .ref a :: st) σ ↔ ((gK σ a = 21 ∨ gK σ a = 26) ∧ ¬ i < 0 ∧ i.toNatClampNeg < gN σ a) ∧ wp d pr_L Q 895 [x0, x1, x2, x3] (.int (gI σ a i.toNatClampNeg) :: st) σ := w_iald rfl
set_option maxRecDepth 100000 in
theorem e_L_895 {d : Nat} {Q : Option Value → gS → Prop} {x1 x2 x3 : Option Value} {v : Nat} {st : List Value} {σ : gS} : wp d pr_L Q 895 [some (.ref v), x1, x2, x3] st σ ↔ wp d pr_L Q 896 [some (.ref v), x1, x2, x3] (.ref v :: st) σ := w_aload (k := 0) (n := 1) rfl rfl
set_option maxRecDepth 100000 in
theorem e_L_896 {d : Nat} {Q : Option Value → gS → Prop} {x0 x1 x2 : Option Value} {v : Int32} {st : List Value} {σ : gS} : wp d pr_L Q 896 [x0, x1, x2, some (.int v)] st σ ↔ wp d pr_L Q 897 [x0, x1, x2, some (.int v)] (.int v :: st) σ := w_iload (k := 3) (n := 1) rfl rfl
set_option maxRecDepth 100000 in
theorem e_L_897 {d : Nat} {Q : Option Value → gS → Prop} {x0 x1 x2 x3 : Option Value}  {st : List Value} {σ : gS} : wp d pr_L Q 897 [x0, x1, x2, x3] st σ ↔ wp d pr_L Q 898 [x0, x1, x2, x3] (.int (2) :: st) σ := w_push (n := 1) rfl
set_option maxRecDepth 100000 in
theorem e_L_898 {d : Nat} {Q : Option Value → gS → Prop} {x0 x1 x2 x3 : Option Value} {x y : Int32} {st : List Value} {σ : gS} : wp d pr_L Q 898 [x0, x1, x2, x3] (.int y :: .int x :: st) σ ↔ wp d pr_L Q 899 [x0, x1, x2, x3] (.int (x + y) :: st) σ := w_bI (f := fun x y => x + y) rfl
set_option maxRecDepth 100000 in
theorem e_L_899 {d : Nat} {Q : Option Value → gS → Prop} {x0 x1 x2 x3 : Option Value} {i : Int32} {a : Nat} {st : List Value} {σ : gS} : wp d pr_L Q 899 [x0, x1, x2, x3] (.int i :: .ref a :: st) σ ↔ ((gK σ a = 21 ∨ gK σ a = 26) ∧ ¬ i < 0 ∧ i.toNatClampNeg < gN σ a) ∧ wp d pr_L Q 900 [x0, x1, x2, x3] (.int (gI σ a i.toNatClampNeg) :: st) σ := w_iald rfl
set_option maxRecDepth 100000 in
theorem e_L_900 {d : Nat} {Q : Option Value → gS → Prop} {x0 x1 x2 x3 : Option Value} {v0 v1 : Value} {a : Nat}  {st : List Value} {σ : gS} : wp d pr_L Q 900 [x0, x1, x2, x3] (v1 :: v0 :: .ref a :: st) σ ↔ (gK σ a = 13 ∧ st.length ≤ 4) ∧ wc d 247 [.ref a, v0, v1] σ (fun r τ => wp d pr_L Q 903 [x0, x1, x2, x3] (r.toList ++ st) τ) := w_callV rfl (by simp) rfl rfl
set_option maxRecDepth 100000 in
theorem e_L_903 {d : Nat} {Q : Option Value → gS → Prop} {x0 x1 x2 x3 : Option Value} {x y : Int32} {st : List Value} {σ : gS} : wp d pr_L Q 903 [x0, x1, x2, x3] (.int y :: .int x :: st) σ ↔ ((x = y) → wp d pr_L Q 1495 [x0, x1, x2, x3] (st) σ) ∧ (¬ (x = y) → wp d pr_L Q 906 [x0, x1, x2, x3] (st) σ) := w_icmp rfl decide_eq_true_iff
set_option maxRecDepth 100000 in
theorem e_L_906 {d : Nat} {Q : Option Value → gS → Prop} {x0 x1 x2 x3 : Option Value}  {st : List Value} {σ : gS} : wp d pr_L Q 906 [x0, x1, x2, x3] st σ ↔ wp d pr_L Q 907 [x0, x1, x2, x3] (.int (0) :: st) σ := w_push (n := 1) rfl
set_option maxRecDepth 100000 in
theorem e_L_907 {d : Nat} {Q : Option Value → gS → Prop} {x0 x1 x2 x3 : Option Value} {v : Int32} {σ : gS} : wp d pr_L Q 907 [x0, x1, x2, x3] [.int v] σ ↔ (v = 0 ∨ v = 1) ∧ Q (some (.int v)) σ := w_zret rfl
set_option maxRecDepth 100000 in
theorem e_L_908 {d : Nat} {Q : Option Value → gS → Prop} {x0 x2 x3 : Option Value} {v : Nat} {st : List Value} {σ : gS} : wp d pr_L Q 908 [x0, some (.ref v), x2, x3] st σ ↔ wp d pr_L Q 909 [x0, some (.ref v), x2, x3] (.ref v :: st) σ := w_aload (k := 1) (n := 1) rfl rfl
set_option maxRecDepth 100000 in
theorem e_L_908n {d : Nat} {Q : Option Value → gS → Prop} {x0 x2 x3 : Option Value}  {st : List Value} {σ : gS} : wp d pr_L Q 908 [x0, some .null, x2, x3] st σ ↔ wp d pr_L Q 909 [x0, some .null, x2, x3] (.null :: st) σ := w_aloadN (k := 1) (n := 1) rfl rfl
set_option maxRecDepth 100000 in
theorem e_L_909 {d : Nat} {Q : Option Value → gS → Prop} {x1 x2 x3 : Option Value} {v : Nat} {st : List Value} {σ : gS} : wp d pr_L Q 909 [some (.ref v), x1, x2, x3] st σ ↔ wp d pr_L Q 910 [some (.ref v), x1, x2, x3] (.ref v :: st) σ := w_aload (k := 0) (n := 1) rfl rfl
set_option maxRecDepth 100000 in
theorem e_L_910 {d : Nat} {Q : Option Value → gS → Prop} {x0 x1 x2 : Option Value} {v : Int32} {st : List Value} {σ : gS} : wp d pr_L Q 910 [x0, x1, x2, some (.int v)] st σ ↔ wp d pr_L Q 911 [x0, x1, x2, some (.int v)] (.int v :: st) σ := w_iload (k := 3) (n := 1) rfl rfl
set_option maxRecDepth 100000 in
theorem e_L_911 {d : Nat} {Q : Option Value → gS → Prop} {x0 x1 x2 x3 : Option Value}  {st : List Value} {σ : gS} : wp d pr_L Q 911 [x0, x1, x2, x3] st σ ↔ wp d pr_L Q 912 [x0, x1, x2, x3] (.int (1) :: st) σ := w_push (n := 1) rfl
set_option maxRecDepth 100000 in
theorem e_L_912 {d : Nat} {Q : Option Value → gS → Prop} {x0 x1 x2 x3 : Option Value} {x y : Int32} {st : List Value} {σ : gS} : wp d pr_L Q 912 [x0, x1, x2, x3] (.int y :: .int x :: st) σ ↔ wp d pr_L Q 913 [x0, x1, x2, x3] (.int (x + y) :: st) σ := w_bI (f := fun x y => x + y) rfl
set_option maxRecDepth 100000 in
theorem e_L_913 {d : Nat} {Q : Option Value → gS → Prop} {x0 x1 x2 x3 : Option Value} {i : Int32} {a : Nat} {st : List Value} {σ : gS} : wp d pr_L Q 913 [x0, x1, x2, x3] (.int i :: .ref a :: st) σ ↔ ((gK σ a = 21 ∨ gK σ a = 26) ∧ ¬ i < 0 ∧ i.toNatClampNeg < gN σ a) ∧ wp d pr_L Q 914 [x0, x1, x2, x3] (.int (gI σ a i.toNatClampNeg) :: st) σ := w_iald rfl
set_option maxRecDepth 100000 in
theorem e_L_914 {d : Nat} {Q : Option Value → gS → Prop} {x1 x2 x3 : Option Value} {v : Nat} {st : List Value} {σ : gS} : wp d pr_L Q 914 [some (.ref v), x1, x2, x3] st σ ↔ wp d pr_L Q 915 [some (.ref v), x1, x2, x3] (.ref v :: st) σ := w_aload (k := 0) (n := 1) rfl rfl
set_option maxRecDepth 100000 in
theorem e_L_915 {d : Nat} {Q : Option Value → gS → Prop} {x0 x1 x2 : Option Value} {v : Int32} {st : List Value} {σ : gS} : wp d pr_L Q 915 [x0, x1, x2, some (.int v)] st σ ↔ wp d pr_L Q 916 [x0, x1, x2, some (.int v)] (.int v :: st) σ := w_iload (k := 3) (n := 1) rfl rfl
set_option maxRecDepth 100000 in
theorem e_L_916 {d : Nat} {Q : Option Value → gS → Prop} {x0 x1 x2 x3 : Option Value}  {st : List Value} {σ : gS} : wp d pr_L Q 916 [x0, x1, x2, x3] st σ ↔ wp d pr_L Q 917 [x0, x1, x2, x3] (.int (2) :: st) σ := w_push (n := 1) rfl
set_option maxRecDepth 100000 in
theorem e_L_917 {d : Nat} {Q : Option Value → gS → Prop} {x0 x1 x2 x3 : Option Value} {x y : Int32} {st : List Value} {σ : gS} : wp d pr_L Q 917 [x0, x1, x2, x3] (.int y :: .int x :: st) σ ↔ wp d pr_L Q 918 [x0, x1, x2, x3] (.int (x + y) :: st) σ := w_bI (f := fun x y => x + y) rfl
set_option maxRecDepth 100000 in
theorem e_L_918 {d : Nat} {Q : Option Value → gS → Prop} {x0 x1 x2 x3 : Option Value} {i : Int32} {a : Nat} {st : List Value} {σ : gS} : wp d pr_L Q 918 [x0, x1, x2, x3] (.int i :: .ref a :: st) σ ↔ ((gK σ a = 21 ∨ gK σ a = 26) ∧ ¬ i < 0 ∧ i.toNatClampNeg < gN σ a) ∧ wp d pr_L Q 919 [x0, x1, x2, x3] (.int (gI σ a i.toNatClampNeg) :: st) σ := w_iald rfl
set_option maxRecDepth 100000 in
theorem e_L_919 {d : Nat} {Q : Option Value → gS → Prop} {x1 x2 x3 : Option Value} {v : Nat} {st : List Value} {σ : gS} : wp d pr_L Q 919 [some (.ref v), x1, x2, x3] st σ ↔ wp d pr_L Q 920 [some (.ref v), x1, x2, x3] (.ref v :: st) σ := w_aload (k := 0) (n := 1) rfl rfl
set_option maxRecDepth 100000 in
theorem e_L_920 {d : Nat} {Q : Option Value → gS → Prop} {x0 x1 x2 : Option Value} {v : Int32} {st : List Value} {σ : gS} : wp d pr_L Q 920 [x0, x1, x2, some (.int v)] st σ ↔ wp d pr_L Q 921 [x0, x1, x2, some (.int v)] (.int v :: st) σ := w_iload (k := 3) (n := 1) rfl rfl
set_option maxRecDepth 100000 in
theorem e_L_921 {d : Nat} {Q : Option Value → gS → Prop} {x0 x1 x2 x3 : Option Value}  {st : List Value} {σ : gS} : wp d pr_L Q 921 [x0, x1, x2, x3] st σ ↔ wp d pr_L Q 922 [x0, x1, x2, x3] (.int (3) :: st) σ := w_push (n := 1) rfl
set_option maxRecDepth 100000 in
theorem e_L_922 {d : Nat} {Q : Option Value → gS → Prop} {x0 x1 x2 x3 : Option Value} {x y : Int32} {st : List Value} {σ : gS} : wp d pr_L Q 922 [x0, x1, x2, x3] (.int y :: .int x :: st) σ ↔ wp d pr_L Q 923 [x0, x1, x2, x3] (.int (x + y) :: st) σ := w_bI (f := fun x y => x + y) rfl
set_option maxRecDepth 100000 in
theorem e_L_923 {d : Nat} {Q : Option Value → gS → Prop} {x0 x1 x2 x3 : Option Value} {i : Int32} {a : Nat} {st : List Value} {σ : gS} : wp d pr_L Q 923 [x0, x1, x2, x3] (.int i :: .ref a :: st) σ ↔ ((gK σ a = 21 ∨ gK σ a = 26) ∧ ¬ i < 0 ∧ i.toNatClampNeg < gN σ a) ∧ wp d pr_L Q 924 [x0, x1, x2, x3] (.int (gI σ a i.toNatClampNeg) :: st) σ := w_iald rfl
set_option maxRecDepth 100000 in
theorem e_L_924 {d : Nat} {Q : Option Value → gS → Prop} {x0 x1 x2 x3 : Option Value} {v0 v1 v2 : Value} {a : Nat}  {st : List Value} {σ : gS} : wp d pr_L Q 924 [x0, x1, x2, x3] (v2 :: v1 :: v0 :: .ref a :: st) σ ↔ (gK σ a = 12 ∧ st.length ≤ 4) ∧ wc d 136 [.ref a, v0, v1, v2] σ (fun r τ => wp d pr_L Q 927 [x0, x1, x2, x3] (r.toList ++ st) τ) := w_callV rfl (by simp) rfl rfl
set_option maxRecDepth 100000 in
theorem e_L_927 {d : Nat} {Q : Option Value → gS → Prop} {x0 x1 x3 : Option Value} {v : Nat} {st : List Value} {σ : gS} : wp d pr_L Q 927 [x0, x1, some (.ref v), x3] st σ ↔ wp d pr_L Q 928 [x0, x1, some (.ref v), x3] (.ref v :: st) σ := w_aload (k := 2) (n := 1) rfl rfl
set_option maxRecDepth 100000 in
theorem e_L_927n {d : Nat} {Q : Option Value → gS → Prop} {x0 x1 x3 : Option Value}  {st : List Value} {σ : gS} : wp d pr_L Q 927 [x0, x1, some .null, x3] st σ ↔ wp d pr_L Q 928 [x0, x1, some .null, x3] (.null :: st) σ := w_aloadN (k := 2) (n := 1) rfl rfl
set_option maxRecDepth 100000 in
theorem e_L_928 {d : Nat} {Q : Option Value → gS → Prop} {x1 x2 x3 : Option Value} {v : Nat} {st : List Value} {σ : gS} : wp d pr_L Q 928 [some (.ref v), x1, x2, x3] st σ ↔ wp d pr_L Q 929 [some (.ref v), x1, x2, x3] (.ref v :: st) σ := w_aload (k := 0) (n := 1) rfl rfl
set_option maxRecDepth 100000 in
theorem e_L_929 {d : Nat} {Q : Option Value → gS → Prop} {x0 x1 x2 : Option Value} {v : Int32} {st : List Value} {σ : gS} : wp d pr_L Q 929 [x0, x1, x2, some (.int v)] st σ ↔ wp d pr_L Q 930 [x0, x1, x2, some (.int v)] (.int v :: st) σ := w_iload (k := 3) (n := 1) rfl rfl
set_option maxRecDepth 100000 in
theorem e_L_930 {d : Nat} {Q : Option Value → gS → Prop} {x0 x1 x2 x3 : Option Value}  {st : List Value} {σ : gS} : wp d pr_L Q 930 [x0, x1, x2, x3] st σ ↔ wp d pr_L Q 931 [x0, x1, x2, x3] (.int (1) :: st) σ := w_push (n := 1) rfl
set_option maxRecDepth 100000 in
theorem e_L_931 {d : Nat} {Q : Option Value → gS → Prop} {x0 x1 x2 x3 : Option Value} {x y : Int32} {st : List Value} {σ : gS} : wp d pr_L Q 931 [x0, x1, x2, x3] (.int y :: .int x :: st) σ ↔ wp d pr_L Q 932 [x0, x1, x2, x3] (.int (x + y) :: st) σ := w_bI (f := fun x y => x + y) rfl
set_option maxRecDepth 100000 in
theorem e_L_932 {d : Nat} {Q : Option Value → gS → Prop} {x0 x1 x2 x3 : Option Value} {i : Int32} {a : Nat} {st : List Value} {σ : gS} : wp d pr_L Q 932 [x0, x1, x2, x3] (.int i :: .ref a :: st) σ ↔ ((gK σ a = 21 ∨ gK σ a = 26) ∧ ¬ i < 0 ∧ i.toNatClampNeg < gN σ a) ∧ wp d pr_L Q 933 [x0, x1, x2, x3] (.int (gI σ a i.toNatClampNeg) :: st) σ := w_iald rfl
set_option maxRecDepth 100000 in
theorem e_L_933 {d : Nat} {Q : Option Value → gS → Prop} {x1 x2 x3 : Option Value} {v : Nat} {st : List Value} {σ : gS} : wp d pr_L Q 933 [some (.ref v), x1, x2, x3] st σ ↔ wp d pr_L Q 934 [some (.ref v), x1, x2, x3] (.ref v :: st) σ := w_aload (k := 0) (n := 1) rfl rfl
set_option maxRecDepth 100000 in
theorem e_L_934 {d : Nat} {Q : Option Value → gS → Prop} {x0 x1 x2 : Option Value} {v : Int32} {st : List Value} {σ : gS} : wp d pr_L Q 934 [x0, x1, x2, some (.int v)] st σ ↔ wp d pr_L Q 935 [x0, x1, x2, some (.int v)] (.int v :: st) σ := w_iload (k := 3) (n := 1) rfl rfl
set_option maxRecDepth 100000 in
theorem e_L_935 {d : Nat} {Q : Option Value → gS → Prop} {x0 x1 x2 x3 : Option Value}  {st : List Value} {σ : gS} : wp d pr_L Q 935 [x0, x1, x2, x3] st σ ↔ wp d pr_L Q 936 [x0, x1, x2, x3] (.int (2) :: st) σ := w_push (n := 1) rfl
set_option maxRecDepth 100000 in
theorem e_L_936 {d : Nat} {Q : Option Value → gS → Prop} {x0 x1 x2 x3 : Option Value} {x y : Int32} {st : List Value} {σ : gS} : wp d pr_L Q 936 [x0, x1, x2, x3] (.int y :: .int x :: st) σ ↔ wp d pr_L Q 937 [x0, x1, x2, x3] (.int (x + y) :: st) σ := w_bI (f := fun x y => x + y) rfl
set_option maxRecDepth 100000 in
theorem e_L_937 {d : Nat} {Q : Option Value → gS → Prop} {x0 x1 x2 x3 : Option Value} {i : Int32} {a : Nat} {st : List Value} {σ : gS} : wp d pr_L Q 937 [x0, x1, x2, x3] (.int i :: .ref a :: st) σ ↔ ((gK σ a = 21 ∨ gK σ a = 26) ∧ ¬ i < 0 ∧ i.toNatClampNeg < gN σ a) ∧ wp d pr_L Q 938 [x0, x1, x2, x3] (.int (gI σ a i.toNatClampNeg) :: st) σ := w_iald rfl
set_option maxRecDepth 100000 in
theorem e_L_938 {d : Nat} {Q : Option Value → gS → Prop} {x1 x2 x3 : Option Value} {v : Nat} {st : List Value} {σ : gS} : wp d pr_L Q 938 [some (.ref v), x1, x2, x3] st σ ↔ wp d pr_L Q 939 [some (.ref v), x1, x2, x3] (.ref v :: st) σ := w_aload (k := 0) (n := 1) rfl rfl
set_option maxRecDepth 100000 in
theorem e_L_939 {d : Nat} {Q : Option Value → gS → Prop} {x0 x1 x2 : Option Value} {v : Int32} {st : List Value} {σ : gS} : wp d pr_L Q 939 [x0, x1, x2, some (.int v)] st σ ↔ wp d pr_L Q 940 [x0, x1, x2, some (.int v)] (.int v :: st) σ := w_iload (k := 3) (n := 1) rfl rfl
set_option maxRecDepth 100000 in
theorem e_L_940 {d : Nat} {Q : Option Value → gS → Prop} {x0 x1 x2 x3 : Option Value}  {st : List Value} {σ : gS} : wp d pr_L Q 940 [x0, x1, x2, x3] st σ ↔ wp d pr_L Q 941 [x0, x1, x2, x3] (.int (3) :: st) σ := w_push (n := 1) rfl
set_option maxRecDepth 100000 in
theorem e_L_941 {d : Nat} {Q : Option Value → gS → Prop} {x0 x1 x2 x3 : Option Value} {x y : Int32} {st : List Value} {σ : gS} : wp d pr_L Q 941 [x0, x1, x2, x3] (.int y :: .int x :: st) σ ↔ wp d pr_L Q 942 [x0, x1, x2, x3] (.int (x + y) :: st) σ := w_bI (f := fun x y => x + y) rfl
set_option maxRecDepth 100000 in
theorem e_L_942 {d : Nat} {Q : Option Value → gS → Prop} {x0 x1 x2 x3 : Option Value} {i : Int32} {a : Nat} {st : List Value} {σ : gS} : wp d pr_L Q 942 [x0, x1, x2, x3] (.int i :: .ref a :: st) σ ↔ ((gK σ a = 21 ∨ gK σ a = 26) ∧ ¬ i < 0 ∧ i.toNatClampNeg < gN σ a) ∧ wp d pr_L Q 943 [x0, x1, x2, x3] (.int (gI σ a i.toNatClampNeg) :: st) σ := w_iald rfl
set_option maxRecDepth 100000 in
theorem e_L_943 {d : Nat} {Q : Option Value → gS → Prop} {x0 x1 x2 x3 : Option Value} {v0 v1 v2 : Value} {a : Nat}  {st : List Value} {σ : gS} : wp d pr_L Q 943 [x0, x1, x2, x3] (v2 :: v1 :: v0 :: .ref a :: st) σ ↔ (gK σ a = 13 ∧ st.length ≤ 4) ∧ wc d 248 [.ref a, v0, v1, v2] σ (fun r τ => wp d pr_L Q 946 [x0, x1, x2, x3] (r.toList ++ st) τ) := w_callV rfl (by simp) rfl rfl
set_option maxRecDepth 100000 in
theorem e_L_946 {d : Nat} {Q : Option Value → gS → Prop} {x0 x1 x2 x3 : Option Value} {x y : Int32} {st : List Value} {σ : gS} : wp d pr_L Q 946 [x0, x1, x2, x3] (.int y :: .int x :: st) σ ↔ ((x = y) → wp d pr_L Q 1495 [x0, x1, x2, x3] (st) σ) ∧ (¬ (x = y) → wp d pr_L Q 949 [x0, x1, x2, x3] (st) σ) := w_icmp rfl decide_eq_true_iff
set_option maxRecDepth 100000 in
theorem e_L_949 {d : Nat} {Q : Option Value → gS → Prop} {x0 x1 x2 x3 : Option Value}  {st : List Value} {σ : gS} : wp d pr_L Q 949 [x0, x1, x2, x3] st σ ↔ wp d pr_L Q 950 [x0, x1, x2, x3] (.int (0) :: st) σ := w_push (n := 1) rfl
set_option maxRecDepth 100000 in
theorem e_L_950 {d : Nat} {Q : Option Value → gS → Prop} {x0 x1 x2 x3 : Option Value} {v : Int32} {σ : gS} : wp d pr_L Q 950 [x0, x1, x2, x3] [.int v] σ ↔ (v = 0 ∨ v = 1) ∧ Q (some (.int v)) σ := w_zret rfl
set_option maxRecDepth 100000 in
theorem e_L_951 {d : Nat} {Q : Option Value → gS → Prop} {x0 x2 x3 : Option Value} {v : Nat} {st : List Value} {σ : gS} : wp d pr_L Q 951 [x0, some (.ref v), x2, x3] st σ ↔ wp d pr_L Q 952 [x0, some (.ref v), x2, x3] (.ref v :: st) σ := w_aload (k := 1) (n := 1) rfl rfl
set_option maxRecDepth 100000 in
theorem e_L_951n {d : Nat} {Q : Option Value → gS → Prop} {x0 x2 x3 : Option Value}  {st : List Value} {σ : gS} : wp d pr_L Q 951 [x0, some .null, x2, x3] st σ ↔ wp d pr_L Q 952 [x0, some .null, x2, x3] (.null :: st) σ := w_aloadN (k := 1) (n := 1) rfl rfl
set_option maxRecDepth 100000 in
theorem e_L_952 {d : Nat} {Q : Option Value → gS → Prop} {x1 x2 x3 : Option Value} {v : Nat} {st : List Value} {σ : gS} : wp d pr_L Q 952 [some (.ref v), x1, x2, x3] st σ ↔ wp d pr_L Q 953 [some (.ref v), x1, x2, x3] (.ref v :: st) σ := w_aload (k := 0) (n := 1) rfl rfl
set_option maxRecDepth 100000 in
theorem e_L_953 {d : Nat} {Q : Option Value → gS → Prop} {x0 x1 x2 : Option Value} {v : Int32} {st : List Value} {σ : gS} : wp d pr_L Q 953 [x0, x1, x2, some (.int v)] st σ ↔ wp d pr_L Q 954 [x0, x1, x2, some (.int v)] (.int v :: st) σ := w_iload (k := 3) (n := 1) rfl rfl
set_option maxRecDepth 100000 in
theorem e_L_954 {d : Nat} {Q : Option Value → gS → Prop} {x0 x1 x2 x3 : Option Value}  {st : List Value} {σ : gS} : wp d pr_L Q 954 [x0, x1, x2, x3] st σ ↔ wp d pr_L Q 955 [x0, x1, x2, x3] (.int (1) :: st) σ := w_push (n := 1) rfl
set_option maxRecDepth 100000 in
theorem e_L_955 {d : Nat} {Q : Option Value → gS → Prop} {x0 x1 x2 x3 : Option Value} {x y : Int32} {st : List Value} {σ : gS} : wp d pr_L Q 955 [x0, x1, x2, x3] (.int y :: .int x :: st) σ ↔ wp d pr_L Q 956 [x0, x1, x2, x3] (.int (x + y) :: st) σ := w_bI (f := fun x y => x + y) rfl
set_option maxRecDepth 100000 in
theorem e_L_956 {d : Nat} {Q : Option Value → gS → Prop} {x0 x1 x2 x3 : Option Value} {i : Int32} {a : Nat} {st : List Value} {σ : gS} : wp d pr_L Q 956 [x0, x1, x2, x3] (.int i :: .ref a :: st) σ ↔ ((gK σ a = 21 ∨ gK σ a = 26) ∧ ¬ i < 0 ∧ i.toNatClampNeg < gN σ a) ∧ wp d pr_L Q 957 [x0, x1, x2, x3] (.int (gI σ a i.toNatClampNeg) :: st) σ := w_iald rfl
set_option maxRecDepth 100000 in
theorem e_L_957 {d : Nat} {Q : Option Value → gS → Prop} {x1 x2 x3 : Option Value} {v : Nat} {st : List Value} {σ : gS} : wp d pr_L Q 957 [some (.ref v), x1, x2, x3] st σ ↔ wp d pr_L Q 958 [some (.ref v), x1, x2, x3] (.ref v :: st) σ := w_aload (k := 0) (n := 1) rfl rfl
set_option maxRecDepth 100000 in
theorem e_L_958 {d : Nat} {Q : Option Value → gS → Prop} {x0 x1 x2 : Option Value} {v : Int32} {st : List Value} {σ : gS} : wp d pr_L Q 958 [x0, x1, x2, some (.int v)] st σ ↔ wp d pr_L Q 959 [x0, x1, x2, some (.int v)] (.int v :: st) σ := w_iload (k := 3) (n := 1) rfl rfl
set_option maxRecDepth 100000 in
theorem e_L_959 {d : Nat} {Q : Option Value → gS → Prop} {x0 x1 x2 x3 : Option Value}  {st : List Value} {σ : gS} : wp d pr_L Q 959 [x0, x1, x2, x3] st σ ↔ wp d pr_L Q 960 [x0, x1, x2, x3] (.int (2) :: st) σ := w_push (n := 1) rfl
set_option maxRecDepth 100000 in
theorem e_L_960 {d : Nat} {Q : Option Value → gS → Prop} {x0 x1 x2 x3 : Option Value} {x y : Int32} {st : List Value} {σ : gS} : wp d pr_L Q 960 [x0, x1, x2, x3] (.int y :: .int x :: st) σ ↔ wp d pr_L Q 961 [x0, x1, x2, x3] (.int (x + y) :: st) σ := w_bI (f := fun x y => x + y) rfl
set_option maxRecDepth 100000 in
theorem e_L_961 {d : Nat} {Q : Option Value → gS → Prop} {x0 x1 x2 x3 : Option Value} {i : Int32} {a : Nat} {st : List Value} {σ : gS} : wp d pr_L Q 961 [x0, x1, x2, x3] (.int i :: .ref a :: st) σ ↔ ((gK σ a = 21 ∨ gK σ a = 26) ∧ ¬ i < 0 ∧ i.toNatClampNeg < gN σ a) ∧ wp d pr_L Q 962 [x0, x1, x2, x3] (.int (gI σ a i.toNatClampNeg) :: st) σ := w_iald rfl
set_option maxRecDepth 100000 in
theorem e_L_962 {d : Nat} {Q : Option Value → gS → Prop} {x1 x2 x3 : Option Value} {v : Nat} {st : List Value} {σ : gS} : wp d pr_L Q 962 [some (.ref v), x1, x2, x3] st σ ↔ wp d pr_L Q 963 [some (.ref v), x1, x2, x3] (.ref v :: st) σ := w_aload (k := 0) (n := 1) rfl rfl
set_option maxRecDepth 100000 in
theorem e_L_963 {d : Nat} {Q : Option Value → gS → Prop} {x0 x1 x2 : Option Value} {v : Int32} {st : List Value} {σ : gS} : wp d pr_L Q 963 [x0, x1, x2, some (.int v)] st σ ↔ wp d pr_L Q 964 [x0, x1, x2, some (.int v)] (.int v :: st) σ := w_iload (k := 3) (n := 1) rfl rfl
set_option maxRecDepth 100000 in
theorem e_L_964 {d : Nat} {Q : Option Value → gS → Prop} {x0 x1 x2 x3 : Option Value}  {st : List Value} {σ : gS} : wp d pr_L Q 964 [x0, x1, x2, x3] st σ ↔ wp d pr_L Q 965 [x0, x1, x2, x3] (.int (3) :: st) σ := w_push (n := 1) rfl
set_option maxRecDepth 100000 in
theorem e_L_965 {d : Nat} {Q : Option Value → gS → Prop} {x0 x1 x2 x3 : Option Value} {x y : Int32} {st : List Value} {σ : gS} : wp d pr_L Q 965 [x0, x1, x2, x3] (.int y :: .int x :: st) σ ↔ wp d pr_L Q 966 [x0, x1, x2, x3] (.int (x + y) :: st) σ := w_bI (f := fun x y => x + y) rfl
set_option maxRecDepth 100000 in
theorem e_L_966 {d : Nat} {Q : Option Value → gS → Prop} {x0 x1 x2 x3 : Option Value} {i : Int32} {a : Nat} {st : List Value} {σ : gS} : wp d pr_L Q 966 [x0, x1, x2, x3] (.int i :: .ref a :: st) σ ↔ ((gK σ a = 21 ∨ gK σ a = 26) ∧ ¬ i < 0 ∧ i.toNatClampNeg < gN σ a) ∧ wp d pr_L Q 967 [x0, x1, x2, x3] (.int (gI σ a i.toNatClampNeg) :: st) σ := w_iald rfl
set_option maxRecDepth 100000 in
theorem e_L_967 {d : Nat} {Q : Option Value → gS → Prop} {x0 x1 x2 x3 : Option Value} {v0 v1 v2 : Value} {a : Nat}  {st : List Value} {σ : gS} : wp d pr_L Q 967 [x0, x1, x2, x3] (v2 :: v1 :: v0 :: .ref a :: st) σ ↔ (gK σ a = 12 ∧ st.length ≤ 4) ∧ wc d 137 [.ref a, v0, v1, v2] σ (fun r τ => wp d pr_L Q 970 [x0, x1, x2, x3] (r.toList ++ st) τ) := w_callV rfl (by simp) rfl rfl
set_option maxRecDepth 100000 in
theorem e_L_970 {d : Nat} {Q : Option Value → gS → Prop} {x0 x1 x3 : Option Value} {v : Nat} {st : List Value} {σ : gS} : wp d pr_L Q 970 [x0, x1, some (.ref v), x3] st σ ↔ wp d pr_L Q 971 [x0, x1, some (.ref v), x3] (.ref v :: st) σ := w_aload (k := 2) (n := 1) rfl rfl
set_option maxRecDepth 100000 in
theorem e_L_970n {d : Nat} {Q : Option Value → gS → Prop} {x0 x1 x3 : Option Value}  {st : List Value} {σ : gS} : wp d pr_L Q 970 [x0, x1, some .null, x3] st σ ↔ wp d pr_L Q 971 [x0, x1, some .null, x3] (.null :: st) σ := w_aloadN (k := 2) (n := 1) rfl rfl
set_option maxRecDepth 100000 in
theorem e_L_971 {d : Nat} {Q : Option Value → gS → Prop} {x1 x2 x3 : Option Value} {v : Nat} {st : List Value} {σ : gS} : wp d pr_L Q 971 [some (.ref v), x1, x2, x3] st σ ↔ wp d pr_L Q 972 [some (.ref v), x1, x2, x3] (.ref v :: st) σ := w_aload (k := 0) (n := 1) rfl rfl
set_option maxRecDepth 100000 in
theorem e_L_972 {d : Nat} {Q : Option Value → gS → Prop} {x0 x1 x2 : Option Value} {v : Int32} {st : List Value} {σ : gS} : wp d pr_L Q 972 [x0, x1, x2, some (.int v)] st σ ↔ wp d pr_L Q 973 [x0, x1, x2, some (.int v)] (.int v :: st) σ := w_iload (k := 3) (n := 1) rfl rfl
set_option maxRecDepth 100000 in
theorem e_L_973 {d : Nat} {Q : Option Value → gS → Prop} {x0 x1 x2 x3 : Option Value}  {st : List Value} {σ : gS} : wp d pr_L Q 973 [x0, x1, x2, x3] st σ ↔ wp d pr_L Q 974 [x0, x1, x2, x3] (.int (1) :: st) σ := w_push (n := 1) rfl
set_option maxRecDepth 100000 in
theorem e_L_974 {d : Nat} {Q : Option Value → gS → Prop} {x0 x1 x2 x3 : Option Value} {x y : Int32} {st : List Value} {σ : gS} : wp d pr_L Q 974 [x0, x1, x2, x3] (.int y :: .int x :: st) σ ↔ wp d pr_L Q 975 [x0, x1, x2, x3] (.int (x + y) :: st) σ := w_bI (f := fun x y => x + y) rfl
set_option maxRecDepth 100000 in
theorem e_L_975 {d : Nat} {Q : Option Value → gS → Prop} {x0 x1 x2 x3 : Option Value} {i : Int32} {a : Nat} {st : List Value} {σ : gS} : wp d pr_L Q 975 [x0, x1, x2, x3] (.int i :: .ref a :: st) σ ↔ ((gK σ a = 21 ∨ gK σ a = 26) ∧ ¬ i < 0 ∧ i.toNatClampNeg < gN σ a) ∧ wp d pr_L Q 976 [x0, x1, x2, x3] (.int (gI σ a i.toNatClampNeg) :: st) σ := w_iald rfl
set_option maxRecDepth 100000 in
theorem e_L_976 {d : Nat} {Q : Option Value → gS → Prop} {x1 x2 x3 : Option Value} {v : Nat} {st : List Value} {σ : gS} : wp d pr_L Q 976 [some (.ref v), x1, x2, x3] st σ ↔ wp d pr_L Q 977 [some (.ref v), x1, x2, x3] (.ref v :: st) σ := w_aload (k := 0) (n := 1) rfl rfl
set_option maxRecDepth 100000 in
theorem e_L_977 {d : Nat} {Q : Option Value → gS → Prop} {x0 x1 x2 : Option Value} {v : Int32} {st : List Value} {σ : gS} : wp d pr_L Q 977 [x0, x1, x2, some (.int v)] st σ ↔ wp d pr_L Q 978 [x0, x1, x2, some (.int v)] (.int v :: st) σ := w_iload (k := 3) (n := 1) rfl rfl
set_option maxRecDepth 100000 in
theorem e_L_978 {d : Nat} {Q : Option Value → gS → Prop} {x0 x1 x2 x3 : Option Value}  {st : List Value} {σ : gS} : wp d pr_L Q 978 [x0, x1, x2, x3] st σ ↔ wp d pr_L Q 979 [x0, x1, x2, x3] (.int (2) :: st) σ := w_push (n := 1) rfl
set_option maxRecDepth 100000 in
theorem e_L_979 {d : Nat} {Q : Option Value → gS → Prop} {x0 x1 x2 x3 : Option Value} {x y : Int32} {st : List Value} {σ : gS} : wp d pr_L Q 979 [x0, x1, x2, x3] (.int y :: .int x :: st) σ ↔ wp d pr_L Q 980 [x0, x1, x2, x3] (.int (x + y) :: st) σ := w_bI (f := fun x y => x + y) rfl
set_option maxRecDepth 100000 in
theorem e_L_980 {d : Nat} {Q : Option Value → gS → Prop} {x0 x1 x2 x3 : Option Value} {i : Int32} {a : Nat} {st : List Value} {σ : gS} : wp d pr_L Q 980 [x0, x1, x2, x3] (.int i :: .ref a :: st) σ ↔ ((gK σ a = 21 ∨ gK σ a = 26) ∧ ¬ i < 0 ∧ i.toNatClampNeg < gN σ a) ∧ wp d pr_L Q 981 [x0, x1, x2, x3] (.int (gI σ a i.toNatClampNeg) :: st) σ := w_iald rfl
set_option maxRecDepth 100000 in
theorem e_L_981 {d : Nat} {Q : Option Value → gS → Prop} {x1 x2 x3 : Option Value} {v : Nat} {st : List Value} {σ : gS} : wp d pr_L Q 981 [some (.ref v), x1, x2, x3] st σ ↔ wp d pr_L Q 982 [some (.ref v), x1, x2, x3] (.ref v :: st) σ := w_aload (k := 0) (n := 1) rfl rfl
set_option maxRecDepth 100000 in
theorem e_L_982 {d : Nat} {Q : Option Value → gS → Prop} {x0 x1 x2 : Option Value} {v : Int32} {st : List Value} {σ : gS} : wp d pr_L Q 982 [x0, x1, x2, some (.int v)] st σ ↔ wp d pr_L Q 983 [x0, x1, x2, some (.int v)] (.int v :: st) σ := w_iload (k := 3) (n := 1) rfl rfl
set_option maxRecDepth 100000 in
theorem e_L_983 {d : Nat} {Q : Option Value → gS → Prop} {x0 x1 x2 x3 : Option Value}  {st : List Value} {σ : gS} : wp d pr_L Q 983 [x0, x1, x2, x3] st σ ↔ wp d pr_L Q 984 [x0, x1, x2, x3] (.int (3) :: st) σ := w_push (n := 1) rfl
set_option maxRecDepth 100000 in
theorem e_L_984 {d : Nat} {Q : Option Value → gS → Prop} {x0 x1 x2 x3 : Option Value} {x y : Int32} {st : List Value} {σ : gS} : wp d pr_L Q 984 [x0, x1, x2, x3] (.int y :: .int x :: st) σ ↔ wp d pr_L Q 985 [x0, x1, x2, x3] (.int (x + y) :: st) σ := w_bI (f := fun x y => x + y) rfl
set_option maxRecDepth 100000 in
theorem e_L_985 {d : Nat} {Q : Option Value → gS → Prop} {x0 x1 x2 x3 : Option Value} {i : Int32} {a : Nat} {st : List Value} {σ : gS} : wp d pr_L Q 985 [x0, x1, x2, x3] (.int i :: .ref a :: st) σ ↔ ((gK σ a = 21 ∨ gK σ a = 26) ∧ ¬ i < 0 ∧ i.toNatClampNeg < gN σ a) ∧ wp d pr_L Q 986 [x0, x1, x2, x3] (.int (gI σ a i.toNatClampNeg) :: st) σ := w_iald rfl
set_option maxRecDepth 100000 in
theorem e_L_986 {d : Nat} {Q : Option Value → gS → Prop} {x0 x1 x2 x3 : Option Value} {v0 v1 v2 : Value} {a : Nat}  {st : List Value} {σ : gS} : wp d pr_L Q 986 [x0, x1, x2, x3] (v2 :: v1 :: v0 :: .ref a :: st) σ ↔ (gK σ a = 13 ∧ st.length ≤ 4) ∧ wc d 249 [.ref a, v0, v1, v2] σ (fun r τ => wp d pr_L Q 989 [x0, x1, x2, x3] (r.toList ++ st) τ) := w_callV rfl (by simp) rfl rfl
set_option maxRecDepth 100000 in
theorem e_L_989 {d : Nat} {Q : Option Value → gS → Prop} {x0 x1 x2 x3 : Option Value} {x y : Int32} {st : List Value} {σ : gS} : wp d pr_L Q 989 [x0, x1, x2, x3] (.int y :: .int x :: st) σ ↔ ((x = y) → wp d pr_L Q 1495 [x0, x1, x2, x3] (st) σ) ∧ (¬ (x = y) → wp d pr_L Q 992 [x0, x1, x2, x3] (st) σ) := w_icmp rfl decide_eq_true_iff
set_option maxRecDepth 100000 in
theorem e_L_992 {d : Nat} {Q : Option Value → gS → Prop} {x0 x1 x2 x3 : Option Value}  {st : List Value} {σ : gS} : wp d pr_L Q 992 [x0, x1, x2, x3] st σ ↔ wp d pr_L Q 993 [x0, x1, x2, x3] (.int (0) :: st) σ := w_push (n := 1) rfl
set_option maxRecDepth 100000 in
theorem e_L_993 {d : Nat} {Q : Option Value → gS → Prop} {x0 x1 x2 x3 : Option Value} {v : Int32} {σ : gS} : wp d pr_L Q 993 [x0, x1, x2, x3] [.int v] σ ↔ (v = 0 ∨ v = 1) ∧ Q (some (.int v)) σ := w_zret rfl
set_option maxRecDepth 100000 in
theorem e_L_994 {d : Nat} {Q : Option Value → gS → Prop} {x0 x2 x3 : Option Value} {v : Nat} {st : List Value} {σ : gS} : wp d pr_L Q 994 [x0, some (.ref v), x2, x3] st σ ↔ wp d pr_L Q 995 [x0, some (.ref v), x2, x3] (.ref v :: st) σ := w_aload (k := 1) (n := 1) rfl rfl
set_option maxRecDepth 100000 in
theorem e_L_994n {d : Nat} {Q : Option Value → gS → Prop} {x0 x2 x3 : Option Value}  {st : List Value} {σ : gS} : wp d pr_L Q 994 [x0, some .null, x2, x3] st σ ↔ wp d pr_L Q 995 [x0, some .null, x2, x3] (.null :: st) σ := w_aloadN (k := 1) (n := 1) rfl rfl
set_option maxRecDepth 100000 in
theorem e_L_995 {d : Nat} {Q : Option Value → gS → Prop} {x0 x1 x2 x3 : Option Value} {a : Nat}  {st : List Value} {σ : gS} : wp d pr_L Q 995 [x0, x1, x2, x3] (.ref a :: st) σ ↔ (gK σ a = 12 ∧ st.length ≤ 4) ∧ wc d 138 [.ref a] σ (fun r τ => wp d pr_L Q 998 [x0, x1, x2, x3] (r.toList ++ st) τ) := w_callV rfl (by simp) rfl rfl
set_option maxRecDepth 100000 in
theorem e_L_998 {d : Nat} {Q : Option Value → gS → Prop} {x0 x1 x3 : Option Value} {v : Nat} {st : List Value} {σ : gS} : wp d pr_L Q 998 [x0, x1, some (.ref v), x3] st σ ↔ wp d pr_L Q 999 [x0, x1, some (.ref v), x3] (.ref v :: st) σ := w_aload (k := 2) (n := 1) rfl rfl
set_option maxRecDepth 100000 in
theorem e_L_998n {d : Nat} {Q : Option Value → gS → Prop} {x0 x1 x3 : Option Value}  {st : List Value} {σ : gS} : wp d pr_L Q 998 [x0, x1, some .null, x3] st σ ↔ wp d pr_L Q 999 [x0, x1, some .null, x3] (.null :: st) σ := w_aloadN (k := 2) (n := 1) rfl rfl
set_option maxRecDepth 100000 in
theorem e_L_999 {d : Nat} {Q : Option Value → gS → Prop} {x0 x1 x2 x3 : Option Value} {a : Nat}  {st : List Value} {σ : gS} : wp d pr_L Q 999 [x0, x1, x2, x3] (.ref a :: st) σ ↔ (gK σ a = 13 ∧ st.length ≤ 4) ∧ wc d 250 [.ref a] σ (fun r τ => wp d pr_L Q 1002 [x0, x1, x2, x3] (r.toList ++ st) τ) := w_callV rfl (by simp) rfl rfl
set_option maxRecDepth 100000 in
theorem e_L_1002 {d : Nat} {Q : Option Value → gS → Prop} {x0 x1 x2 x3 : Option Value} {x y : Int32} {st : List Value} {σ : gS} : wp d pr_L Q 1002 [x0, x1, x2, x3] (.int y :: .int x :: st) σ ↔ ((x = y) → wp d pr_L Q 1495 [x0, x1, x2, x3] (st) σ) ∧ (¬ (x = y) → wp d pr_L Q 1005 [x0, x1, x2, x3] (st) σ) := w_icmp rfl decide_eq_true_iff
set_option maxRecDepth 100000 in
theorem e_L_1005 {d : Nat} {Q : Option Value → gS → Prop} {x0 x1 x2 x3 : Option Value}  {st : List Value} {σ : gS} : wp d pr_L Q 1005 [x0, x1, x2, x3] st σ ↔ wp d pr_L Q 1006 [x0, x1, x2, x3] (.int (0) :: st) σ := w_push (n := 1) rfl
set_option maxRecDepth 100000 in
theorem e_L_1006 {d : Nat} {Q : Option Value → gS → Prop} {x0 x1 x2 x3 : Option Value} {v : Int32} {σ : gS} : wp d pr_L Q 1006 [x0, x1, x2, x3] [.int v] σ ↔ (v = 0 ∨ v = 1) ∧ Q (some (.int v)) σ := w_zret rfl
set_option maxRecDepth 100000 in
theorem e_L_1007 {d : Nat} {Q : Option Value → gS → Prop} {x0 x2 x3 : Option Value} {v : Nat} {st : List Value} {σ : gS} : wp d pr_L Q 1007 [x0, some (.ref v), x2, x3] st σ ↔ wp d pr_L Q 1008 [x0, some (.ref v), x2, x3] (.ref v :: st) σ := w_aload (k := 1) (n := 1) rfl rfl
set_option maxRecDepth 100000 in
theorem e_L_1007n {d : Nat} {Q : Option Value → gS → Prop} {x0 x2 x3 : Option Value}  {st : List Value} {σ : gS} : wp d pr_L Q 1007 [x0, some .null, x2, x3] st σ ↔ wp d pr_L Q 1008 [x0, some .null, x2, x3] (.null :: st) σ := w_aloadN (k := 1) (n := 1) rfl rfl
set_option maxRecDepth 100000 in
theorem e_L_1008 {d : Nat} {Q : Option Value → gS → Prop} {x1 x2 x3 : Option Value} {v : Nat} {st : List Value} {σ : gS} : wp d pr_L Q 1008 [some (.ref v), x1, x2, x3] st σ ↔ wp d pr_L Q 1009 [some (.ref v), x1, x2, x3] (.ref v :: st) σ := w_aload (k := 0) (n := 1) rfl rfl
set_option maxRecDepth 100000 in
theorem e_L_1009 {d : Nat} {Q : Option Value → gS → Prop} {x0 x1 x2 : Option Value} {v : Int32} {st : List Value} {σ : gS} : wp d pr_L Q 1009 [x0, x1, x2, some (.int v)] st σ ↔ wp d pr_L Q 1010 [x0, x1, x2, some (.int v)] (.int v :: st) σ := w_iload (k := 3) (n := 1) rfl rfl
set_option maxRecDepth 100000 in
theorem e_L_1010 {d : Nat} {Q : Option Value → gS → Prop} {x0 x1 x2 x3 : Option Value}  {st : List Value} {σ : gS} : wp d pr_L Q 1010 [x0, x1, x2, x3] st σ ↔ wp d pr_L Q 1011 [x0, x1, x2, x3] (.int (1) :: st) σ := w_push (n := 1) rfl
set_option maxRecDepth 100000 in
theorem e_L_1011 {d : Nat} {Q : Option Value → gS → Prop} {x0 x1 x2 x3 : Option Value} {x y : Int32} {st : List Value} {σ : gS} : wp d pr_L Q 1011 [x0, x1, x2, x3] (.int y :: .int x :: st) σ ↔ wp d pr_L Q 1012 [x0, x1, x2, x3] (.int (x + y) :: st) σ := w_bI (f := fun x y => x + y) rfl
set_option maxRecDepth 100000 in
theorem e_L_1012 {d : Nat} {Q : Option Value → gS → Prop} {x0 x1 x2 x3 : Option Value} {i : Int32} {a : Nat} {st : List Value} {σ : gS} : wp d pr_L Q 1012 [x0, x1, x2, x3] (.int i :: .ref a :: st) σ ↔ ((gK σ a = 21 ∨ gK σ a = 26) ∧ ¬ i < 0 ∧ i.toNatClampNeg < gN σ a) ∧ wp d pr_L Q 1013 [x0, x1, x2, x3] (.int (gI σ a i.toNatClampNeg) :: st) σ := w_iald rfl
set_option maxRecDepth 100000 in
theorem e_L_1013 {d : Nat} {Q : Option Value → gS → Prop} {x0 x1 x2 x3 : Option Value} {v0 : Value} {a : Nat}  {st : List Value} {σ : gS} : wp d pr_L Q 1013 [x0, x1, x2, x3] (v0 :: .ref a :: st) σ ↔ (gK σ a = 12 ∧ st.length ≤ 4) ∧ wc d 139 [.ref a, v0] σ (fun r τ => wp d pr_L Q 1016 [x0, x1, x2, x3] (r.toList ++ st) τ) := w_callV rfl (by simp) rfl rfl
set_option maxRecDepth 100000 in
theorem e_L_1016 {d : Nat} {Q : Option Value → gS → Prop} {x0 x1 x3 : Option Value} {v : Nat} {st : List Value} {σ : gS} : wp d pr_L Q 1016 [x0, x1, some (.ref v), x3] st σ ↔ wp d pr_L Q 1017 [x0, x1, some (.ref v), x3] (.ref v :: st) σ := w_aload (k := 2) (n := 1) rfl rfl
set_option maxRecDepth 100000 in
theorem e_L_1016n {d : Nat} {Q : Option Value → gS → Prop} {x0 x1 x3 : Option Value}  {st : List Value} {σ : gS} : wp d pr_L Q 1016 [x0, x1, some .null, x3] st σ ↔ wp d pr_L Q 1017 [x0, x1, some .null, x3] (.null :: st) σ := w_aloadN (k := 2) (n := 1) rfl rfl
set_option maxRecDepth 100000 in
theorem e_L_1017 {d : Nat} {Q : Option Value → gS → Prop} {x1 x2 x3 : Option Value} {v : Nat} {st : List Value} {σ : gS} : wp d pr_L Q 1017 [some (.ref v), x1, x2, x3] st σ ↔ wp d pr_L Q 1018 [some (.ref v), x1, x2, x3] (.ref v :: st) σ := w_aload (k := 0) (n := 1) rfl rfl
set_option maxRecDepth 100000 in
theorem e_L_1018 {d : Nat} {Q : Option Value → gS → Prop} {x0 x1 x2 : Option Value} {v : Int32} {st : List Value} {σ : gS} : wp d pr_L Q 1018 [x0, x1, x2, some (.int v)] st σ ↔ wp d pr_L Q 1019 [x0, x1, x2, some (.int v)] (.int v :: st) σ := w_iload (k := 3) (n := 1) rfl rfl
set_option maxRecDepth 100000 in
theorem e_L_1019 {d : Nat} {Q : Option Value → gS → Prop} {x0 x1 x2 x3 : Option Value}  {st : List Value} {σ : gS} : wp d pr_L Q 1019 [x0, x1, x2, x3] st σ ↔ wp d pr_L Q 1020 [x0, x1, x2, x3] (.int (1) :: st) σ := w_push (n := 1) rfl
set_option maxRecDepth 100000 in
theorem e_L_1020 {d : Nat} {Q : Option Value → gS → Prop} {x0 x1 x2 x3 : Option Value} {x y : Int32} {st : List Value} {σ : gS} : wp d pr_L Q 1020 [x0, x1, x2, x3] (.int y :: .int x :: st) σ ↔ wp d pr_L Q 1021 [x0, x1, x2, x3] (.int (x + y) :: st) σ := w_bI (f := fun x y => x + y) rfl
set_option maxRecDepth 100000 in
theorem e_L_1021 {d : Nat} {Q : Option Value → gS → Prop} {x0 x1 x2 x3 : Option Value} {i : Int32} {a : Nat} {st : List Value} {σ : gS} : wp d pr_L Q 1021 [x0, x1, x2, x3] (.int i :: .ref a :: st) σ ↔ ((gK σ a = 21 ∨ gK σ a = 26) ∧ ¬ i < 0 ∧ i.toNatClampNeg < gN σ a) ∧ wp d pr_L Q 1022 [x0, x1, x2, x3] (.int (gI σ a i.toNatClampNeg) :: st) σ := w_iald rfl
set_option maxRecDepth 100000 in
theorem e_L_1022 {d : Nat} {Q : Option Value → gS → Prop} {x0 x1 x2 x3 : Option Value} {v0 : Value} {a : Nat}  {st : List Value} {σ : gS} : wp d pr_L Q 1022 [x0, x1, x2, x3] (v0 :: .ref a :: st) σ ↔ (gK σ a = 13 ∧ st.length ≤ 4) ∧ wc d 255 [.ref a, v0] σ (fun r τ => wp d pr_L Q 1025 [x0, x1, x2, x3] (r.toList ++ st) τ) := w_callV rfl (by simp) rfl rfl
set_option maxRecDepth 100000 in
theorem e_L_1025 {d : Nat} {Q : Option Value → gS → Prop} {x0 x1 x2 x3 : Option Value} {x y : Int32} {st : List Value} {σ : gS} : wp d pr_L Q 1025 [x0, x1, x2, x3] (.int y :: .int x :: st) σ ↔ ((x = y) → wp d pr_L Q 1495 [x0, x1, x2, x3] (st) σ) ∧ (¬ (x = y) → wp d pr_L Q 1028 [x0, x1, x2, x3] (st) σ) := w_icmp rfl decide_eq_true_iff
set_option maxRecDepth 100000 in
theorem e_L_1028 {d : Nat} {Q : Option Value → gS → Prop} {x0 x1 x2 x3 : Option Value}  {st : List Value} {σ : gS} : wp d pr_L Q 1028 [x0, x1, x2, x3] st σ ↔ wp d pr_L Q 1029 [x0, x1, x2, x3] (.int (0) :: st) σ := w_push (n := 1) rfl
set_option maxRecDepth 100000 in
theorem e_L_1029 {d : Nat} {Q : Option Value → gS → Prop} {x0 x1 x2 x3 : Option Value} {v : Int32} {σ : gS} : wp d pr_L Q 1029 [x0, x1, x2, x3] [.int v] σ ↔ (v = 0 ∨ v = 1) ∧ Q (some (.int v)) σ := w_zret rfl
set_option maxRecDepth 100000 in
theorem e_L_1030 {d : Nat} {Q : Option Value → gS → Prop} {x0 x2 x3 : Option Value} {v : Nat} {st : List Value} {σ : gS} : wp d pr_L Q 1030 [x0, some (.ref v), x2, x3] st σ ↔ wp d pr_L Q 1031 [x0, some (.ref v), x2, x3] (.ref v :: st) σ := w_aload (k := 1) (n := 1) rfl rfl
set_option maxRecDepth 100000 in
theorem e_L_1030n {d : Nat} {Q : Option Value → gS → Prop} {x0 x2 x3 : Option Value}  {st : List Value} {σ : gS} : wp d pr_L Q 1030 [x0, some .null, x2, x3] st σ ↔ wp d pr_L Q 1031 [x0, some .null, x2, x3] (.null :: st) σ := w_aloadN (k := 1) (n := 1) rfl rfl
set_option maxRecDepth 100000 in
theorem e_L_1031 {d : Nat} {Q : Option Value → gS → Prop} {x1 x2 x3 : Option Value} {v : Nat} {st : List Value} {σ : gS} : wp d pr_L Q 1031 [some (.ref v), x1, x2, x3] st σ ↔ wp d pr_L Q 1032 [some (.ref v), x1, x2, x3] (.ref v :: st) σ := w_aload (k := 0) (n := 1) rfl rfl
set_option maxRecDepth 100000 in
theorem e_L_1032 {d : Nat} {Q : Option Value → gS → Prop} {x0 x1 x2 : Option Value} {v : Int32} {st : List Value} {σ : gS} : wp d pr_L Q 1032 [x0, x1, x2, some (.int v)] st σ ↔ wp d pr_L Q 1033 [x0, x1, x2, some (.int v)] (.int v :: st) σ := w_iload (k := 3) (n := 1) rfl rfl
set_option maxRecDepth 100000 in
theorem e_L_1033 {d : Nat} {Q : Option Value → gS → Prop} {x0 x1 x2 x3 : Option Value}  {st : List Value} {σ : gS} : wp d pr_L Q 1033 [x0, x1, x2, x3] st σ ↔ wp d pr_L Q 1034 [x0, x1, x2, x3] (.int (1) :: st) σ := w_push (n := 1) rfl
set_option maxRecDepth 100000 in
theorem e_L_1034 {d : Nat} {Q : Option Value → gS → Prop} {x0 x1 x2 x3 : Option Value} {x y : Int32} {st : List Value} {σ : gS} : wp d pr_L Q 1034 [x0, x1, x2, x3] (.int y :: .int x :: st) σ ↔ wp d pr_L Q 1035 [x0, x1, x2, x3] (.int (x + y) :: st) σ := w_bI (f := fun x y => x + y) rfl
set_option maxRecDepth 100000 in
theorem e_L_1035 {d : Nat} {Q : Option Value → gS → Prop} {x0 x1 x2 x3 : Option Value} {i : Int32} {a : Nat} {st : List Value} {σ : gS} : wp d pr_L Q 1035 [x0, x1, x2, x3] (.int i :: .ref a :: st) σ ↔ ((gK σ a = 21 ∨ gK σ a = 26) ∧ ¬ i < 0 ∧ i.toNatClampNeg < gN σ a) ∧ wp d pr_L Q 1036 [x0, x1, x2, x3] (.int (gI σ a i.toNatClampNeg) :: st) σ := w_iald rfl
set_option maxRecDepth 100000 in
theorem e_L_1036 {d : Nat} {Q : Option Value → gS → Prop} {x1 x2 x3 : Option Value} {v : Nat} {st : List Value} {σ : gS} : wp d pr_L Q 1036 [some (.ref v), x1, x2, x3] st σ ↔ wp d pr_L Q 1037 [some (.ref v), x1, x2, x3] (.ref v :: st) σ := w_aload (k := 0) (n := 1) rfl rfl
set_option maxRecDepth 100000 in
theorem e_L_1037 {d : Nat} {Q : Option Value → gS → Prop} {x0 x1 x2 : Option Value} {v : Int32} {st : List Value} {σ : gS} : wp d pr_L Q 1037 [x0, x1, x2, some (.int v)] st σ ↔ wp d pr_L Q 1038 [x0, x1, x2, some (.int v)] (.int v :: st) σ := w_iload (k := 3) (n := 1) rfl rfl
set_option maxRecDepth 100000 in
theorem e_L_1038 {d : Nat} {Q : Option Value → gS → Prop} {x0 x1 x2 x3 : Option Value}  {st : List Value} {σ : gS} : wp d pr_L Q 1038 [x0, x1, x2, x3] st σ ↔ wp d pr_L Q 1039 [x0, x1, x2, x3] (.int (2) :: st) σ := w_push (n := 1) rfl
set_option maxRecDepth 100000 in
theorem e_L_1039 {d : Nat} {Q : Option Value → gS → Prop} {x0 x1 x2 x3 : Option Value} {x y : Int32} {st : List Value} {σ : gS} : wp d pr_L Q 1039 [x0, x1, x2, x3] (.int y :: .int x :: st) σ ↔ wp d pr_L Q 1040 [x0, x1, x2, x3] (.int (x + y) :: st) σ := w_bI (f := fun x y => x + y) rfl
set_option maxRecDepth 100000 in
theorem e_L_1040 {d : Nat} {Q : Option Value → gS → Prop} {x0 x1 x2 x3 : Option Value} {i : Int32} {a : Nat} {st : List Value} {σ : gS} : wp d pr_L Q 1040 [x0, x1, x2, x3] (.int i :: .ref a :: st) σ ↔ ((gK σ a = 21 ∨ gK σ a = 26) ∧ ¬ i < 0 ∧ i.toNatClampNeg < gN σ a) ∧ wp d pr_L Q 1041 [x0, x1, x2, x3] (.int (gI σ a i.toNatClampNeg) :: st) σ := w_iald rfl
set_option maxRecDepth 100000 in
theorem e_L_1041 {d : Nat} {Q : Option Value → gS → Prop} {x0 x1 x2 x3 : Option Value} {v0 v1 : Value} {a : Nat}  {st : List Value} {σ : gS} : wp d pr_L Q 1041 [x0, x1, x2, x3] (v1 :: v0 :: .ref a :: st) σ ↔ (gK σ a = 12 ∧ st.length ≤ 4) ∧ wc d 140 [.ref a, v0, v1] σ (fun r τ => wp d pr_L Q 1044 [x0, x1, x2, x3] (r.toList ++ st) τ) := w_callV rfl (by simp) rfl rfl
set_option maxRecDepth 100000 in
theorem e_L_1044 {d : Nat} {Q : Option Value → gS → Prop} {x0 x1 x3 : Option Value} {v : Nat} {st : List Value} {σ : gS} : wp d pr_L Q 1044 [x0, x1, some (.ref v), x3] st σ ↔ wp d pr_L Q 1045 [x0, x1, some (.ref v), x3] (.ref v :: st) σ := w_aload (k := 2) (n := 1) rfl rfl
set_option maxRecDepth 100000 in
theorem e_L_1044n {d : Nat} {Q : Option Value → gS → Prop} {x0 x1 x3 : Option Value}  {st : List Value} {σ : gS} : wp d pr_L Q 1044 [x0, x1, some .null, x3] st σ ↔ wp d pr_L Q 1045 [x0, x1, some .null, x3] (.null :: st) σ := w_aloadN (k := 2) (n := 1) rfl rfl
set_option maxRecDepth 100000 in
theorem e_L_1045 {d : Nat} {Q : Option Value → gS → Prop} {x1 x2 x3 : Option Value} {v : Nat} {st : List Value} {σ : gS} : wp d pr_L Q 1045 [some (.ref v), x1, x2, x3] st σ ↔ wp d pr_L Q 1046 [some (.ref v), x1, x2, x3] (.ref v :: st) σ := w_aload (k := 0) (n := 1) rfl rfl
set_option maxRecDepth 100000 in
theorem e_L_1046 {d : Nat} {Q : Option Value → gS → Prop} {x0 x1 x2 : Option Value} {v : Int32} {st : List Value} {σ : gS} : wp d pr_L Q 1046 [x0, x1, x2, some (.int v)] st σ ↔ wp d pr_L Q 1047 [x0, x1, x2, some (.int v)] (.int v :: st) σ := w_iload (k := 3) (n := 1) rfl rfl
set_option maxRecDepth 100000 in
theorem e_L_1047 {d : Nat} {Q : Option Value → gS → Prop} {x0 x1 x2 x3 : Option Value}  {st : List Value} {σ : gS} : wp d pr_L Q 1047 [x0, x1, x2, x3] st σ ↔ wp d pr_L Q 1048 [x0, x1, x2, x3] (.int (1) :: st) σ := w_push (n := 1) rfl
set_option maxRecDepth 100000 in
theorem e_L_1048 {d : Nat} {Q : Option Value → gS → Prop} {x0 x1 x2 x3 : Option Value} {x y : Int32} {st : List Value} {σ : gS} : wp d pr_L Q 1048 [x0, x1, x2, x3] (.int y :: .int x :: st) σ ↔ wp d pr_L Q 1049 [x0, x1, x2, x3] (.int (x + y) :: st) σ := w_bI (f := fun x y => x + y) rfl
set_option maxRecDepth 100000 in
theorem e_L_1049 {d : Nat} {Q : Option Value → gS → Prop} {x0 x1 x2 x3 : Option Value} {i : Int32} {a : Nat} {st : List Value} {σ : gS} : wp d pr_L Q 1049 [x0, x1, x2, x3] (.int i :: .ref a :: st) σ ↔ ((gK σ a = 21 ∨ gK σ a = 26) ∧ ¬ i < 0 ∧ i.toNatClampNeg < gN σ a) ∧ wp d pr_L Q 1050 [x0, x1, x2, x3] (.int (gI σ a i.toNatClampNeg) :: st) σ := w_iald rfl
set_option maxRecDepth 100000 in
theorem e_L_1050 {d : Nat} {Q : Option Value → gS → Prop} {x1 x2 x3 : Option Value} {v : Nat} {st : List Value} {σ : gS} : wp d pr_L Q 1050 [some (.ref v), x1, x2, x3] st σ ↔ wp d pr_L Q 1051 [some (.ref v), x1, x2, x3] (.ref v :: st) σ := w_aload (k := 0) (n := 1) rfl rfl
set_option maxRecDepth 100000 in
theorem e_L_1051 {d : Nat} {Q : Option Value → gS → Prop} {x0 x1 x2 : Option Value} {v : Int32} {st : List Value} {σ : gS} : wp d pr_L Q 1051 [x0, x1, x2, some (.int v)] st σ ↔ wp d pr_L Q 1052 [x0, x1, x2, some (.int v)] (.int v :: st) σ := w_iload (k := 3) (n := 1) rfl rfl
set_option maxRecDepth 100000 in
theorem e_L_1052 {d : Nat} {Q : Option Value → gS → Prop} {x0 x1 x2 x3 : Option Value}  {st : List Value} {σ : gS} : wp d pr_L Q 1052 [x0, x1, x2, x3] st σ ↔ wp d pr_L Q 1053 [x0, x1, x2, x3] (.int (2) :: st) σ := w_push (n := 1) rfl
set_option maxRecDepth 100000 in
theorem e_L_1053 {d : Nat} {Q : Option Value → gS → Prop} {x0 x1 x2 x3 : Option Value} {x y : Int32} {st : List Value} {σ : gS} : wp d pr_L Q 1053 [x0, x1, x2, x3] (.int y :: .int x :: st) σ ↔ wp d pr_L Q 1054 [x0, x1, x2, x3] (.int (x + y) :: st) σ := w_bI (f := fun x y => x + y) rfl
set_option maxRecDepth 100000 in
theorem e_L_1054 {d : Nat} {Q : Option Value → gS → Prop} {x0 x1 x2 x3 : Option Value} {i : Int32} {a : Nat} {st : List Value} {σ : gS} : wp d pr_L Q 1054 [x0, x1, x2, x3] (.int i :: .ref a :: st) σ ↔ ((gK σ a = 21 ∨ gK σ a = 26) ∧ ¬ i < 0 ∧ i.toNatClampNeg < gN σ a) ∧ wp d pr_L Q 1055 [x0, x1, x2, x3] (.int (gI σ a i.toNatClampNeg) :: st) σ := w_iald rfl
set_option maxRecDepth 100000 in
theorem e_L_1055 {d : Nat} {Q : Option Value → gS → Prop} {x0 x1 x2 x3 : Option Value} {v0 v1 : Value} {a : Nat}  {st : List Value} {σ : gS} : wp d pr_L Q 1055 [x0, x1, x2, x3] (v1 :: v0 :: .ref a :: st) σ ↔ (gK σ a = 13 ∧ st.length ≤ 4) ∧ wc d 257 [.ref a, v0, v1] σ (fun r τ => wp d pr_L Q 1058 [x0, x1, x2, x3] (r.toList ++ st) τ) := w_callV rfl (by simp) rfl rfl
set_option maxRecDepth 100000 in
theorem e_L_1058 {d : Nat} {Q : Option Value → gS → Prop} {x0 x1 x2 x3 : Option Value} {x y : Int32} {st : List Value} {σ : gS} : wp d pr_L Q 1058 [x0, x1, x2, x3] (.int y :: .int x :: st) σ ↔ ((x = y) → wp d pr_L Q 1495 [x0, x1, x2, x3] (st) σ) ∧ (¬ (x = y) → wp d pr_L Q 1061 [x0, x1, x2, x3] (st) σ) := w_icmp rfl decide_eq_true_iff
set_option maxRecDepth 100000 in
theorem e_L_1061 {d : Nat} {Q : Option Value → gS → Prop} {x0 x1 x2 x3 : Option Value}  {st : List Value} {σ : gS} : wp d pr_L Q 1061 [x0, x1, x2, x3] st σ ↔ wp d pr_L Q 1062 [x0, x1, x2, x3] (.int (0) :: st) σ := w_push (n := 1) rfl
set_option maxRecDepth 100000 in
theorem e_L_1062 {d : Nat} {Q : Option Value → gS → Prop} {x0 x1 x2 x3 : Option Value} {v : Int32} {σ : gS} : wp d pr_L Q 1062 [x0, x1, x2, x3] [.int v] σ ↔ (v = 0 ∨ v = 1) ∧ Q (some (.int v)) σ := w_zret rfl
set_option maxRecDepth 100000 in
theorem e_L_1063 {d : Nat} {Q : Option Value → gS → Prop} {x0 x2 x3 : Option Value} {v : Nat} {st : List Value} {σ : gS} : wp d pr_L Q 1063 [x0, some (.ref v), x2, x3] st σ ↔ wp d pr_L Q 1064 [x0, some (.ref v), x2, x3] (.ref v :: st) σ := w_aload (k := 1) (n := 1) rfl rfl
set_option maxRecDepth 100000 in
theorem e_L_1063n {d : Nat} {Q : Option Value → gS → Prop} {x0 x2 x3 : Option Value}  {st : List Value} {σ : gS} : wp d pr_L Q 1063 [x0, some .null, x2, x3] st σ ↔ wp d pr_L Q 1064 [x0, some .null, x2, x3] (.null :: st) σ := w_aloadN (k := 1) (n := 1) rfl rfl
set_option maxRecDepth 100000 in
theorem e_L_1064 {d : Nat} {Q : Option Value → gS → Prop} {x1 x2 x3 : Option Value} {v : Nat} {st : List Value} {σ : gS} : wp d pr_L Q 1064 [some (.ref v), x1, x2, x3] st σ ↔ wp d pr_L Q 1065 [some (.ref v), x1, x2, x3] (.ref v :: st) σ := w_aload (k := 0) (n := 1) rfl rfl
set_option maxRecDepth 100000 in
theorem e_L_1065 {d : Nat} {Q : Option Value → gS → Prop} {x0 x1 x2 : Option Value} {v : Int32} {st : List Value} {σ : gS} : wp d pr_L Q 1065 [x0, x1, x2, some (.int v)] st σ ↔ wp d pr_L Q 1066 [x0, x1, x2, some (.int v)] (.int v :: st) σ := w_iload (k := 3) (n := 1) rfl rfl
set_option maxRecDepth 100000 in
theorem e_L_1066 {d : Nat} {Q : Option Value → gS → Prop} {x0 x1 x2 x3 : Option Value}  {st : List Value} {σ : gS} : wp d pr_L Q 1066 [x0, x1, x2, x3] st σ ↔ wp d pr_L Q 1067 [x0, x1, x2, x3] (.int (1) :: st) σ := w_push (n := 1) rfl
set_option maxRecDepth 100000 in
theorem e_L_1067 {d : Nat} {Q : Option Value → gS → Prop} {x0 x1 x2 x3 : Option Value} {x y : Int32} {st : List Value} {σ : gS} : wp d pr_L Q 1067 [x0, x1, x2, x3] (.int y :: .int x :: st) σ ↔ wp d pr_L Q 1068 [x0, x1, x2, x3] (.int (x + y) :: st) σ := w_bI (f := fun x y => x + y) rfl
set_option maxRecDepth 100000 in
theorem e_L_1068 {d : Nat} {Q : Option Value → gS → Prop} {x0 x1 x2 x3 : Option Value} {i : Int32} {a : Nat} {st : List Value} {σ : gS} : wp d pr_L Q 1068 [x0, x1, x2, x3] (.int i :: .ref a :: st) σ ↔ ((gK σ a = 21 ∨ gK σ a = 26) ∧ ¬ i < 0 ∧ i.toNatClampNeg < gN σ a) ∧ wp d pr_L Q 1069 [x0, x1, x2, x3] (.int (gI σ a i.toNatClampNeg) :: st) σ := w_iald rfl
set_option maxRecDepth 100000 in
theorem e_L_1069 {d : Nat} {Q : Option Value → gS → Prop} {x1 x2 x3 : Option Value} {v : Nat} {st : List Value} {σ : gS} : wp d pr_L Q 1069 [some (.ref v), x1, x2, x3] st σ ↔ wp d pr_L Q 1070 [some (.ref v), x1, x2, x3] (.ref v :: st) σ := w_aload (k := 0) (n := 1) rfl rfl
set_option maxRecDepth 100000 in
theorem e_L_1070 {d : Nat} {Q : Option Value → gS → Prop} {x0 x1 x2 : Option Value} {v : Int32} {st : List Value} {σ : gS} : wp d pr_L Q 1070 [x0, x1, x2, some (.int v)] st σ ↔ wp d pr_L Q 1071 [x0, x1, x2, some (.int v)] (.int v :: st) σ := w_iload (k := 3) (n := 1) rfl rfl
set_option maxRecDepth 100000 in
theorem e_L_1071 {d : Nat} {Q : Option Value → gS → Prop} {x0 x1 x2 x3 : Option Value}  {st : List Value} {σ : gS} : wp d pr_L Q 1071 [x0, x1, x2, x3] st σ ↔ wp d pr_L Q 1072 [x0, x1, x2, x3] (.int (2) :: st) σ := w_push (n := 1) rfl
set_option maxRecDepth 100000 in
theorem e_L_1072 {d : Nat} {Q : Option Value → gS → Prop} {x0 x1 x2 x3 : Option Value} {x y : Int32} {st : List Value} {σ : gS} : wp d pr_L Q 1072 [x0, x1, x2, x3] (.int y :: .int x :: st) σ ↔ wp d pr_L Q 1073 [x0, x1, x2, x3] (.int (x + y) :: st) σ := w_bI (f := fun x y => x + y) rfl
set_option maxRecDepth 100000 in
theorem e_L_1073 {d : Nat} {Q : Option Value → gS → Prop} {x0 x1 x2 x3 : Option Value} {i : Int32} {a : Nat} {st : List Value} {σ : gS} : wp d pr_L Q 1073 [x0, x1, x2, x3] (.int i :: .ref a :: st) σ ↔ ((gK σ a = 21 ∨ gK σ a = 26) ∧ ¬ i < 0 ∧ i.toNatClampNeg < gN σ a) ∧ wp d pr_L Q 1074 [x0, x1, x2, x3] (.int (gI σ a i.toNatClampNeg) :: st) σ := w_iald rfl
set_option maxRecDepth 100000 in
theorem e_L_1074 {d : Nat} {Q : Option Value → gS → Prop} {x0 x1 x2 x3 : Option Value} {v0 v1 : Value} {a : Nat}  {st : List Value} {σ : gS} : wp d pr_L Q 1074 [x0, x1, x2, x3] (v1 :: v0 :: .ref a :: st) σ ↔ (gK σ a = 12 ∧ st.length ≤ 4) ∧ wc d 141 [.ref a, v0, v1] σ (fun r τ => wp d pr_L Q 1077 [x0, x1, x2, x3] (r.toList ++ st) τ) := w_callV rfl (by simp) rfl rfl
set_option maxRecDepth 100000 in
theorem e_L_1077 {d : Nat} {Q : Option Value → gS → Prop} {x0 x1 x3 : Option Value} {v : Nat} {st : List Value} {σ : gS} : wp d pr_L Q 1077 [x0, x1, some (.ref v), x3] st σ ↔ wp d pr_L Q 1078 [x0, x1, some (.ref v), x3] (.ref v :: st) σ := w_aload (k := 2) (n := 1) rfl rfl
set_option maxRecDepth 100000 in
theorem e_L_1077n {d : Nat} {Q : Option Value → gS → Prop} {x0 x1 x3 : Option Value}  {st : List Value} {σ : gS} : wp d pr_L Q 1077 [x0, x1, some .null, x3] st σ ↔ wp d pr_L Q 1078 [x0, x1, some .null, x3] (.null :: st) σ := w_aloadN (k := 2) (n := 1) rfl rfl
set_option maxRecDepth 100000 in
theorem e_L_1078 {d : Nat} {Q : Option Value → gS → Prop} {x1 x2 x3 : Option Value} {v : Nat} {st : List Value} {σ : gS} : wp d pr_L Q 1078 [some (.ref v), x1, x2, x3] st σ ↔ wp d pr_L Q 1079 [some (.ref v), x1, x2, x3] (.ref v :: st) σ := w_aload (k := 0) (n := 1) rfl rfl
set_option maxRecDepth 100000 in
theorem e_L_1079 {d : Nat} {Q : Option Value → gS → Prop} {x0 x1 x2 : Option Value} {v : Int32} {st : List Value} {σ : gS} : wp d pr_L Q 1079 [x0, x1, x2, some (.int v)] st σ ↔ wp d pr_L Q 1080 [x0, x1, x2, some (.int v)] (.int v :: st) σ := w_iload (k := 3) (n := 1) rfl rfl
set_option maxRecDepth 100000 in
theorem e_L_1080 {d : Nat} {Q : Option Value → gS → Prop} {x0 x1 x2 x3 : Option Value}  {st : List Value} {σ : gS} : wp d pr_L Q 1080 [x0, x1, x2, x3] st σ ↔ wp d pr_L Q 1081 [x0, x1, x2, x3] (.int (1) :: st) σ := w_push (n := 1) rfl
set_option maxRecDepth 100000 in
theorem e_L_1081 {d : Nat} {Q : Option Value → gS → Prop} {x0 x1 x2 x3 : Option Value} {x y : Int32} {st : List Value} {σ : gS} : wp d pr_L Q 1081 [x0, x1, x2, x3] (.int y :: .int x :: st) σ ↔ wp d pr_L Q 1082 [x0, x1, x2, x3] (.int (x + y) :: st) σ := w_bI (f := fun x y => x + y) rfl
set_option maxRecDepth 100000 in
theorem e_L_1082 {d : Nat} {Q : Option Value → gS → Prop} {x0 x1 x2 x3 : Option Value} {i : Int32} {a : Nat} {st : List Value} {σ : gS} : wp d pr_L Q 1082 [x0, x1, x2, x3] (.int i :: .ref a :: st) σ ↔ ((gK σ a = 21 ∨ gK σ a = 26) ∧ ¬ i < 0 ∧ i.toNatClampNeg < gN σ a) ∧ wp d pr_L Q 1083 [x0, x1, x2, x3] (.int (gI σ a i.toNatClampNeg) :: st) σ := w_iald rfl
set_option maxRecDepth 100000 in
theorem e_L_1083 {d : Nat} {Q : Option Value → gS → Prop} {x1 x2 x3 : Option Value} {v : Nat} {st : List Value} {σ : gS} : wp d pr_L Q 1083 [some (.ref v), x1, x2, x3] st σ ↔ wp d pr_L Q 1084 [some (.ref v), x1, x2, x3] (.ref v :: st) σ := w_aload (k := 0) (n := 1) rfl rfl
set_option maxRecDepth 100000 in
theorem e_L_1084 {d : Nat} {Q : Option Value → gS → Prop} {x0 x1 x2 : Option Value} {v : Int32} {st : List Value} {σ : gS} : wp d pr_L Q 1084 [x0, x1, x2, some (.int v)] st σ ↔ wp d pr_L Q 1085 [x0, x1, x2, some (.int v)] (.int v :: st) σ := w_iload (k := 3) (n := 1) rfl rfl
set_option maxRecDepth 100000 in
theorem e_L_1085 {d : Nat} {Q : Option Value → gS → Prop} {x0 x1 x2 x3 : Option Value}  {st : List Value} {σ : gS} : wp d pr_L Q 1085 [x0, x1, x2, x3] st σ ↔ wp d pr_L Q 1086 [x0, x1, x2, x3] (.int (2) :: st) σ := w_push (n := 1) rfl
set_option maxRecDepth 100000 in
theorem e_L_1086 {d : Nat} {Q : Option Value → gS → Prop} {x0 x1 x2 x3 : Option Value} {x y : Int32} {st : List Value} {σ : gS} : wp d pr_L Q 1086 [x0, x1, x2, x3] (.int y :: .int x :: st) σ ↔ wp d pr_L Q 1087 [x0, x1, x2, x3] (.int (x + y) :: st) σ := w_bI (f := fun x y => x + y) rfl
set_option maxRecDepth 100000 in
theorem e_L_1087 {d : Nat} {Q : Option Value → gS → Prop} {x0 x1 x2 x3 : Option Value} {i : Int32} {a : Nat} {st : List Value} {σ : gS} : wp d pr_L Q 1087 [x0, x1, x2, x3] (.int i :: .ref a :: st) σ ↔ ((gK σ a = 21 ∨ gK σ a = 26) ∧ ¬ i < 0 ∧ i.toNatClampNeg < gN σ a) ∧ wp d pr_L Q 1088 [x0, x1, x2, x3] (.int (gI σ a i.toNatClampNeg) :: st) σ := w_iald rfl
set_option maxRecDepth 100000 in
theorem e_L_1088 {d : Nat} {Q : Option Value → gS → Prop} {x0 x1 x2 x3 : Option Value} {v0 v1 : Value} {a : Nat}  {st : List Value} {σ : gS} : wp d pr_L Q 1088 [x0, x1, x2, x3] (v1 :: v0 :: .ref a :: st) σ ↔ (gK σ a = 13 ∧ st.length ≤ 4) ∧ wc d 258 [.ref a, v0, v1] σ (fun r τ => wp d pr_L Q 1091 [x0, x1, x2, x3] (r.toList ++ st) τ) := w_callV rfl (by simp) rfl rfl
set_option maxRecDepth 100000 in
theorem e_L_1091 {d : Nat} {Q : Option Value → gS → Prop} {x0 x1 x2 x3 : Option Value} {x y : Int32} {st : List Value} {σ : gS} : wp d pr_L Q 1091 [x0, x1, x2, x3] (.int y :: .int x :: st) σ ↔ ((x = y) → wp d pr_L Q 1495 [x0, x1, x2, x3] (st) σ) ∧ (¬ (x = y) → wp d pr_L Q 1094 [x0, x1, x2, x3] (st) σ) := w_icmp rfl decide_eq_true_iff
set_option maxRecDepth 100000 in
theorem e_L_1094 {d : Nat} {Q : Option Value → gS → Prop} {x0 x1 x2 x3 : Option Value}  {st : List Value} {σ : gS} : wp d pr_L Q 1094 [x0, x1, x2, x3] st σ ↔ wp d pr_L Q 1095 [x0, x1, x2, x3] (.int (0) :: st) σ := w_push (n := 1) rfl
set_option maxRecDepth 100000 in
theorem e_L_1095 {d : Nat} {Q : Option Value → gS → Prop} {x0 x1 x2 x3 : Option Value} {v : Int32} {σ : gS} : wp d pr_L Q 1095 [x0, x1, x2, x3] [.int v] σ ↔ (v = 0 ∨ v = 1) ∧ Q (some (.int v)) σ := w_zret rfl
set_option maxRecDepth 100000 in
theorem e_L_1096 {d : Nat} {Q : Option Value → gS → Prop} {x0 x2 x3 : Option Value} {v : Nat} {st : List Value} {σ : gS} : wp d pr_L Q 1096 [x0, some (.ref v), x2, x3] st σ ↔ wp d pr_L Q 1097 [x0, some (.ref v), x2, x3] (.ref v :: st) σ := w_aload (k := 1) (n := 1) rfl rfl
set_option maxRecDepth 100000 in
theorem e_L_1096n {d : Nat} {Q : Option Value → gS → Prop} {x0 x2 x3 : Option Value}  {st : List Value} {σ : gS} : wp d pr_L Q 1096 [x0, some .null, x2, x3] st σ ↔ wp d pr_L Q 1097 [x0, some .null, x2, x3] (.null :: st) σ := w_aloadN (k := 1) (n := 1) rfl rfl
set_option maxRecDepth 100000 in
theorem e_L_1097 {d : Nat} {Q : Option Value → gS → Prop} {x0 x1 x2 x3 : Option Value} {a : Nat}  {st : List Value} {σ : gS} : wp d pr_L Q 1097 [x0, x1, x2, x3] (.ref a :: st) σ ↔ (gK σ a = 12 ∧ st.length ≤ 4) ∧ wc d 142 [.ref a] σ (fun r τ => wp d pr_L Q 1100 [x0, x1, x2, x3] (r.toList ++ st) τ) := w_callV rfl (by simp) rfl rfl
set_option maxRecDepth 100000 in
theorem e_L_1100 {d : Nat} {Q : Option Value → gS → Prop} {x0 x1 x3 : Option Value} {v : Nat} {st : List Value} {σ : gS} : wp d pr_L Q 1100 [x0, x1, some (.ref v), x3] st σ ↔ wp d pr_L Q 1101 [x0, x1, some (.ref v), x3] (.ref v :: st) σ := w_aload (k := 2) (n := 1) rfl rfl
set_option maxRecDepth 100000 in
theorem e_L_1100n {d : Nat} {Q : Option Value → gS → Prop} {x0 x1 x3 : Option Value}  {st : List Value} {σ : gS} : wp d pr_L Q 1100 [x0, x1, some .null, x3] st σ ↔ wp d pr_L Q 1101 [x0, x1, some .null, x3] (.null :: st) σ := w_aloadN (k := 2) (n := 1) rfl rfl
set_option maxRecDepth 100000 in
theorem e_L_1101 {d : Nat} {Q : Option Value → gS → Prop} {x0 x1 x2 x3 : Option Value} {a : Nat}  {st : List Value} {σ : gS} : wp d pr_L Q 1101 [x0, x1, x2, x3] (.ref a :: st) σ ↔ (gK σ a = 13 ∧ st.length ≤ 4) ∧ wc d 259 [.ref a] σ (fun r τ => wp d pr_L Q 1104 [x0, x1, x2, x3] (r.toList ++ st) τ) := w_callV rfl (by simp) rfl rfl
set_option maxRecDepth 100000 in
theorem e_L_1104 {d : Nat} {Q : Option Value → gS → Prop} {x0 x1 x2 x3 : Option Value} {x y : Int32} {st : List Value} {σ : gS} : wp d pr_L Q 1104 [x0, x1, x2, x3] (.int y :: .int x :: st) σ ↔ ((x = y) → wp d pr_L Q 1495 [x0, x1, x2, x3] (st) σ) ∧ (¬ (x = y) → wp d pr_L Q 1107 [x0, x1, x2, x3] (st) σ) := w_icmp rfl decide_eq_true_iff
set_option maxRecDepth 100000 in
theorem e_L_1107 {d : Nat} {Q : Option Value → gS → Prop} {x0 x1 x2 x3 : Option Value}  {st : List Value} {σ : gS} : wp d pr_L Q 1107 [x0, x1, x2, x3] st σ ↔ wp d pr_L Q 1108 [x0, x1, x2, x3] (.int (0) :: st) σ := w_push (n := 1) rfl
set_option maxRecDepth 100000 in
theorem e_L_1108 {d : Nat} {Q : Option Value → gS → Prop} {x0 x1 x2 x3 : Option Value} {v : Int32} {σ : gS} : wp d pr_L Q 1108 [x0, x1, x2, x3] [.int v] σ ↔ (v = 0 ∨ v = 1) ∧ Q (some (.int v)) σ := w_zret rfl
set_option maxRecDepth 100000 in
theorem e_L_1109 {d : Nat} {Q : Option Value → gS → Prop} {x0 x2 x3 : Option Value} {v : Nat} {st : List Value} {σ : gS} : wp d pr_L Q 1109 [x0, some (.ref v), x2, x3] st σ ↔ wp d pr_L Q 1110 [x0, some (.ref v), x2, x3] (.ref v :: st) σ := w_aload (k := 1) (n := 1) rfl rfl
set_option maxRecDepth 100000 in
theorem e_L_1109n {d : Nat} {Q : Option Value → gS → Prop} {x0 x2 x3 : Option Value}  {st : List Value} {σ : gS} : wp d pr_L Q 1109 [x0, some .null, x2, x3] st σ ↔ wp d pr_L Q 1110 [x0, some .null, x2, x3] (.null :: st) σ := w_aloadN (k := 1) (n := 1) rfl rfl
set_option maxRecDepth 100000 in
theorem e_L_1110 {d : Nat} {Q : Option Value → gS → Prop} {x1 x2 x3 : Option Value} {v : Nat} {st : List Value} {σ : gS} : wp d pr_L Q 1110 [some (.ref v), x1, x2, x3] st σ ↔ wp d pr_L Q 1111 [some (.ref v), x1, x2, x3] (.ref v :: st) σ := w_aload (k := 0) (n := 1) rfl rfl
set_option maxRecDepth 100000 in
theorem e_L_1111 {d : Nat} {Q : Option Value → gS → Prop} {x0 x1 x2 : Option Value} {v : Int32} {st : List Value} {σ : gS} : wp d pr_L Q 1111 [x0, x1, x2, some (.int v)] st σ ↔ wp d pr_L Q 1112 [x0, x1, x2, some (.int v)] (.int v :: st) σ := w_iload (k := 3) (n := 1) rfl rfl
set_option maxRecDepth 100000 in
theorem e_L_1112 {d : Nat} {Q : Option Value → gS → Prop} {x0 x1 x2 x3 : Option Value}  {st : List Value} {σ : gS} : wp d pr_L Q 1112 [x0, x1, x2, x3] st σ ↔ wp d pr_L Q 1113 [x0, x1, x2, x3] (.int (1) :: st) σ := w_push (n := 1) rfl
set_option maxRecDepth 100000 in
theorem e_L_1113 {d : Nat} {Q : Option Value → gS → Prop} {x0 x1 x2 x3 : Option Value} {x y : Int32} {st : List Value} {σ : gS} : wp d pr_L Q 1113 [x0, x1, x2, x3] (.int y :: .int x :: st) σ ↔ wp d pr_L Q 1114 [x0, x1, x2, x3] (.int (x + y) :: st) σ := w_bI (f := fun x y => x + y) rfl
set_option maxRecDepth 100000 in
theorem e_L_1114 {d : Nat} {Q : Option Value → gS → Prop} {x0 x1 x2 x3 : Option Value} {i : Int32} {a : Nat} {st : List Value} {σ : gS} : wp d pr_L Q 1114 [x0, x1, x2, x3] (.int i :: .ref a :: st) σ ↔ ((gK σ a = 21 ∨ gK σ a = 26) ∧ ¬ i < 0 ∧ i.toNatClampNeg < gN σ a) ∧ wp d pr_L Q 1115 [x0, x1, x2, x3] (.int (gI σ a i.toNatClampNeg) :: st) σ := w_iald rfl
set_option maxRecDepth 100000 in
theorem e_L_1115 {d : Nat} {Q : Option Value → gS → Prop} {x0 x1 x2 x3 : Option Value} {v0 : Value} {a : Nat}  {st : List Value} {σ : gS} : wp d pr_L Q 1115 [x0, x1, x2, x3] (v0 :: .ref a :: st) σ ↔ (gK σ a = 12 ∧ st.length ≤ 4) ∧ wc d 143 [.ref a, v0] σ (fun r τ => wp d pr_L Q 1118 [x0, x1, x2, x3] (r.toList ++ st) τ) := w_callV rfl (by simp) rfl rfl
set_option maxRecDepth 100000 in
theorem e_L_1118 {d : Nat} {Q : Option Value → gS → Prop} {x0 x1 x3 : Option Value} {v : Nat} {st : List Value} {σ : gS} : wp d pr_L Q 1118 [x0, x1, some (.ref v), x3] st σ ↔ wp d pr_L Q 1119 [x0, x1, some (.ref v), x3] (.ref v :: st) σ := w_aload (k := 2) (n := 1) rfl rfl
set_option maxRecDepth 100000 in
theorem e_L_1118n {d : Nat} {Q : Option Value → gS → Prop} {x0 x1 x3 : Option Value}  {st : List Value} {σ : gS} : wp d pr_L Q 1118 [x0, x1, some .null, x3] st σ ↔ wp d pr_L Q 1119 [x0, x1, some .null, x3] (.null :: st) σ := w_aloadN (k := 2) (n := 1) rfl rfl
set_option maxRecDepth 100000 in
theorem e_L_1119 {d : Nat} {Q : Option Value → gS → Prop} {x1 x2 x3 : Option Value} {v : Nat} {st : List Value} {σ : gS} : wp d pr_L Q 1119 [some (.ref v), x1, x2, x3] st σ ↔ wp d pr_L Q 1120 [some (.ref v), x1, x2, x3] (.ref v :: st) σ := w_aload (k := 0) (n := 1) rfl rfl
set_option maxRecDepth 100000 in
theorem e_L_1120 {d : Nat} {Q : Option Value → gS → Prop} {x0 x1 x2 : Option Value} {v : Int32} {st : List Value} {σ : gS} : wp d pr_L Q 1120 [x0, x1, x2, some (.int v)] st σ ↔ wp d pr_L Q 1121 [x0, x1, x2, some (.int v)] (.int v :: st) σ := w_iload (k := 3) (n := 1) rfl rfl
set_option maxRecDepth 100000 in
theorem e_L_1121 {d : Nat} {Q : Option Value → gS → Prop} {x0 x1 x2 x3 : Option Value}  {st : List Value} {σ : gS} : wp d pr_L Q 1121 [x0, x1, x2, x3] st σ ↔ wp d pr_L Q 1122 [x0, x1, x2, x3] (.int (1) :: st) σ := w_push (n := 1) rfl
set_option maxRecDepth 100000 in
theorem e_L_1122 {d : Nat} {Q : Option Value → gS → Prop} {x0 x1 x2 x3 : Option Value} {x y : Int32} {st : List Value} {σ : gS} : wp d pr_L Q 1122 [x0, x1, x2, x3] (.int y :: .int x :: st) σ ↔ wp d pr_L Q 1123 [x0, x1, x2, x3] (.int (x + y) :: st) σ := w_bI (f := fun x y => x + y) rfl
set_option maxRecDepth 100000 in
theorem e_L_1123 {d : Nat} {Q : Option Value → gS → Prop} {x0 x1 x2 x3 : Option Value} {i : Int32} {a : Nat} {st : List Value} {σ : gS} : wp d pr_L Q 1123 [x0, x1, x2, x3] (.int i :: .ref a :: st) σ ↔ ((gK σ a = 21 ∨ gK σ a = 26) ∧ ¬ i < 0 ∧ i.toNatClampNeg < gN σ a) ∧ wp d pr_L Q 1124 [x0, x1, x2, x3] (.int (gI σ a i.toNatClampNeg) :: st) σ := w_iald rfl
set_option maxRecDepth 100000 in
theorem e_L_1124 {d : Nat} {Q : Option Value → gS → Prop} {x0 x1 x2 x3 : Option Value} {v0 : Value} {a : Nat}  {st : List Value} {σ : gS} : wp d pr_L Q 1124 [x0, x1, x2, x3] (v0 :: .ref a :: st) σ ↔ (gK σ a = 13 ∧ st.length ≤ 4) ∧ wc d 261 [.ref a, v0] σ (fun r τ => wp d pr_L Q 1127 [x0, x1, x2, x3] (r.toList ++ st) τ) := w_callV rfl (by simp) rfl rfl
set_option maxRecDepth 100000 in
theorem e_L_1127 {d : Nat} {Q : Option Value → gS → Prop} {x0 x1 x2 x3 : Option Value} {x y : Int32} {st : List Value} {σ : gS} : wp d pr_L Q 1127 [x0, x1, x2, x3] (.int y :: .int x :: st) σ ↔ ((x = y) → wp d pr_L Q 1495 [x0, x1, x2, x3] (st) σ) ∧ (¬ (x = y) → wp d pr_L Q 1130 [x0, x1, x2, x3] (st) σ) := w_icmp rfl decide_eq_true_iff
set_option maxRecDepth 100000 in
theorem e_L_1130 {d : Nat} {Q : Option Value → gS → Prop} {x0 x1 x2 x3 : Option Value}  {st : List Value} {σ : gS} : wp d pr_L Q 1130 [x0, x1, x2, x3] st σ ↔ wp d pr_L Q 1131 [x0, x1, x2, x3] (.int (0) :: st) σ := w_push (n := 1) rfl
set_option maxRecDepth 100000 in
theorem e_L_1131 {d : Nat} {Q : Option Value → gS → Prop} {x0 x1 x2 x3 : Option Value} {v : Int32} {σ : gS} : wp d pr_L Q 1131 [x0, x1, x2, x3] [.int v] σ ↔ (v = 0 ∨ v = 1) ∧ Q (some (.int v)) σ := w_zret rfl
set_option maxRecDepth 100000 in
theorem e_L_1132 {d : Nat} {Q : Option Value → gS → Prop} {x0 x2 x3 : Option Value} {v : Nat} {st : List Value} {σ : gS} : wp d pr_L Q 1132 [x0, some (.ref v), x2, x3] st σ ↔ wp d pr_L Q 1133 [x0, some (.ref v), x2, x3] (.ref v :: st) σ := w_aload (k := 1) (n := 1) rfl rfl
set_option maxRecDepth 100000 in
theorem e_L_1132n {d : Nat} {Q : Option Value → gS → Prop} {x0 x2 x3 : Option Value}  {st : List Value} {σ : gS} : wp d pr_L Q 1132 [x0, some .null, x2, x3] st σ ↔ wp d pr_L Q 1133 [x0, some .null, x2, x3] (.null :: st) σ := w_aloadN (k := 1) (n := 1) rfl rfl
set_option maxRecDepth 100000 in
theorem e_L_1133 {d : Nat} {Q : Option Value → gS → Prop} {x1 x2 x3 : Option Value} {v : Nat} {st : List Value} {σ : gS} : wp d pr_L Q 1133 [some (.ref v), x1, x2, x3] st σ ↔ wp d pr_L Q 1134 [some (.ref v), x1, x2, x3] (.ref v :: st) σ := w_aload (k := 0) (n := 1) rfl rfl
set_option maxRecDepth 100000 in
theorem e_L_1134 {d : Nat} {Q : Option Value → gS → Prop} {x0 x1 x2 : Option Value} {v : Int32} {st : List Value} {σ : gS} : wp d pr_L Q 1134 [x0, x1, x2, some (.int v)] st σ ↔ wp d pr_L Q 1135 [x0, x1, x2, some (.int v)] (.int v :: st) σ := w_iload (k := 3) (n := 1) rfl rfl
set_option maxRecDepth 100000 in
theorem e_L_1135 {d : Nat} {Q : Option Value → gS → Prop} {x0 x1 x2 x3 : Option Value}  {st : List Value} {σ : gS} : wp d pr_L Q 1135 [x0, x1, x2, x3] st σ ↔ wp d pr_L Q 1136 [x0, x1, x2, x3] (.int (1) :: st) σ := w_push (n := 1) rfl
set_option maxRecDepth 100000 in
theorem e_L_1136 {d : Nat} {Q : Option Value → gS → Prop} {x0 x1 x2 x3 : Option Value} {x y : Int32} {st : List Value} {σ : gS} : wp d pr_L Q 1136 [x0, x1, x2, x3] (.int y :: .int x :: st) σ ↔ wp d pr_L Q 1137 [x0, x1, x2, x3] (.int (x + y) :: st) σ := w_bI (f := fun x y => x + y) rfl
set_option maxRecDepth 100000 in
theorem e_L_1137 {d : Nat} {Q : Option Value → gS → Prop} {x0 x1 x2 x3 : Option Value} {i : Int32} {a : Nat} {st : List Value} {σ : gS} : wp d pr_L Q 1137 [x0, x1, x2, x3] (.int i :: .ref a :: st) σ ↔ ((gK σ a = 21 ∨ gK σ a = 26) ∧ ¬ i < 0 ∧ i.toNatClampNeg < gN σ a) ∧ wp d pr_L Q 1138 [x0, x1, x2, x3] (.int (gI σ a i.toNatClampNeg) :: st) σ := w_iald rfl
set_option maxRecDepth 100000 in
theorem e_L_1138 {d : Nat} {Q : Option Value → gS → Prop} {x1 x2 x3 : Option Value} {v : Nat} {st : List Value} {σ : gS} : wp d pr_L Q 1138 [some (.ref v), x1, x2, x3] st σ ↔ wp d pr_L Q 1139 [some (.ref v), x1, x2, x3] (.ref v :: st) σ := w_aload (k := 0) (n := 1) rfl rfl
set_option maxRecDepth 100000 in
theorem e_L_1139 {d : Nat} {Q : Option Value → gS → Prop} {x0 x1 x2 : Option Value} {v : Int32} {st : List Value} {σ : gS} : wp d pr_L Q 1139 [x0, x1, x2, some (.int v)] st σ ↔ wp d pr_L Q 1140 [x0, x1, x2, some (.int v)] (.int v :: st) σ := w_iload (k := 3) (n := 1) rfl rfl
set_option maxRecDepth 100000 in
theorem e_L_1140 {d : Nat} {Q : Option Value → gS → Prop} {x0 x1 x2 x3 : Option Value}  {st : List Value} {σ : gS} : wp d pr_L Q 1140 [x0, x1, x2, x3] st σ ↔ wp d pr_L Q 1141 [x0, x1, x2, x3] (.int (2) :: st) σ := w_push (n := 1) rfl
set_option maxRecDepth 100000 in
theorem e_L_1141 {d : Nat} {Q : Option Value → gS → Prop} {x0 x1 x2 x3 : Option Value} {x y : Int32} {st : List Value} {σ : gS} : wp d pr_L Q 1141 [x0, x1, x2, x3] (.int y :: .int x :: st) σ ↔ wp d pr_L Q 1142 [x0, x1, x2, x3] (.int (x + y) :: st) σ := w_bI (f := fun x y => x + y) rfl
set_option maxRecDepth 100000 in
theorem e_L_1142 {d : Nat} {Q : Option Value → gS → Prop} {x0 x1 x2 x3 : Option Value} {i : Int32} {a : Nat} {st : List Value} {σ : gS} : wp d pr_L Q 1142 [x0, x1, x2, x3] (.int i :: .ref a :: st) σ ↔ ((gK σ a = 21 ∨ gK σ a = 26) ∧ ¬ i < 0 ∧ i.toNatClampNeg < gN σ a) ∧ wp d pr_L Q 1143 [x0, x1, x2, x3] (.int (gI σ a i.toNatClampNeg) :: st) σ := w_iald rfl
set_option maxRecDepth 100000 in
theorem e_L_1143 {d : Nat} {Q : Option Value → gS → Prop} {x0 x1 x2 x3 : Option Value} {v0 v1 : Value} {a : Nat}  {st : List Value} {σ : gS} : wp d pr_L Q 1143 [x0, x1, x2, x3] (v1 :: v0 :: .ref a :: st) σ ↔ (gK σ a = 12 ∧ st.length ≤ 4) ∧ wc d 144 [.ref a, v0, v1] σ (fun r τ => wp d pr_L Q 1146 [x0, x1, x2, x3] (r.toList ++ st) τ) := w_callV rfl (by simp) rfl rfl
set_option maxRecDepth 100000 in
theorem e_L_1146 {d : Nat} {Q : Option Value → gS → Prop} {x0 x1 x3 : Option Value} {v : Nat} {st : List Value} {σ : gS} : wp d pr_L Q 1146 [x0, x1, some (.ref v), x3] st σ ↔ wp d pr_L Q 1147 [x0, x1, some (.ref v), x3] (.ref v :: st) σ := w_aload (k := 2) (n := 1) rfl rfl
set_option maxRecDepth 100000 in
theorem e_L_1146n {d : Nat} {Q : Option Value → gS → Prop} {x0 x1 x3 : Option Value}  {st : List Value} {σ : gS} : wp d pr_L Q 1146 [x0, x1, some .null, x3] st σ ↔ wp d pr_L Q 1147 [x0, x1, some .null, x3] (.null :: st) σ := w_aloadN (k := 2) (n := 1) rfl rfl
set_option maxRecDepth 100000 in
theorem e_L_1147 {d : Nat} {Q : Option Value → gS → Prop} {x1 x2 x3 : Option Value} {v : Nat} {st : List Value} {σ : gS} : wp d pr_L Q 1147 [some (.ref v), x1, x2, x3] st σ ↔ wp d pr_L Q 1148 [some (.ref v), x1, x2, x3] (.ref v :: st) σ := w_aload (k := 0) (n := 1) rfl rfl
set_option maxRecDepth 100000 in
theorem e_L_1148 {d : Nat} {Q : Option Value → gS → Prop} {x0 x1 x2 : Option Value} {v : Int32} {st : List Value} {σ : gS} : wp d pr_L Q 1148 [x0, x1, x2, some (.int v)] st σ ↔ wp d pr_L Q 1149 [x0, x1, x2, some (.int v)] (.int v :: st) σ := w_iload (k := 3) (n := 1) rfl rfl
set_option maxRecDepth 100000 in
theorem e_L_1149 {d : Nat} {Q : Option Value → gS → Prop} {x0 x1 x2 x3 : Option Value}  {st : List Value} {σ : gS} : wp d pr_L Q 1149 [x0, x1, x2, x3] st σ ↔ wp d pr_L Q 1150 [x0, x1, x2, x3] (.int (1) :: st) σ := w_push (n := 1) rfl
set_option maxRecDepth 100000 in
theorem e_L_1150 {d : Nat} {Q : Option Value → gS → Prop} {x0 x1 x2 x3 : Option Value} {x y : Int32} {st : List Value} {σ : gS} : wp d pr_L Q 1150 [x0, x1, x2, x3] (.int y :: .int x :: st) σ ↔ wp d pr_L Q 1151 [x0, x1, x2, x3] (.int (x + y) :: st) σ := w_bI (f := fun x y => x + y) rfl
set_option maxRecDepth 100000 in
theorem e_L_1151 {d : Nat} {Q : Option Value → gS → Prop} {x0 x1 x2 x3 : Option Value} {i : Int32} {a : Nat} {st : List Value} {σ : gS} : wp d pr_L Q 1151 [x0, x1, x2, x3] (.int i :: .ref a :: st) σ ↔ ((gK σ a = 21 ∨ gK σ a = 26) ∧ ¬ i < 0 ∧ i.toNatClampNeg < gN σ a) ∧ wp d pr_L Q 1152 [x0, x1, x2, x3] (.int (gI σ a i.toNatClampNeg) :: st) σ := w_iald rfl
set_option maxRecDepth 100000 in
theorem e_L_1152 {d : Nat} {Q : Option Value → gS → Prop} {x1 x2 x3 : Option Value} {v : Nat} {st : List Value} {σ : gS} : wp d pr_L Q 1152 [some (.ref v), x1, x2, x3] st σ ↔ wp d pr_L Q 1153 [some (.ref v), x1, x2, x3] (.ref v :: st) σ := w_aload (k := 0) (n := 1) rfl rfl
set_option maxRecDepth 100000 in
theorem e_L_1153 {d : Nat} {Q : Option Value → gS → Prop} {x0 x1 x2 : Option Value} {v : Int32} {st : List Value} {σ : gS} : wp d pr_L Q 1153 [x0, x1, x2, some (.int v)] st σ ↔ wp d pr_L Q 1154 [x0, x1, x2, some (.int v)] (.int v :: st) σ := w_iload (k := 3) (n := 1) rfl rfl
set_option maxRecDepth 100000 in
theorem e_L_1154 {d : Nat} {Q : Option Value → gS → Prop} {x0 x1 x2 x3 : Option Value}  {st : List Value} {σ : gS} : wp d pr_L Q 1154 [x0, x1, x2, x3] st σ ↔ wp d pr_L Q 1155 [x0, x1, x2, x3] (.int (2) :: st) σ := w_push (n := 1) rfl
set_option maxRecDepth 100000 in
theorem e_L_1155 {d : Nat} {Q : Option Value → gS → Prop} {x0 x1 x2 x3 : Option Value} {x y : Int32} {st : List Value} {σ : gS} : wp d pr_L Q 1155 [x0, x1, x2, x3] (.int y :: .int x :: st) σ ↔ wp d pr_L Q 1156 [x0, x1, x2, x3] (.int (x + y) :: st) σ := w_bI (f := fun x y => x + y) rfl
set_option maxRecDepth 100000 in
theorem e_L_1156 {d : Nat} {Q : Option Value → gS → Prop} {x0 x1 x2 x3 : Option Value} {i : Int32} {a : Nat} {st : List Value} {σ : gS} : wp d pr_L Q 1156 [x0, x1, x2, x3] (.int i :: .ref a :: st) σ ↔ ((gK σ a = 21 ∨ gK σ a = 26) ∧ ¬ i < 0 ∧ i.toNatClampNeg < gN σ a) ∧ wp d pr_L Q 1157 [x0, x1, x2, x3] (.int (gI σ a i.toNatClampNeg) :: st) σ := w_iald rfl
set_option maxRecDepth 100000 in
theorem e_L_1157 {d : Nat} {Q : Option Value → gS → Prop} {x0 x1 x2 x3 : Option Value} {v0 v1 : Value} {a : Nat}  {st : List Value} {σ : gS} : wp d pr_L Q 1157 [x0, x1, x2, x3] (v1 :: v0 :: .ref a :: st) σ ↔ (gK σ a = 13 ∧ st.length ≤ 4) ∧ wc d 262 [.ref a, v0, v1] σ (fun r τ => wp d pr_L Q 1160 [x0, x1, x2, x3] (r.toList ++ st) τ) := w_callV rfl (by simp) rfl rfl
set_option maxRecDepth 100000 in
theorem e_L_1160 {d : Nat} {Q : Option Value → gS → Prop} {x0 x1 x2 x3 : Option Value} {x y : Int32} {st : List Value} {σ : gS} : wp d pr_L Q 1160 [x0, x1, x2, x3] (.int y :: .int x :: st) σ ↔ ((x = y) → wp d pr_L Q 1495 [x0, x1, x2, x3] (st) σ) ∧ (¬ (x = y) → wp d pr_L Q 1163 [x0, x1, x2, x3] (st) σ) := w_icmp rfl decide_eq_true_iff
set_option maxRecDepth 100000 in
theorem e_L_1163 {d : Nat} {Q : Option Value → gS → Prop} {x0 x1 x2 x3 : Option Value}  {st : List Value} {σ : gS} : wp d pr_L Q 1163 [x0, x1, x2, x3] st σ ↔ wp d pr_L Q 1164 [x0, x1, x2, x3] (.int (0) :: st) σ := w_push (n := 1) rfl
set_option maxRecDepth 100000 in
theorem e_L_1164 {d : Nat} {Q : Option Value → gS → Prop} {x0 x1 x2 x3 : Option Value} {v : Int32} {σ : gS} : wp d pr_L Q 1164 [x0, x1, x2, x3] [.int v] σ ↔ (v = 0 ∨ v = 1) ∧ Q (some (.int v)) σ := w_zret rfl
set_option maxRecDepth 100000 in
theorem e_L_1165 {d : Nat} {Q : Option Value → gS → Prop} {x0 x2 x3 : Option Value} {v : Nat} {st : List Value} {σ : gS} : wp d pr_L Q 1165 [x0, some (.ref v), x2, x3] st σ ↔ wp d pr_L Q 1166 [x0, some (.ref v), x2, x3] (.ref v :: st) σ := w_aload (k := 1) (n := 1) rfl rfl
set_option maxRecDepth 100000 in
theorem e_L_1165n {d : Nat} {Q : Option Value → gS → Prop} {x0 x2 x3 : Option Value}  {st : List Value} {σ : gS} : wp d pr_L Q 1165 [x0, some .null, x2, x3] st σ ↔ wp d pr_L Q 1166 [x0, some .null, x2, x3] (.null :: st) σ := w_aloadN (k := 1) (n := 1) rfl rfl
set_option maxRecDepth 100000 in
theorem e_L_1166 {d : Nat} {Q : Option Value → gS → Prop} {x1 x2 x3 : Option Value} {v : Nat} {st : List Value} {σ : gS} : wp d pr_L Q 1166 [some (.ref v), x1, x2, x3] st σ ↔ wp d pr_L Q 1167 [some (.ref v), x1, x2, x3] (.ref v :: st) σ := w_aload (k := 0) (n := 1) rfl rfl
set_option maxRecDepth 100000 in
theorem e_L_1167 {d : Nat} {Q : Option Value → gS → Prop} {x0 x1 x2 : Option Value} {v : Int32} {st : List Value} {σ : gS} : wp d pr_L Q 1167 [x0, x1, x2, some (.int v)] st σ ↔ wp d pr_L Q 1168 [x0, x1, x2, some (.int v)] (.int v :: st) σ := w_iload (k := 3) (n := 1) rfl rfl
set_option maxRecDepth 100000 in
theorem e_L_1168 {d : Nat} {Q : Option Value → gS → Prop} {x0 x1 x2 x3 : Option Value}  {st : List Value} {σ : gS} : wp d pr_L Q 1168 [x0, x1, x2, x3] st σ ↔ wp d pr_L Q 1169 [x0, x1, x2, x3] (.int (1) :: st) σ := w_push (n := 1) rfl
set_option maxRecDepth 100000 in
theorem e_L_1169 {d : Nat} {Q : Option Value → gS → Prop} {x0 x1 x2 x3 : Option Value} {x y : Int32} {st : List Value} {σ : gS} : wp d pr_L Q 1169 [x0, x1, x2, x3] (.int y :: .int x :: st) σ ↔ wp d pr_L Q 1170 [x0, x1, x2, x3] (.int (x + y) :: st) σ := w_bI (f := fun x y => x + y) rfl
set_option maxRecDepth 100000 in
theorem e_L_1170 {d : Nat} {Q : Option Value → gS → Prop} {x0 x1 x2 x3 : Option Value} {i : Int32} {a : Nat} {st : List Value} {σ : gS} : wp d pr_L Q 1170 [x0, x1, x2, x3] (.int i :: .ref a :: st) σ ↔ ((gK σ a = 21 ∨ gK σ a = 26) ∧ ¬ i < 0 ∧ i.toNatClampNeg < gN σ a) ∧ wp d pr_L Q 1171 [x0, x1, x2, x3] (.int (gI σ a i.toNatClampNeg) :: st) σ := w_iald rfl
set_option maxRecDepth 100000 in
theorem e_L_1171 {d : Nat} {Q : Option Value → gS → Prop} {x1 x2 x3 : Option Value} {v : Nat} {st : List Value} {σ : gS} : wp d pr_L Q 1171 [some (.ref v), x1, x2, x3] st σ ↔ wp d pr_L Q 1172 [some (.ref v), x1, x2, x3] (.ref v :: st) σ := w_aload (k := 0) (n := 1) rfl rfl
set_option maxRecDepth 100000 in
theorem e_L_1172 {d : Nat} {Q : Option Value → gS → Prop} {x0 x1 x2 : Option Value} {v : Int32} {st : List Value} {σ : gS} : wp d pr_L Q 1172 [x0, x1, x2, some (.int v)] st σ ↔ wp d pr_L Q 1173 [x0, x1, x2, some (.int v)] (.int v :: st) σ := w_iload (k := 3) (n := 1) rfl rfl
set_option maxRecDepth 100000 in
theorem e_L_1173 {d : Nat} {Q : Option Value → gS → Prop} {x0 x1 x2 x3 : Option Value}  {st : List Value} {σ : gS} : wp d pr_L Q 1173 [x0, x1, x2, x3] st σ ↔ wp d pr_L Q 1174 [x0, x1, x2, x3] (.int (2) :: st) σ := w_push (n := 1) rfl
set_option maxRecDepth 100000 in
theorem e_L_1174 {d : Nat} {Q : Option Value → gS → Prop} {x0 x1 x2 x3 : Option Value} {x y : Int32} {st : List Value} {σ : gS} : wp d pr_L Q 1174 [x0, x1, x2, x3] (.int y :: .int x :: st) σ ↔ wp d pr_L Q 1175 [x0, x1, x2, x3] (.int (x + y) :: st) σ := w_bI (f := fun x y => x + y) rfl
set_option maxRecDepth 100000 in
theorem e_L_1175 {d : Nat} {Q : Option Value → gS → Prop} {x0 x1 x2 x3 : Option Value} {i : Int32} {a : Nat} {st : List Value} {σ : gS} : wp d pr_L Q 1175 [x0, x1, x2, x3] (.int i :: .ref a :: st) σ ↔ ((gK σ a = 21 ∨ gK σ a = 26) ∧ ¬ i < 0 ∧ i.toNatClampNeg < gN σ a) ∧ wp d pr_L Q 1176 [x0, x1, x2, x3] (.int (gI σ a i.toNatClampNeg) :: st) σ := w_iald rfl
set_option maxRecDepth 100000 in
theorem e_L_1176 {d : Nat} {Q : Option Value → gS → Prop} {x0 x1 x2 x3 : Option Value} {v0 v1 : Value} {a : Nat}  {st : List Value} {σ : gS} : wp d pr_L Q 1176 [x0, x1, x2, x3] (v1 :: v0 :: .ref a :: st) σ ↔ (gK σ a = 12 ∧ st.length ≤ 4) ∧ wc d 145 [.ref a, v0, v1] σ (fun r τ => wp d pr_L Q 1179 [x0, x1, x2, x3] (r.toList ++ st) τ) := w_callV rfl (by simp) rfl rfl
set_option maxRecDepth 100000 in
theorem e_L_1179 {d : Nat} {Q : Option Value → gS → Prop} {x0 x1 x3 : Option Value} {v : Nat} {st : List Value} {σ : gS} : wp d pr_L Q 1179 [x0, x1, some (.ref v), x3] st σ ↔ wp d pr_L Q 1180 [x0, x1, some (.ref v), x3] (.ref v :: st) σ := w_aload (k := 2) (n := 1) rfl rfl
set_option maxRecDepth 100000 in
theorem e_L_1179n {d : Nat} {Q : Option Value → gS → Prop} {x0 x1 x3 : Option Value}  {st : List Value} {σ : gS} : wp d pr_L Q 1179 [x0, x1, some .null, x3] st σ ↔ wp d pr_L Q 1180 [x0, x1, some .null, x3] (.null :: st) σ := w_aloadN (k := 2) (n := 1) rfl rfl
set_option maxRecDepth 100000 in
theorem e_L_1180 {d : Nat} {Q : Option Value → gS → Prop} {x1 x2 x3 : Option Value} {v : Nat} {st : List Value} {σ : gS} : wp d pr_L Q 1180 [some (.ref v), x1, x2, x3] st σ ↔ wp d pr_L Q 1181 [some (.ref v), x1, x2, x3] (.ref v :: st) σ := w_aload (k := 0) (n := 1) rfl rfl
set_option maxRecDepth 100000 in
theorem e_L_1181 {d : Nat} {Q : Option Value → gS → Prop} {x0 x1 x2 : Option Value} {v : Int32} {st : List Value} {σ : gS} : wp d pr_L Q 1181 [x0, x1, x2, some (.int v)] st σ ↔ wp d pr_L Q 1182 [x0, x1, x2, some (.int v)] (.int v :: st) σ := w_iload (k := 3) (n := 1) rfl rfl
set_option maxRecDepth 100000 in
theorem e_L_1182 {d : Nat} {Q : Option Value → gS → Prop} {x0 x1 x2 x3 : Option Value}  {st : List Value} {σ : gS} : wp d pr_L Q 1182 [x0, x1, x2, x3] st σ ↔ wp d pr_L Q 1183 [x0, x1, x2, x3] (.int (1) :: st) σ := w_push (n := 1) rfl
set_option maxRecDepth 100000 in
theorem e_L_1183 {d : Nat} {Q : Option Value → gS → Prop} {x0 x1 x2 x3 : Option Value} {x y : Int32} {st : List Value} {σ : gS} : wp d pr_L Q 1183 [x0, x1, x2, x3] (.int y :: .int x :: st) σ ↔ wp d pr_L Q 1184 [x0, x1, x2, x3] (.int (x + y) :: st) σ := w_bI (f := fun x y => x + y) rfl
set_option maxRecDepth 100000 in
theorem e_L_1184 {d : Nat} {Q : Option Value → gS → Prop} {x0 x1 x2 x3 : Option Value} {i : Int32} {a : Nat} {st : List Value} {σ : gS} : wp d pr_L Q 1184 [x0, x1, x2, x3] (.int i :: .ref a :: st) σ ↔ ((gK σ a = 21 ∨ gK σ a = 26) ∧ ¬ i < 0 ∧ i.toNatClampNeg < gN σ a) ∧ wp d pr_L Q 1185 [x0, x1, x2, x3] (.int (gI σ a i.toNatClampNeg) :: st) σ := w_iald rfl
set_option maxRecDepth 100000 in
theorem e_L_1185 {d : Nat} {Q : Option Value → gS → Prop} {x1 x2 x3 : Option Value} {v : Nat} {st : List Value} {σ : gS} : wp d pr_L Q 1185 [some (.ref v), x1, x2, x3] st σ ↔ wp d pr_L Q 1186 [some (.ref v), x1, x2, x3] (.ref v :: st) σ := w_aload (k := 0) (n := 1) rfl rfl
set_option maxRecDepth 100000 in
theorem e_L_1186 {d : Nat} {Q : Option Value → gS → Prop} {x0 x1 x2 : Option Value} {v : Int32} {st : List Value} {σ : gS} : wp d pr_L Q 1186 [x0, x1, x2, some (.int v)] st σ ↔ wp d pr_L Q 1187 [x0, x1, x2, some (.int v)] (.int v :: st) σ := w_iload (k := 3) (n := 1) rfl rfl
set_option maxRecDepth 100000 in
theorem e_L_1187 {d : Nat} {Q : Option Value → gS → Prop} {x0 x1 x2 x3 : Option Value}  {st : List Value} {σ : gS} : wp d pr_L Q 1187 [x0, x1, x2, x3] st σ ↔ wp d pr_L Q 1188 [x0, x1, x2, x3] (.int (2) :: st) σ := w_push (n := 1) rfl
set_option maxRecDepth 100000 in
theorem e_L_1188 {d : Nat} {Q : Option Value → gS → Prop} {x0 x1 x2 x3 : Option Value} {x y : Int32} {st : List Value} {σ : gS} : wp d pr_L Q 1188 [x0, x1, x2, x3] (.int y :: .int x :: st) σ ↔ wp d pr_L Q 1189 [x0, x1, x2, x3] (.int (x + y) :: st) σ := w_bI (f := fun x y => x + y) rfl
set_option maxRecDepth 100000 in
theorem e_L_1189 {d : Nat} {Q : Option Value → gS → Prop} {x0 x1 x2 x3 : Option Value} {i : Int32} {a : Nat} {st : List Value} {σ : gS} : wp d pr_L Q 1189 [x0, x1, x2, x3] (.int i :: .ref a :: st) σ ↔ ((gK σ a = 21 ∨ gK σ a = 26) ∧ ¬ i < 0 ∧ i.toNatClampNeg < gN σ a) ∧ wp d pr_L Q 1190 [x0, x1, x2, x3] (.int (gI σ a i.toNatClampNeg) :: st) σ := w_iald rfl
set_option maxRecDepth 100000 in
theorem e_L_1190 {d : Nat} {Q : Option Value → gS → Prop} {x0 x1 x2 x3 : Option Value} {v0 v1 : Value} {a : Nat}  {st : List Value} {σ : gS} : wp d pr_L Q 1190 [x0, x1, x2, x3] (v1 :: v0 :: .ref a :: st) σ ↔ (gK σ a = 13 ∧ st.length ≤ 4) ∧ wc d 266 [.ref a, v0, v1] σ (fun r τ => wp d pr_L Q 1193 [x0, x1, x2, x3] (r.toList ++ st) τ) := w_callV rfl (by simp) rfl rfl
set_option maxRecDepth 100000 in
theorem e_L_1193 {d : Nat} {Q : Option Value → gS → Prop} {x0 x1 x2 x3 : Option Value} {x y : Int32} {st : List Value} {σ : gS} : wp d pr_L Q 1193 [x0, x1, x2, x3] (.int y :: .int x :: st) σ ↔ ((x = y) → wp d pr_L Q 1495 [x0, x1, x2, x3] (st) σ) ∧ (¬ (x = y) → wp d pr_L Q 1196 [x0, x1, x2, x3] (st) σ) := w_icmp rfl decide_eq_true_iff
set_option maxRecDepth 100000 in
theorem e_L_1196 {d : Nat} {Q : Option Value → gS → Prop} {x0 x1 x2 x3 : Option Value}  {st : List Value} {σ : gS} : wp d pr_L Q 1196 [x0, x1, x2, x3] st σ ↔ wp d pr_L Q 1197 [x0, x1, x2, x3] (.int (0) :: st) σ := w_push (n := 1) rfl
set_option maxRecDepth 100000 in
theorem e_L_1197 {d : Nat} {Q : Option Value → gS → Prop} {x0 x1 x2 x3 : Option Value} {v : Int32} {σ : gS} : wp d pr_L Q 1197 [x0, x1, x2, x3] [.int v] σ ↔ (v = 0 ∨ v = 1) ∧ Q (some (.int v)) σ := w_zret rfl
set_option maxRecDepth 100000 in
theorem e_L_1198 {d : Nat} {Q : Option Value → gS → Prop} {x0 x2 x3 : Option Value} {v : Nat} {st : List Value} {σ : gS} : wp d pr_L Q 1198 [x0, some (.ref v), x2, x3] st σ ↔ wp d pr_L Q 1199 [x0, some (.ref v), x2, x3] (.ref v :: st) σ := w_aload (k := 1) (n := 1) rfl rfl
set_option maxRecDepth 100000 in
theorem e_L_1198n {d : Nat} {Q : Option Value → gS → Prop} {x0 x2 x3 : Option Value}  {st : List Value} {σ : gS} : wp d pr_L Q 1198 [x0, some .null, x2, x3] st σ ↔ wp d pr_L Q 1199 [x0, some .null, x2, x3] (.null :: st) σ := w_aloadN (k := 1) (n := 1) rfl rfl
set_option maxRecDepth 100000 in
theorem e_L_1199 {d : Nat} {Q : Option Value → gS → Prop} {x1 x2 x3 : Option Value} {v : Nat} {st : List Value} {σ : gS} : wp d pr_L Q 1199 [some (.ref v), x1, x2, x3] st σ ↔ wp d pr_L Q 1200 [some (.ref v), x1, x2, x3] (.ref v :: st) σ := w_aload (k := 0) (n := 1) rfl rfl
set_option maxRecDepth 100000 in
theorem e_L_1200 {d : Nat} {Q : Option Value → gS → Prop} {x0 x1 x2 : Option Value} {v : Int32} {st : List Value} {σ : gS} : wp d pr_L Q 1200 [x0, x1, x2, some (.int v)] st σ ↔ wp d pr_L Q 1201 [x0, x1, x2, some (.int v)] (.int v :: st) σ := w_iload (k := 3) (n := 1) rfl rfl
set_option maxRecDepth 100000 in
theorem e_L_1201 {d : Nat} {Q : Option Value → gS → Prop} {x0 x1 x2 x3 : Option Value}  {st : List Value} {σ : gS} : wp d pr_L Q 1201 [x0, x1, x2, x3] st σ ↔ wp d pr_L Q 1202 [x0, x1, x2, x3] (.int (1) :: st) σ := w_push (n := 1) rfl
set_option maxRecDepth 100000 in
theorem e_L_1202 {d : Nat} {Q : Option Value → gS → Prop} {x0 x1 x2 x3 : Option Value} {x y : Int32} {st : List Value} {σ : gS} : wp d pr_L Q 1202 [x0, x1, x2, x3] (.int y :: .int x :: st) σ ↔ wp d pr_L Q 1203 [x0, x1, x2, x3] (.int (x + y) :: st) σ := w_bI (f := fun x y => x + y) rfl
set_option maxRecDepth 100000 in
theorem e_L_1203 {d : Nat} {Q : Option Value → gS → Prop} {x0 x1 x2 x3 : Option Value} {i : Int32} {a : Nat} {st : List Value} {σ : gS} : wp d pr_L Q 1203 [x0, x1, x2, x3] (.int i :: .ref a :: st) σ ↔ ((gK σ a = 21 ∨ gK σ a = 26) ∧ ¬ i < 0 ∧ i.toNatClampNeg < gN σ a) ∧ wp d pr_L Q 1204 [x0, x1, x2, x3] (.int (gI σ a i.toNatClampNeg) :: st) σ := w_iald rfl
set_option maxRecDepth 100000 in
theorem e_L_1204 {d : Nat} {Q : Option Value → gS → Prop} {x1 x2 x3 : Option Value} {v : Nat} {st : List Value} {σ : gS} : wp d pr_L Q 1204 [some (.ref v), x1, x2, x3] st σ ↔ wp d pr_L Q 1205 [some (.ref v), x1, x2, x3] (.ref v :: st) σ := w_aload (k := 0) (n := 1) rfl rfl
set_option maxRecDepth 100000 in
theorem e_L_1205 {d : Nat} {Q : Option Value → gS → Prop} {x0 x1 x2 : Option Value} {v : Int32} {st : List Value} {σ : gS} : wp d pr_L Q 1205 [x0, x1, x2, some (.int v)] st σ ↔ wp d pr_L Q 1206 [x0, x1, x2, some (.int v)] (.int v :: st) σ := w_iload (k := 3) (n := 1) rfl rfl
set_option maxRecDepth 100000 in
theorem e_L_1206 {d : Nat} {Q : Option Value → gS → Prop} {x0 x1 x2 x3 : Option Value}  {st : List Value} {σ : gS} : wp d pr_L Q 1206 [x0, x1, x2, x3] st σ ↔ wp d pr_L Q 1207 [x0, x1, x2, x3] (.int (2) :: st) σ := w_push (n := 1) rfl
set_option maxRecDepth 100000 in
theorem e_L_1207 {d : Nat} {Q : Option Value → gS → Prop} {x0 x1 x2 x3 : Option Value} {x y : Int32} {st : List Value} {σ : gS} : wp d pr_L Q 1207 [x0, x1, x2, x3] (.int y :: .int x :: st) σ ↔ wp d pr_L Q 1208 [x0, x1, x2, x3] (.int (x + y) :: st) σ := w_bI (f := fun x y => x + y) rfl
set_option maxRecDepth 100000 in
theorem e_L_1208 {d : Nat} {Q : Option Value → gS → Prop} {x0 x1 x2 x3 : Option Value} {i : Int32} {a : Nat} {st : List Value} {σ : gS} : wp d pr_L Q 1208 [x0, x1, x2, x3] (.int i :: .ref a :: st) σ ↔ ((gK σ a = 21 ∨ gK σ a = 26) ∧ ¬ i < 0 ∧ i.toNatClampNeg < gN σ a) ∧ wp d pr_L Q 1209 [x0, x1, x2, x3] (.int (gI σ a i.toNatClampNeg) :: st) σ := w_iald rfl
set_option maxRecDepth 100000 in
theorem e_L_1209 {d : Nat} {Q : Option Value → gS → Prop} {x1 x2 x3 : Option Value} {v : Nat} {st : List Value} {σ : gS} : wp d pr_L Q 1209 [some (.ref v), x1, x2, x3] st σ ↔ wp d pr_L Q 1210 [some (.ref v), x1, x2, x3] (.ref v :: st) σ := w_aload (k := 0) (n := 1) rfl rfl
set_option maxRecDepth 100000 in
theorem e_L_1210 {d : Nat} {Q : Option Value → gS → Prop} {x0 x1 x2 : Option Value} {v : Int32} {st : List Value} {σ : gS} : wp d pr_L Q 1210 [x0, x1, x2, some (.int v)] st σ ↔ wp d pr_L Q 1211 [x0, x1, x2, some (.int v)] (.int v :: st) σ := w_iload (k := 3) (n := 1) rfl rfl
set_option maxRecDepth 100000 in
theorem e_L_1211 {d : Nat} {Q : Option Value → gS → Prop} {x0 x1 x2 x3 : Option Value}  {st : List Value} {σ : gS} : wp d pr_L Q 1211 [x0, x1, x2, x3] st σ ↔ wp d pr_L Q 1212 [x0, x1, x2, x3] (.int (3) :: st) σ := w_push (n := 1) rfl
set_option maxRecDepth 100000 in
theorem e_L_1212 {d : Nat} {Q : Option Value → gS → Prop} {x0 x1 x2 x3 : Option Value} {x y : Int32} {st : List Value} {σ : gS} : wp d pr_L Q 1212 [x0, x1, x2, x3] (.int y :: .int x :: st) σ ↔ wp d pr_L Q 1213 [x0, x1, x2, x3] (.int (x + y) :: st) σ := w_bI (f := fun x y => x + y) rfl
set_option maxRecDepth 100000 in
theorem e_L_1213 {d : Nat} {Q : Option Value → gS → Prop} {x0 x1 x2 x3 : Option Value} {i : Int32} {a : Nat} {st : List Value} {σ : gS} : wp d pr_L Q 1213 [x0, x1, x2, x3] (.int i :: .ref a :: st) σ ↔ ((gK σ a = 21 ∨ gK σ a = 26) ∧ ¬ i < 0 ∧ i.toNatClampNeg < gN σ a) ∧ wp d pr_L Q 1214 [x0, x1, x2, x3] (.int (gI σ a i.toNatClampNeg) :: st) σ := w_iald rfl
set_option maxRecDepth 100000 in
theorem e_L_1214 {d : Nat} {Q : Option Value → gS → Prop} {x0 x1 x2 x3 : Option Value} {v0 v1 v2 : Value} {a : Nat}  {st : List Value} {σ : gS} : wp d pr_L Q 1214 [x0, x1, x2, x3] (v2 :: v1 :: v0 :: .ref a :: st) σ ↔ (gK σ a = 12 ∧ st.length ≤ 4) ∧ wc d 146 [.ref a, v0, v1, v2] σ (fun r τ => wp d pr_L Q 1217 [x0, x1, x2, x3] (r.toList ++ st) τ) := w_callV rfl (by simp) rfl rfl
set_option maxRecDepth 100000 in
theorem e_L_1217 {d : Nat} {Q : Option Value → gS → Prop} {x0 x1 x3 : Option Value} {v : Nat} {st : List Value} {σ : gS} : wp d pr_L Q 1217 [x0, x1, some (.ref v), x3] st σ ↔ wp d pr_L Q 1218 [x0, x1, some (.ref v), x3] (.ref v :: st) σ := w_aload (k := 2) (n := 1) rfl rfl
set_option maxRecDepth 100000 in
theorem e_L_1217n {d : Nat} {Q : Option Value → gS → Prop} {x0 x1 x3 : Option Value}  {st : List Value} {σ : gS} : wp d pr_L Q 1217 [x0, x1, some .null, x3] st σ ↔ wp d pr_L Q 1218 [x0, x1, some .null, x3] (.null :: st) σ := w_aloadN (k := 2) (n := 1) rfl rfl
set_option maxRecDepth 100000 in
theorem e_L_1218 {d : Nat} {Q : Option Value → gS → Prop} {x1 x2 x3 : Option Value} {v : Nat} {st : List Value} {σ : gS} : wp d pr_L Q 1218 [some (.ref v), x1, x2, x3] st σ ↔ wp d pr_L Q 1219 [some (.ref v), x1, x2, x3] (.ref v :: st) σ := w_aload (k := 0) (n := 1) rfl rfl
set_option maxRecDepth 100000 in
theorem e_L_1219 {d : Nat} {Q : Option Value → gS → Prop} {x0 x1 x2 : Option Value} {v : Int32} {st : List Value} {σ : gS} : wp d pr_L Q 1219 [x0, x1, x2, some (.int v)] st σ ↔ wp d pr_L Q 1220 [x0, x1, x2, some (.int v)] (.int v :: st) σ := w_iload (k := 3) (n := 1) rfl rfl
set_option maxRecDepth 100000 in
theorem e_L_1220 {d : Nat} {Q : Option Value → gS → Prop} {x0 x1 x2 x3 : Option Value}  {st : List Value} {σ : gS} : wp d pr_L Q 1220 [x0, x1, x2, x3] st σ ↔ wp d pr_L Q 1221 [x0, x1, x2, x3] (.int (1) :: st) σ := w_push (n := 1) rfl
set_option maxRecDepth 100000 in
theorem e_L_1221 {d : Nat} {Q : Option Value → gS → Prop} {x0 x1 x2 x3 : Option Value} {x y : Int32} {st : List Value} {σ : gS} : wp d pr_L Q 1221 [x0, x1, x2, x3] (.int y :: .int x :: st) σ ↔ wp d pr_L Q 1222 [x0, x1, x2, x3] (.int (x + y) :: st) σ := w_bI (f := fun x y => x + y) rfl
set_option maxRecDepth 100000 in
theorem e_L_1222 {d : Nat} {Q : Option Value → gS → Prop} {x0 x1 x2 x3 : Option Value} {i : Int32} {a : Nat} {st : List Value} {σ : gS} : wp d pr_L Q 1222 [x0, x1, x2, x3] (.int i :: .ref a :: st) σ ↔ ((gK σ a = 21 ∨ gK σ a = 26) ∧ ¬ i < 0 ∧ i.toNatClampNeg < gN σ a) ∧ wp d pr_L Q 1223 [x0, x1, x2, x3] (.int (gI σ a i.toNatClampNeg) :: st) σ := w_iald rfl
set_option maxRecDepth 100000 in
theorem e_L_1223 {d : Nat} {Q : Option Value → gS → Prop} {x1 x2 x3 : Option Value} {v : Nat} {st : List Value} {σ : gS} : wp d pr_L Q 1223 [some (.ref v), x1, x2, x3] st σ ↔ wp d pr_L Q 1224 [some (.ref v), x1, x2, x3] (.ref v :: st) σ := w_aload (k := 0) (n := 1) rfl rfl
set_option maxRecDepth 100000 in
theorem e_L_1224 {d : Nat} {Q : Option Value → gS → Prop} {x0 x1 x2 : Option Value} {v : Int32} {st : List Value} {σ : gS} : wp d pr_L Q 1224 [x0, x1, x2, some (.int v)] st σ ↔ wp d pr_L Q 1225 [x0, x1, x2, some (.int v)] (.int v :: st) σ := w_iload (k := 3) (n := 1) rfl rfl
set_option maxRecDepth 100000 in
theorem e_L_1225 {d : Nat} {Q : Option Value → gS → Prop} {x0 x1 x2 x3 : Option Value}  {st : List Value} {σ : gS} : wp d pr_L Q 1225 [x0, x1, x2, x3] st σ ↔ wp d pr_L Q 1226 [x0, x1, x2, x3] (.int (2) :: st) σ := w_push (n := 1) rfl
set_option maxRecDepth 100000 in
theorem e_L_1226 {d : Nat} {Q : Option Value → gS → Prop} {x0 x1 x2 x3 : Option Value} {x y : Int32} {st : List Value} {σ : gS} : wp d pr_L Q 1226 [x0, x1, x2, x3] (.int y :: .int x :: st) σ ↔ wp d pr_L Q 1227 [x0, x1, x2, x3] (.int (x + y) :: st) σ := w_bI (f := fun x y => x + y) rfl
set_option maxRecDepth 100000 in
theorem e_L_1227 {d : Nat} {Q : Option Value → gS → Prop} {x0 x1 x2 x3 : Option Value} {i : Int32} {a : Nat} {st : List Value} {σ : gS} : wp d pr_L Q 1227 [x0, x1, x2, x3] (.int i :: .ref a :: st) σ ↔ ((gK σ a = 21 ∨ gK σ a = 26) ∧ ¬ i < 0 ∧ i.toNatClampNeg < gN σ a) ∧ wp d pr_L Q 1228 [x0, x1, x2, x3] (.int (gI σ a i.toNatClampNeg) :: st) σ := w_iald rfl
set_option maxRecDepth 100000 in
theorem e_L_1228 {d : Nat} {Q : Option Value → gS → Prop} {x1 x2 x3 : Option Value} {v : Nat} {st : List Value} {σ : gS} : wp d pr_L Q 1228 [some (.ref v), x1, x2, x3] st σ ↔ wp d pr_L Q 1229 [some (.ref v), x1, x2, x3] (.ref v :: st) σ := w_aload (k := 0) (n := 1) rfl rfl
set_option maxRecDepth 100000 in
theorem e_L_1229 {d : Nat} {Q : Option Value → gS → Prop} {x0 x1 x2 : Option Value} {v : Int32} {st : List Value} {σ : gS} : wp d pr_L Q 1229 [x0, x1, x2, some (.int v)] st σ ↔ wp d pr_L Q 1230 [x0, x1, x2, some (.int v)] (.int v :: st) σ := w_iload (k := 3) (n := 1) rfl rfl
set_option maxRecDepth 100000 in
theorem e_L_1230 {d : Nat} {Q : Option Value → gS → Prop} {x0 x1 x2 x3 : Option Value}  {st : List Value} {σ : gS} : wp d pr_L Q 1230 [x0, x1, x2, x3] st σ ↔ wp d pr_L Q 1231 [x0, x1, x2, x3] (.int (3) :: st) σ := w_push (n := 1) rfl
set_option maxRecDepth 100000 in
theorem e_L_1231 {d : Nat} {Q : Option Value → gS → Prop} {x0 x1 x2 x3 : Option Value} {x y : Int32} {st : List Value} {σ : gS} : wp d pr_L Q 1231 [x0, x1, x2, x3] (.int y :: .int x :: st) σ ↔ wp d pr_L Q 1232 [x0, x1, x2, x3] (.int (x + y) :: st) σ := w_bI (f := fun x y => x + y) rfl
set_option maxRecDepth 100000 in
theorem e_L_1232 {d : Nat} {Q : Option Value → gS → Prop} {x0 x1 x2 x3 : Option Value} {i : Int32} {a : Nat} {st : List Value} {σ : gS} : wp d pr_L Q 1232 [x0, x1, x2, x3] (.int i :: .ref a :: st) σ ↔ ((gK σ a = 21 ∨ gK σ a = 26) ∧ ¬ i < 0 ∧ i.toNatClampNeg < gN σ a) ∧ wp d pr_L Q 1233 [x0, x1, x2, x3] (.int (gI σ a i.toNatClampNeg) :: st) σ := w_iald rfl
set_option maxRecDepth 100000 in
theorem e_L_1233 {d : Nat} {Q : Option Value → gS → Prop} {x0 x1 x2 x3 : Option Value} {v0 v1 v2 : Value} {a : Nat}  {st : List Value} {σ : gS} : wp d pr_L Q 1233 [x0, x1, x2, x3] (v2 :: v1 :: v0 :: .ref a :: st) σ ↔ (gK σ a = 13 ∧ st.length ≤ 4) ∧ wc d 267 [.ref a, v0, v1, v2] σ (fun r τ => wp d pr_L Q 1236 [x0, x1, x2, x3] (r.toList ++ st) τ) := w_callV rfl (by simp) rfl rfl
set_option maxRecDepth 100000 in
theorem e_L_1236 {d : Nat} {Q : Option Value → gS → Prop} {x0 x1 x2 x3 : Option Value} {x y : Int32} {st : List Value} {σ : gS} : wp d pr_L Q 1236 [x0, x1, x2, x3] (.int y :: .int x :: st) σ ↔ ((x = y) → wp d pr_L Q 1495 [x0, x1, x2, x3] (st) σ) ∧ (¬ (x = y) → wp d pr_L Q 1239 [x0, x1, x2, x3] (st) σ) := w_icmp rfl decide_eq_true_iff
set_option maxRecDepth 100000 in
theorem e_L_1239 {d : Nat} {Q : Option Value → gS → Prop} {x0 x1 x2 x3 : Option Value}  {st : List Value} {σ : gS} : wp d pr_L Q 1239 [x0, x1, x2, x3] st σ ↔ wp d pr_L Q 1240 [x0, x1, x2, x3] (.int (0) :: st) σ := w_push (n := 1) rfl
set_option maxRecDepth 100000 in
theorem e_L_1240 {d : Nat} {Q : Option Value → gS → Prop} {x0 x1 x2 x3 : Option Value} {v : Int32} {σ : gS} : wp d pr_L Q 1240 [x0, x1, x2, x3] [.int v] σ ↔ (v = 0 ∨ v = 1) ∧ Q (some (.int v)) σ := w_zret rfl
set_option maxRecDepth 100000 in
theorem e_L_1241 {d : Nat} {Q : Option Value → gS → Prop} {x0 x2 x3 : Option Value} {v : Nat} {st : List Value} {σ : gS} : wp d pr_L Q 1241 [x0, some (.ref v), x2, x3] st σ ↔ wp d pr_L Q 1242 [x0, some (.ref v), x2, x3] (.ref v :: st) σ := w_aload (k := 1) (n := 1) rfl rfl
set_option maxRecDepth 100000 in
theorem e_L_1241n {d : Nat} {Q : Option Value → gS → Prop} {x0 x2 x3 : Option Value}  {st : List Value} {σ : gS} : wp d pr_L Q 1241 [x0, some .null, x2, x3] st σ ↔ wp d pr_L Q 1242 [x0, some .null, x2, x3] (.null :: st) σ := w_aloadN (k := 1) (n := 1) rfl rfl
set_option maxRecDepth 100000 in
theorem e_L_1242 {d : Nat} {Q : Option Value → gS → Prop} {x1 x2 x3 : Option Value} {v : Nat} {st : List Value} {σ : gS} : wp d pr_L Q 1242 [some (.ref v), x1, x2, x3] st σ ↔ wp d pr_L Q 1243 [some (.ref v), x1, x2, x3] (.ref v :: st) σ := w_aload (k := 0) (n := 1) rfl rfl
set_option maxRecDepth 100000 in
theorem e_L_1243 {d : Nat} {Q : Option Value → gS → Prop} {x0 x1 x2 : Option Value} {v : Int32} {st : List Value} {σ : gS} : wp d pr_L Q 1243 [x0, x1, x2, some (.int v)] st σ ↔ wp d pr_L Q 1244 [x0, x1, x2, some (.int v)] (.int v :: st) σ := w_iload (k := 3) (n := 1) rfl rfl
set_option maxRecDepth 100000 in
theorem e_L_1244 {d : Nat} {Q : Option Value → gS → Prop} {x0 x1 x2 x3 : Option Value}  {st : List Value} {σ : gS} : wp d pr_L Q 1244 [x0, x1, x2, x3] st σ ↔ wp d pr_L Q 1245 [x0, x1, x2, x3] (.int (1) :: st) σ := w_push (n := 1) rfl
set_option maxRecDepth 100000 in
theorem e_L_1245 {d : Nat} {Q : Option Value → gS → Prop} {x0 x1 x2 x3 : Option Value} {x y : Int32} {st : List Value} {σ : gS} : wp d pr_L Q 1245 [x0, x1, x2, x3] (.int y :: .int x :: st) σ ↔ wp d pr_L Q 1246 [x0, x1, x2, x3] (.int (x + y) :: st) σ := w_bI (f := fun x y => x + y) rfl
set_option maxRecDepth 100000 in
theorem e_L_1246 {d : Nat} {Q : Option Value → gS → Prop} {x0 x1 x2 x3 : Option Value} {i : Int32} {a : Nat} {st : List Value} {σ : gS} : wp d pr_L Q 1246 [x0, x1, x2, x3] (.int i :: .ref a :: st) σ ↔ ((gK σ a = 21 ∨ gK σ a = 26) ∧ ¬ i < 0 ∧ i.toNatClampNeg < gN σ a) ∧ wp d pr_L Q 1247 [x0, x1, x2, x3] (.int (gI σ a i.toNatClampNeg) :: st) σ := w_iald rfl
set_option maxRecDepth 100000 in
theorem e_L_1247 {d : Nat} {Q : Option Value → gS → Prop} {x1 x2 x3 : Option Value} {v : Nat} {st : List Value} {σ : gS} : wp d pr_L Q 1247 [some (.ref v), x1, x2, x3] st σ ↔ wp d pr_L Q 1248 [some (.ref v), x1, x2, x3] (.ref v :: st) σ := w_aload (k := 0) (n := 1) rfl rfl
set_option maxRecDepth 100000 in
theorem e_L_1248 {d : Nat} {Q : Option Value → gS → Prop} {x0 x1 x2 : Option Value} {v : Int32} {st : List Value} {σ : gS} : wp d pr_L Q 1248 [x0, x1, x2, some (.int v)] st σ ↔ wp d pr_L Q 1249 [x0, x1, x2, some (.int v)] (.int v :: st) σ := w_iload (k := 3) (n := 1) rfl rfl
set_option maxRecDepth 100000 in
theorem e_L_1249 {d : Nat} {Q : Option Value → gS → Prop} {x0 x1 x2 x3 : Option Value}  {st : List Value} {σ : gS} : wp d pr_L Q 1249 [x0, x1, x2, x3] st σ ↔ wp d pr_L Q 1250 [x0, x1, x2, x3] (.int (2) :: st) σ := w_push (n := 1) rfl
set_option maxRecDepth 100000 in
theorem e_L_1250 {d : Nat} {Q : Option Value → gS → Prop} {x0 x1 x2 x3 : Option Value} {x y : Int32} {st : List Value} {σ : gS} : wp d pr_L Q 1250 [x0, x1, x2, x3] (.int y :: .int x :: st) σ ↔ wp d pr_L Q 1251 [x0, x1, x2, x3] (.int (x + y) :: st) σ := w_bI (f := fun x y => x + y) rfl
set_option maxRecDepth 100000 in
theorem e_L_1251 {d : Nat} {Q : Option Value → gS → Prop} {x0 x1 x2 x3 : Option Value} {i : Int32} {a : Nat} {st : List Value} {σ : gS} : wp d pr_L Q 1251 [x0, x1, x2, x3] (.int i :: .ref a :: st) σ ↔ ((gK σ a = 21 ∨ gK σ a = 26) ∧ ¬ i < 0 ∧ i.toNatClampNeg < gN σ a) ∧ wp d pr_L Q 1252 [x0, x1, x2, x3] (.int (gI σ a i.toNatClampNeg) :: st) σ := w_iald rfl
set_option maxRecDepth 100000 in
theorem e_L_1252 {d : Nat} {Q : Option Value → gS → Prop} {x1 x2 x3 : Option Value} {v : Nat} {st : List Value} {σ : gS} : wp d pr_L Q 1252 [some (.ref v), x1, x2, x3] st σ ↔ wp d pr_L Q 1253 [some (.ref v), x1, x2, x3] (.ref v :: st) σ := w_aload (k := 0) (n := 1) rfl rfl
set_option maxRecDepth 100000 in
theorem e_L_1253 {d : Nat} {Q : Option Value → gS → Prop} {x0 x1 x2 : Option Value} {v : Int32} {st : List Value} {σ : gS} : wp d pr_L Q 1253 [x0, x1, x2, some (.int v)] st σ ↔ wp d pr_L Q 1254 [x0, x1, x2, some (.int v)] (.int v :: st) σ := w_iload (k := 3) (n := 1) rfl rfl
set_option maxRecDepth 100000 in
theorem e_L_1254 {d : Nat} {Q : Option Value → gS → Prop} {x0 x1 x2 x3 : Option Value}  {st : List Value} {σ : gS} : wp d pr_L Q 1254 [x0, x1, x2, x3] st σ ↔ wp d pr_L Q 1255 [x0, x1, x2, x3] (.int (3) :: st) σ := w_push (n := 1) rfl
set_option maxRecDepth 100000 in
theorem e_L_1255 {d : Nat} {Q : Option Value → gS → Prop} {x0 x1 x2 x3 : Option Value} {x y : Int32} {st : List Value} {σ : gS} : wp d pr_L Q 1255 [x0, x1, x2, x3] (.int y :: .int x :: st) σ ↔ wp d pr_L Q 1256 [x0, x1, x2, x3] (.int (x + y) :: st) σ := w_bI (f := fun x y => x + y) rfl
set_option maxRecDepth 100000 in
theorem e_L_1256 {d : Nat} {Q : Option Value → gS → Prop} {x0 x1 x2 x3 : Option Value} {i : Int32} {a : Nat} {st : List Value} {σ : gS} : wp d pr_L Q 1256 [x0, x1, x2, x3] (.int i :: .ref a :: st) σ ↔ ((gK σ a = 21 ∨ gK σ a = 26) ∧ ¬ i < 0 ∧ i.toNatClampNeg < gN σ a) ∧ wp d pr_L Q 1257 [x0, x1, x2, x3] (.int (gI σ a i.toNatClampNeg) :: st) σ := w_iald rfl
set_option maxRecDepth 100000 in
theorem e_L_1257 {d : Nat} {Q : Option Value → gS → Prop} {x0 x1 x2 x3 : Option Value} {v0 v1 v2 : Value} {a : Nat}  {st : List Value} {σ : gS} : wp d pr_L Q 1257 [x0, x1, x2, x3] (v2 :: v1 :: v0 :: .ref a :: st) σ ↔ (gK σ a = 12 ∧ st.length ≤ 4) ∧ wc d 147 [.ref a, v0, v1, v2] σ (fun r τ => wp d pr_L Q 1260 [x0, x1, x2, x3] (r.toList ++ st) τ) := w_callV rfl (by simp) rfl rfl
set_option maxRecDepth 100000 in
theorem e_L_1260 {d : Nat} {Q : Option Value → gS → Prop} {x0 x1 x3 : Option Value} {v : Nat} {st : List Value} {σ : gS} : wp d pr_L Q 1260 [x0, x1, some (.ref v), x3] st σ ↔ wp d pr_L Q 1261 [x0, x1, some (.ref v), x3] (.ref v :: st) σ := w_aload (k := 2) (n := 1) rfl rfl
set_option maxRecDepth 100000 in
theorem e_L_1260n {d : Nat} {Q : Option Value → gS → Prop} {x0 x1 x3 : Option Value}  {st : List Value} {σ : gS} : wp d pr_L Q 1260 [x0, x1, some .null, x3] st σ ↔ wp d pr_L Q 1261 [x0, x1, some .null, x3] (.null :: st) σ := w_aloadN (k := 2) (n := 1) rfl rfl
set_option maxRecDepth 100000 in
theorem e_L_1261 {d : Nat} {Q : Option Value → gS → Prop} {x1 x2 x3 : Option Value} {v : Nat} {st : List Value} {σ : gS} : wp d pr_L Q 1261 [some (.ref v), x1, x2, x3] st σ ↔ wp d pr_L Q 1262 [some (.ref v), x1, x2, x3] (.ref v :: st) σ := w_aload (k := 0) (n := 1) rfl rfl
set_option maxRecDepth 100000 in
theorem e_L_1262 {d : Nat} {Q : Option Value → gS → Prop} {x0 x1 x2 : Option Value} {v : Int32} {st : List Value} {σ : gS} : wp d pr_L Q 1262 [x0, x1, x2, some (.int v)] st σ ↔ wp d pr_L Q 1263 [x0, x1, x2, some (.int v)] (.int v :: st) σ := w_iload (k := 3) (n := 1) rfl rfl
set_option maxRecDepth 100000 in
theorem e_L_1263 {d : Nat} {Q : Option Value → gS → Prop} {x0 x1 x2 x3 : Option Value}  {st : List Value} {σ : gS} : wp d pr_L Q 1263 [x0, x1, x2, x3] st σ ↔ wp d pr_L Q 1264 [x0, x1, x2, x3] (.int (1) :: st) σ := w_push (n := 1) rfl
set_option maxRecDepth 100000 in
theorem e_L_1264 {d : Nat} {Q : Option Value → gS → Prop} {x0 x1 x2 x3 : Option Value} {x y : Int32} {st : List Value} {σ : gS} : wp d pr_L Q 1264 [x0, x1, x2, x3] (.int y :: .int x :: st) σ ↔ wp d pr_L Q 1265 [x0, x1, x2, x3] (.int (x + y) :: st) σ := w_bI (f := fun x y => x + y) rfl
set_option maxRecDepth 100000 in
theorem e_L_1265 {d : Nat} {Q : Option Value → gS → Prop} {x0 x1 x2 x3 : Option Value} {i : Int32} {a : Nat} {st : List Value} {σ : gS} : wp d pr_L Q 1265 [x0, x1, x2, x3] (.int i :: .ref a :: st) σ ↔ ((gK σ a = 21 ∨ gK σ a = 26) ∧ ¬ i < 0 ∧ i.toNatClampNeg < gN σ a) ∧ wp d pr_L Q 1266 [x0, x1, x2, x3] (.int (gI σ a i.toNatClampNeg) :: st) σ := w_iald rfl
set_option maxRecDepth 100000 in
theorem e_L_1266 {d : Nat} {Q : Option Value → gS → Prop} {x1 x2 x3 : Option Value} {v : Nat} {st : List Value} {σ : gS} : wp d pr_L Q 1266 [some (.ref v), x1, x2, x3] st σ ↔ wp d pr_L Q 1267 [some (.ref v), x1, x2, x3] (.ref v :: st) σ := w_aload (k := 0) (n := 1) rfl rfl
set_option maxRecDepth 100000 in
theorem e_L_1267 {d : Nat} {Q : Option Value → gS → Prop} {x0 x1 x2 : Option Value} {v : Int32} {st : List Value} {σ : gS} : wp d pr_L Q 1267 [x0, x1, x2, some (.int v)] st σ ↔ wp d pr_L Q 1268 [x0, x1, x2, some (.int v)] (.int v :: st) σ := w_iload (k := 3) (n := 1) rfl rfl
set_option maxRecDepth 100000 in
theorem e_L_1268 {d : Nat} {Q : Option Value → gS → Prop} {x0 x1 x2 x3 : Option Value}  {st : List Value} {σ : gS} : wp d pr_L Q 1268 [x0, x1, x2, x3] st σ ↔ wp d pr_L Q 1269 [x0, x1, x2, x3] (.int (2) :: st) σ := w_push (n := 1) rfl
set_option maxRecDepth 100000 in
theorem e_L_1269 {d : Nat} {Q : Option Value → gS → Prop} {x0 x1 x2 x3 : Option Value} {x y : Int32} {st : List Value} {σ : gS} : wp d pr_L Q 1269 [x0, x1, x2, x3] (.int y :: .int x :: st) σ ↔ wp d pr_L Q 1270 [x0, x1, x2, x3] (.int (x + y) :: st) σ := w_bI (f := fun x y => x + y) rfl
set_option maxRecDepth 100000 in
theorem e_L_1270 {d : Nat} {Q : Option Value → gS → Prop} {x0 x1 x2 x3 : Option Value} {i : Int32} {a : Nat} {st : List Value} {σ : gS} : wp d pr_L Q 1270 [x0, x1, x2, x3] (.int i :: .ref a :: st) σ ↔ ((gK σ a = 21 ∨ gK σ a = 26) ∧ ¬ i < 0 ∧ i.toNatClampNeg < gN σ a) ∧ wp d pr_L Q 1271 [x0, x1, x2, x3] (.int (gI σ a i.toNatClampNeg) :: st) σ := w_iald rfl
set_option maxRecDepth 100000 in
theorem e_L_1271 {d : Nat} {Q : Option Value → gS → Prop} {x1 x2 x3 : Option Value} {v : Nat} {st : List Value} {σ : gS} : wp d pr_L Q 1271 [some (.ref v), x1, x2, x3] st σ ↔ wp d pr_L Q 1272 [some (.ref v), x1, x2, x3] (.ref v :: st) σ := w_aload (k := 0) (n := 1) rfl rfl
set_option maxRecDepth 100000 in
theorem e_L_1272 {d : Nat} {Q : Option Value → gS → Prop} {x0 x1 x2 : Option Value} {v : Int32} {st : List Value} {σ : gS} : wp d pr_L Q 1272 [x0, x1, x2, some (.int v)] st σ ↔ wp d pr_L Q 1273 [x0, x1, x2, some (.int v)] (.int v :: st) σ := w_iload (k := 3) (n := 1) rfl rfl
set_option maxRecDepth 100000 in
theorem e_L_1273 {d : Nat} {Q : Option Value → gS → Prop} {x0 x1 x2 x3 : Option Value}  {st : List Value} {σ : gS} : wp d pr_L Q 1273 [x0, x1, x2, x3] st σ ↔ wp d pr_L Q 1274 [x0, x1, x2, x3] (.int (3) :: st) σ := w_push (n := 1) rfl
set_option maxRecDepth 100000 in
theorem e_L_1274 {d : Nat} {Q : Option Value → gS → Prop} {x0 x1 x2 x3 : Option Value} {x y : Int32} {st : List Value} {σ : gS} : wp d pr_L Q 1274 [x0, x1, x2, x3] (.int y :: .int x :: st) σ ↔ wp d pr_L Q 1275 [x0, x1, x2, x3] (.int (x + y) :: st) σ := w_bI (f := fun x y => x + y) rfl
set_option maxRecDepth 100000 in
theorem e_L_1275 {d : Nat} {Q : Option Value → gS → Prop} {x0 x1 x2 x3 : Option Value} {i : Int32} {a : Nat} {st : List Value} {σ : gS} : wp d pr_L Q 1275 [x0, x1, x2, x3] (.int i :: .ref a :: st) σ ↔ ((gK σ a = 21 ∨ gK σ a = 26) ∧ ¬ i < 0 ∧ i.toNatClampNeg < gN σ a) ∧ wp d pr_L Q 1276 [x0, x1, x2, x3] (.int (gI σ a i.toNatClampNeg) :: st) σ := w_iald rfl
set_option maxRecDepth 100000 in
theorem e_L_1276 {d : Nat} {Q : Option Value → gS → Prop} {x0 x1 x2 x3 : Option Value} {v0 v1 v2 : Value} {a : Nat}  {st : List Value} {σ : gS} : wp d pr_L Q 1276 [x0, x1, x2, x3] (v2 :: v1 :: v0 :: .ref a :: st) σ ↔ (gK σ a = 13 ∧ st.length ≤ 4) ∧ wc d 268 [.ref a, v0, v1, v2] σ (fun r τ => wp d pr_L Q 1279 [x0, x1, x2, x3] (r.toList ++ st) τ) := w_callV rfl (by simp) rfl rfl
set_option maxRecDepth 100000 in
theorem e_L_1279 {d : Nat} {Q : Option Value → gS → Prop} {x0 x1 x2 x3 : Option Value} {x y : Int32} {st : List Value} {σ : gS} : wp d pr_L Q 1279 [x0, x1, x2, x3] (.int y :: .int x :: st) σ ↔ ((x = y) → wp d pr_L Q 1495 [x0, x1, x2, x3] (st) σ) ∧ (¬ (x = y) → wp d pr_L Q 1282 [x0, x1, x2, x3] (st) σ) := w_icmp rfl decide_eq_true_iff
set_option maxRecDepth 100000 in
theorem e_L_1282 {d : Nat} {Q : Option Value → gS → Prop} {x0 x1 x2 x3 : Option Value}  {st : List Value} {σ : gS} : wp d pr_L Q 1282 [x0, x1, x2, x3] st σ ↔ wp d pr_L Q 1283 [x0, x1, x2, x3] (.int (0) :: st) σ := w_push (n := 1) rfl
set_option maxRecDepth 100000 in
theorem e_L_1283 {d : Nat} {Q : Option Value → gS → Prop} {x0 x1 x2 x3 : Option Value} {v : Int32} {σ : gS} : wp d pr_L Q 1283 [x0, x1, x2, x3] [.int v] σ ↔ (v = 0 ∨ v = 1) ∧ Q (some (.int v)) σ := w_zret rfl
set_option maxRecDepth 100000 in
theorem e_L_1284 {d : Nat} {Q : Option Value → gS → Prop} {x0 x2 x3 : Option Value} {v : Nat} {st : List Value} {σ : gS} : wp d pr_L Q 1284 [x0, some (.ref v), x2, x3] st σ ↔ wp d pr_L Q 1285 [x0, some (.ref v), x2, x3] (.ref v :: st) σ := w_aload (k := 1) (n := 1) rfl rfl
set_option maxRecDepth 100000 in
theorem e_L_1284n {d : Nat} {Q : Option Value → gS → Prop} {x0 x2 x3 : Option Value}  {st : List Value} {σ : gS} : wp d pr_L Q 1284 [x0, some .null, x2, x3] st σ ↔ wp d pr_L Q 1285 [x0, some .null, x2, x3] (.null :: st) σ := w_aloadN (k := 1) (n := 1) rfl rfl
set_option maxRecDepth 100000 in
theorem e_L_1285 {d : Nat} {Q : Option Value → gS → Prop} {x1 x2 x3 : Option Value} {v : Nat} {st : List Value} {σ : gS} : wp d pr_L Q 1285 [some (.ref v), x1, x2, x3] st σ ↔ wp d pr_L Q 1286 [some (.ref v), x1, x2, x3] (.ref v :: st) σ := w_aload (k := 0) (n := 1) rfl rfl
set_option maxRecDepth 100000 in
theorem e_L_1286 {d : Nat} {Q : Option Value → gS → Prop} {x0 x1 x2 : Option Value} {v : Int32} {st : List Value} {σ : gS} : wp d pr_L Q 1286 [x0, x1, x2, some (.int v)] st σ ↔ wp d pr_L Q 1287 [x0, x1, x2, some (.int v)] (.int v :: st) σ := w_iload (k := 3) (n := 1) rfl rfl
set_option maxRecDepth 100000 in
theorem e_L_1287 {d : Nat} {Q : Option Value → gS → Prop} {x0 x1 x2 x3 : Option Value}  {st : List Value} {σ : gS} : wp d pr_L Q 1287 [x0, x1, x2, x3] st σ ↔ wp d pr_L Q 1288 [x0, x1, x2, x3] (.int (1) :: st) σ := w_push (n := 1) rfl
set_option maxRecDepth 100000 in
theorem e_L_1288 {d : Nat} {Q : Option Value → gS → Prop} {x0 x1 x2 x3 : Option Value} {x y : Int32} {st : List Value} {σ : gS} : wp d pr_L Q 1288 [x0, x1, x2, x3] (.int y :: .int x :: st) σ ↔ wp d pr_L Q 1289 [x0, x1, x2, x3] (.int (x + y) :: st) σ := w_bI (f := fun x y => x + y) rfl
set_option maxRecDepth 100000 in
theorem e_L_1289 {d : Nat} {Q : Option Value → gS → Prop} {x0 x1 x2 x3 : Option Value} {i : Int32} {a : Nat} {st : List Value} {σ : gS} : wp d pr_L Q 1289 [x0, x1, x2, x3] (.int i :: .ref a :: st) σ ↔ ((gK σ a = 21 ∨ gK σ a = 26) ∧ ¬ i < 0 ∧ i.toNatClampNeg < gN σ a) ∧ wp d pr_L Q 1290 [x0, x1, x2, x3] (.int (gI σ a i.toNatClampNeg) :: st) σ := w_iald rfl
set_option maxRecDepth 100000 in
theorem e_L_1290 {d : Nat} {Q : Option Value → gS → Prop} {x1 x2 x3 : Option Value} {v : Nat} {st : List Value} {σ : gS} : wp d pr_L Q 1290 [some (.ref v), x1, x2, x3] st σ ↔ wp d pr_L Q 1291 [some (.ref v), x1, x2, x3] (.ref v :: st) σ := w_aload (k := 0) (n := 1) rfl rfl
set_option maxRecDepth 100000 in
theorem e_L_1291 {d : Nat} {Q : Option Value → gS → Prop} {x0 x1 x2 : Option Value} {v : Int32} {st : List Value} {σ : gS} : wp d pr_L Q 1291 [x0, x1, x2, some (.int v)] st σ ↔ wp d pr_L Q 1292 [x0, x1, x2, some (.int v)] (.int v :: st) σ := w_iload (k := 3) (n := 1) rfl rfl
set_option maxRecDepth 100000 in
theorem e_L_1292 {d : Nat} {Q : Option Value → gS → Prop} {x0 x1 x2 x3 : Option Value}  {st : List Value} {σ : gS} : wp d pr_L Q 1292 [x0, x1, x2, x3] st σ ↔ wp d pr_L Q 1293 [x0, x1, x2, x3] (.int (2) :: st) σ := w_push (n := 1) rfl
set_option maxRecDepth 100000 in
theorem e_L_1293 {d : Nat} {Q : Option Value → gS → Prop} {x0 x1 x2 x3 : Option Value} {x y : Int32} {st : List Value} {σ : gS} : wp d pr_L Q 1293 [x0, x1, x2, x3] (.int y :: .int x :: st) σ ↔ wp d pr_L Q 1294 [x0, x1, x2, x3] (.int (x + y) :: st) σ := w_bI (f := fun x y => x + y) rfl
set_option maxRecDepth 100000 in
theorem e_L_1294 {d : Nat} {Q : Option Value → gS → Prop} {x0 x1 x2 x3 : Option Value} {i : Int32} {a : Nat} {st : List Value} {σ : gS} : wp d pr_L Q 1294 [x0, x1, x2, x3] (.int i :: .ref a :: st) σ ↔ ((gK σ a = 21 ∨ gK σ a = 26) ∧ ¬ i < 0 ∧ i.toNatClampNeg < gN σ a) ∧ wp d pr_L Q 1295 [x0, x1, x2, x3] (.int (gI σ a i.toNatClampNeg) :: st) σ := w_iald rfl
set_option maxRecDepth 100000 in
theorem e_L_1295 {d : Nat} {Q : Option Value → gS → Prop} {x1 x2 x3 : Option Value} {v : Nat} {st : List Value} {σ : gS} : wp d pr_L Q 1295 [some (.ref v), x1, x2, x3] st σ ↔ wp d pr_L Q 1296 [some (.ref v), x1, x2, x3] (.ref v :: st) σ := w_aload (k := 0) (n := 1) rfl rfl
set_option maxRecDepth 100000 in
theorem e_L_1296 {d : Nat} {Q : Option Value → gS → Prop} {x0 x1 x2 : Option Value} {v : Int32} {st : List Value} {σ : gS} : wp d pr_L Q 1296 [x0, x1, x2, some (.int v)] st σ ↔ wp d pr_L Q 1297 [x0, x1, x2, some (.int v)] (.int v :: st) σ := w_iload (k := 3) (n := 1) rfl rfl
set_option maxRecDepth 100000 in
theorem e_L_1297 {d : Nat} {Q : Option Value → gS → Prop} {x0 x1 x2 x3 : Option Value}  {st : List Value} {σ : gS} : wp d pr_L Q 1297 [x0, x1, x2, x3] st σ ↔ wp d pr_L Q 1298 [x0, x1, x2, x3] (.int (3) :: st) σ := w_push (n := 1) rfl
set_option maxRecDepth 100000 in
theorem e_L_1298 {d : Nat} {Q : Option Value → gS → Prop} {x0 x1 x2 x3 : Option Value} {x y : Int32} {st : List Value} {σ : gS} : wp d pr_L Q 1298 [x0, x1, x2, x3] (.int y :: .int x :: st) σ ↔ wp d pr_L Q 1299 [x0, x1, x2, x3] (.int (x + y) :: st) σ := w_bI (f := fun x y => x + y) rfl
set_option maxRecDepth 100000 in
theorem e_L_1299 {d : Nat} {Q : Option Value → gS → Prop} {x0 x1 x2 x3 : Option Value} {i : Int32} {a : Nat} {st : List Value} {σ : gS} : wp d pr_L Q 1299 [x0, x1, x2, x3] (.int i :: .ref a :: st) σ ↔ ((gK σ a = 21 ∨ gK σ a = 26) ∧ ¬ i < 0 ∧ i.toNatClampNeg < gN σ a) ∧ wp d pr_L Q 1300 [x0, x1, x2, x3] (.int (gI σ a i.toNatClampNeg) :: st) σ := w_iald rfl
set_option maxRecDepth 100000 in
theorem e_L_1300 {d : Nat} {Q : Option Value → gS → Prop} {x1 x2 x3 : Option Value} {v : Nat} {st : List Value} {σ : gS} : wp d pr_L Q 1300 [some (.ref v), x1, x2, x3] st σ ↔ wp d pr_L Q 1301 [some (.ref v), x1, x2, x3] (.ref v :: st) σ := w_aload (k := 0) (n := 1) rfl rfl
set_option maxRecDepth 100000 in
theorem e_L_1301 {d : Nat} {Q : Option Value → gS → Prop} {x0 x1 x2 : Option Value} {v : Int32} {st : List Value} {σ : gS} : wp d pr_L Q 1301 [x0, x1, x2, some (.int v)] st σ ↔ wp d pr_L Q 1302 [x0, x1, x2, some (.int v)] (.int v :: st) σ := w_iload (k := 3) (n := 1) rfl rfl
set_option maxRecDepth 100000 in
theorem e_L_1302 {d : Nat} {Q : Option Value → gS → Prop} {x0 x1 x2 x3 : Option Value}  {st : List Value} {σ : gS} : wp d pr_L Q 1302 [x0, x1, x2, x3] st σ ↔ wp d pr_L Q 1303 [x0, x1, x2, x3] (.int (4) :: st) σ := w_push (n := 1) rfl
set_option maxRecDepth 100000 in
theorem e_L_1303 {d : Nat} {Q : Option Value → gS → Prop} {x0 x1 x2 x3 : Option Value} {x y : Int32} {st : List Value} {σ : gS} : wp d pr_L Q 1303 [x0, x1, x2, x3] (.int y :: .int x :: st) σ ↔ wp d pr_L Q 1304 [x0, x1, x2, x3] (.int (x + y) :: st) σ := w_bI (f := fun x y => x + y) rfl
set_option maxRecDepth 100000 in
theorem e_L_1304 {d : Nat} {Q : Option Value → gS → Prop} {x0 x1 x2 x3 : Option Value} {i : Int32} {a : Nat} {st : List Value} {σ : gS} : wp d pr_L Q 1304 [x0, x1, x2, x3] (.int i :: .ref a :: st) σ ↔ ((gK σ a = 21 ∨ gK σ a = 26) ∧ ¬ i < 0 ∧ i.toNatClampNeg < gN σ a) ∧ wp d pr_L Q 1305 [x0, x1, x2, x3] (.int (gI σ a i.toNatClampNeg) :: st) σ := w_iald rfl
set_option maxRecDepth 100000 in
theorem e_L_1305 {d : Nat} {Q : Option Value → gS → Prop} {x1 x2 x3 : Option Value} {v : Nat} {st : List Value} {σ : gS} : wp d pr_L Q 1305 [some (.ref v), x1, x2, x3] st σ ↔ wp d pr_L Q 1306 [some (.ref v), x1, x2, x3] (.ref v :: st) σ := w_aload (k := 0) (n := 1) rfl rfl
set_option maxRecDepth 100000 in
theorem e_L_1306 {d : Nat} {Q : Option Value → gS → Prop} {x0 x1 x2 : Option Value} {v : Int32} {st : List Value} {σ : gS} : wp d pr_L Q 1306 [x0, x1, x2, some (.int v)] st σ ↔ wp d pr_L Q 1307 [x0, x1, x2, some (.int v)] (.int v :: st) σ := w_iload (k := 3) (n := 1) rfl rfl
set_option maxRecDepth 100000 in
theorem e_L_1307 {d : Nat} {Q : Option Value → gS → Prop} {x0 x1 x2 x3 : Option Value}  {st : List Value} {σ : gS} : wp d pr_L Q 1307 [x0, x1, x2, x3] st σ ↔ wp d pr_L Q 1308 [x0, x1, x2, x3] (.int (5) :: st) σ := w_push (n := 1) rfl
set_option maxRecDepth 100000 in
theorem e_L_1308 {d : Nat} {Q : Option Value → gS → Prop} {x0 x1 x2 x3 : Option Value} {x y : Int32} {st : List Value} {σ : gS} : wp d pr_L Q 1308 [x0, x1, x2, x3] (.int y :: .int x :: st) σ ↔ wp d pr_L Q 1309 [x0, x1, x2, x3] (.int (x + y) :: st) σ := w_bI (f := fun x y => x + y) rfl
set_option maxRecDepth 100000 in
theorem e_L_1309 {d : Nat} {Q : Option Value → gS → Prop} {x0 x1 x2 x3 : Option Value} {i : Int32} {a : Nat} {st : List Value} {σ : gS} : wp d pr_L Q 1309 [x0, x1, x2, x3] (.int i :: .ref a :: st) σ ↔ ((gK σ a = 21 ∨ gK σ a = 26) ∧ ¬ i < 0 ∧ i.toNatClampNeg < gN σ a) ∧ wp d pr_L Q 1310 [x0, x1, x2, x3] (.int (gI σ a i.toNatClampNeg) :: st) σ := w_iald rfl
set_option maxRecDepth 100000 in
theorem e_L_1310 {d : Nat} {Q : Option Value → gS → Prop} {x0 x1 x2 x3 : Option Value} {v0 v1 v2 v3 v4 : Value} {a : Nat}  {st : List Value} {σ : gS} : wp d pr_L Q 1310 [x0, x1, x2, x3] (v4 :: v3 :: v2 :: v1 :: v0 :: .ref a :: st) σ ↔ (gK σ a = 12 ∧ st.length ≤ 4) ∧ wc d 148 [.ref a, v0, v1, v2, v3, v4] σ (fun r τ => wp d pr_L Q 1313 [x0, x1, x2, x3] (r.toList ++ st) τ) := w_callV rfl (by simp) rfl rfl
set_option maxRecDepth 100000 in
theorem e_L_1313 {d : Nat} {Q : Option Value → gS → Prop} {x0 x1 x3 : Option Value} {v : Nat} {st : List Value} {σ : gS} : wp d pr_L Q 1313 [x0, x1, some (.ref v), x3] st σ ↔ wp d pr_L Q 1314 [x0, x1, some (.ref v), x3] (.ref v :: st) σ := w_aload (k := 2) (n := 1) rfl rfl
set_option maxRecDepth 100000 in
theorem e_L_1313n {d : Nat} {Q : Option Value → gS → Prop} {x0 x1 x3 : Option Value}  {st : List Value} {σ : gS} : wp d pr_L Q 1313 [x0, x1, some .null, x3] st σ ↔ wp d pr_L Q 1314 [x0, x1, some .null, x3] (.null :: st) σ := w_aloadN (k := 2) (n := 1) rfl rfl
set_option maxRecDepth 100000 in
theorem e_L_1314 {d : Nat} {Q : Option Value → gS → Prop} {x1 x2 x3 : Option Value} {v : Nat} {st : List Value} {σ : gS} : wp d pr_L Q 1314 [some (.ref v), x1, x2, x3] st σ ↔ wp d pr_L Q 1315 [some (.ref v), x1, x2, x3] (.ref v :: st) σ := w_aload (k := 0) (n := 1) rfl rfl
set_option maxRecDepth 100000 in
theorem e_L_1315 {d : Nat} {Q : Option Value → gS → Prop} {x0 x1 x2 : Option Value} {v : Int32} {st : List Value} {σ : gS} : wp d pr_L Q 1315 [x0, x1, x2, some (.int v)] st σ ↔ wp d pr_L Q 1316 [x0, x1, x2, some (.int v)] (.int v :: st) σ := w_iload (k := 3) (n := 1) rfl rfl
set_option maxRecDepth 100000 in
theorem e_L_1316 {d : Nat} {Q : Option Value → gS → Prop} {x0 x1 x2 x3 : Option Value}  {st : List Value} {σ : gS} : wp d pr_L Q 1316 [x0, x1, x2, x3] st σ ↔ wp d pr_L Q 1317 [x0, x1, x2, x3] (.int (1) :: st) σ := w_push (n := 1) rfl
set_option maxRecDepth 100000 in
theorem e_L_1317 {d : Nat} {Q : Option Value → gS → Prop} {x0 x1 x2 x3 : Option Value} {x y : Int32} {st : List Value} {σ : gS} : wp d pr_L Q 1317 [x0, x1, x2, x3] (.int y :: .int x :: st) σ ↔ wp d pr_L Q 1318 [x0, x1, x2, x3] (.int (x + y) :: st) σ := w_bI (f := fun x y => x + y) rfl
set_option maxRecDepth 100000 in
theorem e_L_1318 {d : Nat} {Q : Option Value → gS → Prop} {x0 x1 x2 x3 : Option Value} {i : Int32} {a : Nat} {st : List Value} {σ : gS} : wp d pr_L Q 1318 [x0, x1, x2, x3] (.int i :: .ref a :: st) σ ↔ ((gK σ a = 21 ∨ gK σ a = 26) ∧ ¬ i < 0 ∧ i.toNatClampNeg < gN σ a) ∧ wp d pr_L Q 1319 [x0, x1, x2, x3] (.int (gI σ a i.toNatClampNeg) :: st) σ := w_iald rfl
set_option maxRecDepth 100000 in
theorem e_L_1319 {d : Nat} {Q : Option Value → gS → Prop} {x1 x2 x3 : Option Value} {v : Nat} {st : List Value} {σ : gS} : wp d pr_L Q 1319 [some (.ref v), x1, x2, x3] st σ ↔ wp d pr_L Q 1320 [some (.ref v), x1, x2, x3] (.ref v :: st) σ := w_aload (k := 0) (n := 1) rfl rfl
set_option maxRecDepth 100000 in
theorem e_L_1320 {d : Nat} {Q : Option Value → gS → Prop} {x0 x1 x2 : Option Value} {v : Int32} {st : List Value} {σ : gS} : wp d pr_L Q 1320 [x0, x1, x2, some (.int v)] st σ ↔ wp d pr_L Q 1321 [x0, x1, x2, some (.int v)] (.int v :: st) σ := w_iload (k := 3) (n := 1) rfl rfl
set_option maxRecDepth 100000 in
theorem e_L_1321 {d : Nat} {Q : Option Value → gS → Prop} {x0 x1 x2 x3 : Option Value}  {st : List Value} {σ : gS} : wp d pr_L Q 1321 [x0, x1, x2, x3] st σ ↔ wp d pr_L Q 1322 [x0, x1, x2, x3] (.int (2) :: st) σ := w_push (n := 1) rfl
set_option maxRecDepth 100000 in
theorem e_L_1322 {d : Nat} {Q : Option Value → gS → Prop} {x0 x1 x2 x3 : Option Value} {x y : Int32} {st : List Value} {σ : gS} : wp d pr_L Q 1322 [x0, x1, x2, x3] (.int y :: .int x :: st) σ ↔ wp d pr_L Q 1323 [x0, x1, x2, x3] (.int (x + y) :: st) σ := w_bI (f := fun x y => x + y) rfl
set_option maxRecDepth 100000 in
theorem e_L_1323 {d : Nat} {Q : Option Value → gS → Prop} {x0 x1 x2 x3 : Option Value} {i : Int32} {a : Nat} {st : List Value} {σ : gS} : wp d pr_L Q 1323 [x0, x1, x2, x3] (.int i :: .ref a :: st) σ ↔ ((gK σ a = 21 ∨ gK σ a = 26) ∧ ¬ i < 0 ∧ i.toNatClampNeg < gN σ a) ∧ wp d pr_L Q 1324 [x0, x1, x2, x3] (.int (gI σ a i.toNatClampNeg) :: st) σ := w_iald rfl
set_option maxRecDepth 100000 in
theorem e_L_1324 {d : Nat} {Q : Option Value → gS → Prop} {x1 x2 x3 : Option Value} {v : Nat} {st : List Value} {σ : gS} : wp d pr_L Q 1324 [some (.ref v), x1, x2, x3] st σ ↔ wp d pr_L Q 1325 [some (.ref v), x1, x2, x3] (.ref v :: st) σ := w_aload (k := 0) (n := 1) rfl rfl
set_option maxRecDepth 100000 in
theorem e_L_1325 {d : Nat} {Q : Option Value → gS → Prop} {x0 x1 x2 : Option Value} {v : Int32} {st : List Value} {σ : gS} : wp d pr_L Q 1325 [x0, x1, x2, some (.int v)] st σ ↔ wp d pr_L Q 1326 [x0, x1, x2, some (.int v)] (.int v :: st) σ := w_iload (k := 3) (n := 1) rfl rfl
set_option maxRecDepth 100000 in
theorem e_L_1326 {d : Nat} {Q : Option Value → gS → Prop} {x0 x1 x2 x3 : Option Value}  {st : List Value} {σ : gS} : wp d pr_L Q 1326 [x0, x1, x2, x3] st σ ↔ wp d pr_L Q 1327 [x0, x1, x2, x3] (.int (3) :: st) σ := w_push (n := 1) rfl
set_option maxRecDepth 100000 in
theorem e_L_1327 {d : Nat} {Q : Option Value → gS → Prop} {x0 x1 x2 x3 : Option Value} {x y : Int32} {st : List Value} {σ : gS} : wp d pr_L Q 1327 [x0, x1, x2, x3] (.int y :: .int x :: st) σ ↔ wp d pr_L Q 1328 [x0, x1, x2, x3] (.int (x + y) :: st) σ := w_bI (f := fun x y => x + y) rfl
set_option maxRecDepth 100000 in
theorem e_L_1328 {d : Nat} {Q : Option Value → gS → Prop} {x0 x1 x2 x3 : Option Value} {i : Int32} {a : Nat} {st : List Value} {σ : gS} : wp d pr_L Q 1328 [x0, x1, x2, x3] (.int i :: .ref a :: st) σ ↔ ((gK σ a = 21 ∨ gK σ a = 26) ∧ ¬ i < 0 ∧ i.toNatClampNeg < gN σ a) ∧ wp d pr_L Q 1329 [x0, x1, x2, x3] (.int (gI σ a i.toNatClampNeg) :: st) σ := w_iald rfl
set_option maxRecDepth 100000 in
theorem e_L_1329 {d : Nat} {Q : Option Value → gS → Prop} {x1 x2 x3 : Option Value} {v : Nat} {st : List Value} {σ : gS} : wp d pr_L Q 1329 [some (.ref v), x1, x2, x3] st σ ↔ wp d pr_L Q 1330 [some (.ref v), x1, x2, x3] (.ref v :: st) σ := w_aload (k := 0) (n := 1) rfl rfl
set_option maxRecDepth 100000 in
theorem e_L_1330 {d : Nat} {Q : Option Value → gS → Prop} {x0 x1 x2 : Option Value} {v : Int32} {st : List Value} {σ : gS} : wp d pr_L Q 1330 [x0, x1, x2, some (.int v)] st σ ↔ wp d pr_L Q 1331 [x0, x1, x2, some (.int v)] (.int v :: st) σ := w_iload (k := 3) (n := 1) rfl rfl
set_option maxRecDepth 100000 in
theorem e_L_1331 {d : Nat} {Q : Option Value → gS → Prop} {x0 x1 x2 x3 : Option Value}  {st : List Value} {σ : gS} : wp d pr_L Q 1331 [x0, x1, x2, x3] st σ ↔ wp d pr_L Q 1332 [x0, x1, x2, x3] (.int (4) :: st) σ := w_push (n := 1) rfl
set_option maxRecDepth 100000 in
theorem e_L_1332 {d : Nat} {Q : Option Value → gS → Prop} {x0 x1 x2 x3 : Option Value} {x y : Int32} {st : List Value} {σ : gS} : wp d pr_L Q 1332 [x0, x1, x2, x3] (.int y :: .int x :: st) σ ↔ wp d pr_L Q 1333 [x0, x1, x2, x3] (.int (x + y) :: st) σ := w_bI (f := fun x y => x + y) rfl
set_option maxRecDepth 100000 in
theorem e_L_1333 {d : Nat} {Q : Option Value → gS → Prop} {x0 x1 x2 x3 : Option Value} {i : Int32} {a : Nat} {st : List Value} {σ : gS} : wp d pr_L Q 1333 [x0, x1, x2, x3] (.int i :: .ref a :: st) σ ↔ ((gK σ a = 21 ∨ gK σ a = 26) ∧ ¬ i < 0 ∧ i.toNatClampNeg < gN σ a) ∧ wp d pr_L Q 1334 [x0, x1, x2, x3] (.int (gI σ a i.toNatClampNeg) :: st) σ := w_iald rfl
set_option maxRecDepth 100000 in
theorem e_L_1334 {d : Nat} {Q : Option Value → gS → Prop} {x1 x2 x3 : Option Value} {v : Nat} {st : List Value} {σ : gS} : wp d pr_L Q 1334 [some (.ref v), x1, x2, x3] st σ ↔ wp d pr_L Q 1335 [some (.ref v), x1, x2, x3] (.ref v :: st) σ := w_aload (k := 0) (n := 1) rfl rfl
set_option maxRecDepth 100000 in
theorem e_L_1335 {d : Nat} {Q : Option Value → gS → Prop} {x0 x1 x2 : Option Value} {v : Int32} {st : List Value} {σ : gS} : wp d pr_L Q 1335 [x0, x1, x2, some (.int v)] st σ ↔ wp d pr_L Q 1336 [x0, x1, x2, some (.int v)] (.int v :: st) σ := w_iload (k := 3) (n := 1) rfl rfl
set_option maxRecDepth 100000 in
theorem e_L_1336 {d : Nat} {Q : Option Value → gS → Prop} {x0 x1 x2 x3 : Option Value}  {st : List Value} {σ : gS} : wp d pr_L Q 1336 [x0, x1, x2, x3] st σ ↔ wp d pr_L Q 1337 [x0, x1, x2, x3] (.int (5) :: st) σ := w_push (n := 1) rfl
set_option maxRecDepth 100000 in
theorem e_L_1337 {d : Nat} {Q : Option Value → gS → Prop} {x0 x1 x2 x3 : Option Value} {x y : Int32} {st : List Value} {σ : gS} : wp d pr_L Q 1337 [x0, x1, x2, x3] (.int y :: .int x :: st) σ ↔ wp d pr_L Q 1338 [x0, x1, x2, x3] (.int (x + y) :: st) σ := w_bI (f := fun x y => x + y) rfl
set_option maxRecDepth 100000 in
theorem e_L_1338 {d : Nat} {Q : Option Value → gS → Prop} {x0 x1 x2 x3 : Option Value} {i : Int32} {a : Nat} {st : List Value} {σ : gS} : wp d pr_L Q 1338 [x0, x1, x2, x3] (.int i :: .ref a :: st) σ ↔ ((gK σ a = 21 ∨ gK σ a = 26) ∧ ¬ i < 0 ∧ i.toNatClampNeg < gN σ a) ∧ wp d pr_L Q 1339 [x0, x1, x2, x3] (.int (gI σ a i.toNatClampNeg) :: st) σ := w_iald rfl
set_option maxRecDepth 100000 in
theorem e_L_1339 {d : Nat} {Q : Option Value → gS → Prop} {x0 x1 x2 x3 : Option Value} {v0 v1 v2 v3 v4 : Value} {a : Nat}  {st : List Value} {σ : gS} : wp d pr_L Q 1339 [x0, x1, x2, x3] (v4 :: v3 :: v2 :: v1 :: v0 :: .ref a :: st) σ ↔ (gK σ a = 13 ∧ st.length ≤ 4) ∧ wc d 269 [.ref a, v0, v1, v2, v3, v4] σ (fun r τ => wp d pr_L Q 1342 [x0, x1, x2, x3] (r.toList ++ st) τ) := w_callV rfl (by simp) rfl rfl
set_option maxRecDepth 100000 in
theorem e_L_1342 {d : Nat} {Q : Option Value → gS → Prop} {x0 x1 x2 x3 : Option Value} {x y : Int32} {st : List Value} {σ : gS} : wp d pr_L Q 1342 [x0, x1, x2, x3] (.int y :: .int x :: st) σ ↔ ((x = y) → wp d pr_L Q 1495 [x0, x1, x2, x3] (st) σ) ∧ (¬ (x = y) → wp d pr_L Q 1345 [x0, x1, x2, x3] (st) σ) := w_icmp rfl decide_eq_true_iff
set_option maxRecDepth 100000 in
theorem e_L_1345 {d : Nat} {Q : Option Value → gS → Prop} {x0 x1 x2 x3 : Option Value}  {st : List Value} {σ : gS} : wp d pr_L Q 1345 [x0, x1, x2, x3] st σ ↔ wp d pr_L Q 1346 [x0, x1, x2, x3] (.int (0) :: st) σ := w_push (n := 1) rfl
set_option maxRecDepth 100000 in
theorem e_L_1346 {d : Nat} {Q : Option Value → gS → Prop} {x0 x1 x2 x3 : Option Value} {v : Int32} {σ : gS} : wp d pr_L Q 1346 [x0, x1, x2, x3] [.int v] σ ↔ (v = 0 ∨ v = 1) ∧ Q (some (.int v)) σ := w_zret rfl
set_option maxRecDepth 100000 in
theorem e_L_1347 {d : Nat} {Q : Option Value → gS → Prop} {x0 x2 x3 : Option Value} {v : Nat} {st : List Value} {σ : gS} : wp d pr_L Q 1347 [x0, some (.ref v), x2, x3] st σ ↔ wp d pr_L Q 1348 [x0, some (.ref v), x2, x3] (.ref v :: st) σ := w_aload (k := 1) (n := 1) rfl rfl
set_option maxRecDepth 100000 in
theorem e_L_1347n {d : Nat} {Q : Option Value → gS → Prop} {x0 x2 x3 : Option Value}  {st : List Value} {σ : gS} : wp d pr_L Q 1347 [x0, some .null, x2, x3] st σ ↔ wp d pr_L Q 1348 [x0, some .null, x2, x3] (.null :: st) σ := w_aloadN (k := 1) (n := 1) rfl rfl
set_option maxRecDepth 100000 in
theorem e_L_1348 {d : Nat} {Q : Option Value → gS → Prop} {x1 x2 x3 : Option Value} {v : Nat} {st : List Value} {σ : gS} : wp d pr_L Q 1348 [some (.ref v), x1, x2, x3] st σ ↔ wp d pr_L Q 1349 [some (.ref v), x1, x2, x3] (.ref v :: st) σ := w_aload (k := 0) (n := 1) rfl rfl
set_option maxRecDepth 100000 in
theorem e_L_1349 {d : Nat} {Q : Option Value → gS → Prop} {x0 x1 x2 : Option Value} {v : Int32} {st : List Value} {σ : gS} : wp d pr_L Q 1349 [x0, x1, x2, some (.int v)] st σ ↔ wp d pr_L Q 1350 [x0, x1, x2, some (.int v)] (.int v :: st) σ := w_iload (k := 3) (n := 1) rfl rfl
set_option maxRecDepth 100000 in
theorem e_L_1350 {d : Nat} {Q : Option Value → gS → Prop} {x0 x1 x2 x3 : Option Value}  {st : List Value} {σ : gS} : wp d pr_L Q 1350 [x0, x1, x2, x3] st σ ↔ wp d pr_L Q 1351 [x0, x1, x2, x3] (.int (1) :: st) σ := w_push (n := 1) rfl
set_option maxRecDepth 100000 in
theorem e_L_1351 {d : Nat} {Q : Option Value → gS → Prop} {x0 x1 x2 x3 : Option Value} {x y : Int32} {st : List Value} {σ : gS} : wp d pr_L Q 1351 [x0, x1, x2, x3] (.int y :: .int x :: st) σ ↔ wp d pr_L Q 1352 [x0, x1, x2, x3] (.int (x + y) :: st) σ := w_bI (f := fun x y => x + y) rfl
set_option maxRecDepth 100000 in
theorem e_L_1352 {d : Nat} {Q : Option Value → gS → Prop} {x0 x1 x2 x3 : Option Value} {i : Int32} {a : Nat} {st : List Value} {σ : gS} : wp d pr_L Q 1352 [x0, x1, x2, x3] (.int i :: .ref a :: st) σ ↔ ((gK σ a = 21 ∨ gK σ a = 26) ∧ ¬ i < 0 ∧ i.toNatClampNeg < gN σ a) ∧ wp d pr_L Q 1353 [x0, x1, x2, x3] (.int (gI σ a i.toNatClampNeg) :: st) σ := w_iald rfl
set_option maxRecDepth 100000 in
theorem e_L_1353 {d : Nat} {Q : Option Value → gS → Prop} {x1 x2 x3 : Option Value} {v : Nat} {st : List Value} {σ : gS} : wp d pr_L Q 1353 [some (.ref v), x1, x2, x3] st σ ↔ wp d pr_L Q 1354 [some (.ref v), x1, x2, x3] (.ref v :: st) σ := w_aload (k := 0) (n := 1) rfl rfl
set_option maxRecDepth 100000 in
theorem e_L_1354 {d : Nat} {Q : Option Value → gS → Prop} {x0 x1 x2 : Option Value} {v : Int32} {st : List Value} {σ : gS} : wp d pr_L Q 1354 [x0, x1, x2, some (.int v)] st σ ↔ wp d pr_L Q 1355 [x0, x1, x2, some (.int v)] (.int v :: st) σ := w_iload (k := 3) (n := 1) rfl rfl
set_option maxRecDepth 100000 in
theorem e_L_1355 {d : Nat} {Q : Option Value → gS → Prop} {x0 x1 x2 x3 : Option Value}  {st : List Value} {σ : gS} : wp d pr_L Q 1355 [x0, x1, x2, x3] st σ ↔ wp d pr_L Q 1356 [x0, x1, x2, x3] (.int (2) :: st) σ := w_push (n := 1) rfl
set_option maxRecDepth 100000 in
theorem e_L_1356 {d : Nat} {Q : Option Value → gS → Prop} {x0 x1 x2 x3 : Option Value} {x y : Int32} {st : List Value} {σ : gS} : wp d pr_L Q 1356 [x0, x1, x2, x3] (.int y :: .int x :: st) σ ↔ wp d pr_L Q 1357 [x0, x1, x2, x3] (.int (x + y) :: st) σ := w_bI (f := fun x y => x + y) rfl
set_option maxRecDepth 100000 in
theorem e_L_1357 {d : Nat} {Q : Option Value → gS → Prop} {x0 x1 x2 x3 : Option Value} {i : Int32} {a : Nat} {st : List Value} {σ : gS} : wp d pr_L Q 1357 [x0, x1, x2, x3] (.int i :: .ref a :: st) σ ↔ ((gK σ a = 21 ∨ gK σ a = 26) ∧ ¬ i < 0 ∧ i.toNatClampNeg < gN σ a) ∧ wp d pr_L Q 1358 [x0, x1, x2, x3] (.int (gI σ a i.toNatClampNeg) :: st) σ := w_iald rfl
set_option maxRecDepth 100000 in
theorem e_L_1358 {d : Nat} {Q : Option Value → gS → Prop} {x0 x1 x2 x3 : Option Value} {v0 v1 : Value} {a : Nat}  {st : List Value} {σ : gS} : wp d pr_L Q 1358 [x0, x1, x2, x3] (v1 :: v0 :: .ref a :: st) σ ↔ (gK σ a = 12 ∧ st.length ≤ 4) ∧ wc d 149 [.ref a, v0, v1] σ (fun r τ => wp d pr_L Q 1361 [x0, x1, x2, x3] (r.toList ++ st) τ) := w_callV rfl (by simp) rfl rfl
set_option maxRecDepth 100000 in
theorem e_L_1361 {d : Nat} {Q : Option Value → gS → Prop} {x0 x1 x3 : Option Value} {v : Nat} {st : List Value} {σ : gS} : wp d pr_L Q 1361 [x0, x1, some (.ref v), x3] st σ ↔ wp d pr_L Q 1362 [x0, x1, some (.ref v), x3] (.ref v :: st) σ := w_aload (k := 2) (n := 1) rfl rfl
set_option maxRecDepth 100000 in
theorem e_L_1361n {d : Nat} {Q : Option Value → gS → Prop} {x0 x1 x3 : Option Value}  {st : List Value} {σ : gS} : wp d pr_L Q 1361 [x0, x1, some .null, x3] st σ ↔ wp d pr_L Q 1362 [x0, x1, some .null, x3] (.null :: st) σ := w_aloadN (k := 2) (n := 1) rfl rfl
set_option maxRecDepth 100000 in
theorem e_L_1362 {d : Nat} {Q : Option Value → gS → Prop} {x1 x2 x3 : Option Value} {v : Nat} {st : List Value} {σ : gS} : wp d pr_L Q 1362 [some (.ref v), x1, x2, x3] st σ ↔ wp d pr_L Q 1363 [some (.ref v), x1, x2, x3] (.ref v :: st) σ := w_aload (k := 0) (n := 1) rfl rfl
set_option maxRecDepth 100000 in
theorem e_L_1363 {d : Nat} {Q : Option Value → gS → Prop} {x0 x1 x2 : Option Value} {v : Int32} {st : List Value} {σ : gS} : wp d pr_L Q 1363 [x0, x1, x2, some (.int v)] st σ ↔ wp d pr_L Q 1364 [x0, x1, x2, some (.int v)] (.int v :: st) σ := w_iload (k := 3) (n := 1) rfl rfl
set_option maxRecDepth 100000 in
theorem e_L_1364 {d : Nat} {Q : Option Value → gS → Prop} {x0 x1 x2 x3 : Option Value}  {st : List Value} {σ : gS} : wp d pr_L Q 1364 [x0, x1, x2, x3] st σ ↔ wp d pr_L Q 1365 [x0, x1, x2, x3] (.int (1) :: st) σ := w_push (n := 1) rfl
set_option maxRecDepth 100000 in
theorem e_L_1365 {d : Nat} {Q : Option Value → gS → Prop} {x0 x1 x2 x3 : Option Value} {x y : Int32} {st : List Value} {σ : gS} : wp d pr_L Q 1365 [x0, x1, x2, x3] (.int y :: .int x :: st) σ ↔ wp d pr_L Q 1366 [x0, x1, x2, x3] (.int (x + y) :: st) σ := w_bI (f := fun x y => x + y) rfl
set_option maxRecDepth 100000 in
theorem e_L_1366 {d : Nat} {Q : Option Value → gS → Prop} {x0 x1 x2 x3 : Option Value} {i : Int32} {a : Nat} {st : List Value} {σ : gS} : wp d pr_L Q 1366 [x0, x1, x2, x3] (.int i :: .ref a :: st) σ ↔ ((gK σ a = 21 ∨ gK σ a = 26) ∧ ¬ i < 0 ∧ i.toNatClampNeg < gN σ a) ∧ wp d pr_L Q 1367 [x0, x1, x2, x3] (.int (gI σ a i.toNatClampNeg) :: st) σ := w_iald rfl
set_option maxRecDepth 100000 in
theorem e_L_1367 {d : Nat} {Q : Option Value → gS → Prop} {x1 x2 x3 : Option Value} {v : Nat} {st : List Value} {σ : gS} : wp d pr_L Q 1367 [some (.ref v), x1, x2, x3] st σ ↔ wp d pr_L Q 1368 [some (.ref v), x1, x2, x3] (.ref v :: st) σ := w_aload (k := 0) (n := 1) rfl rfl
set_option maxRecDepth 100000 in
theorem e_L_1368 {d : Nat} {Q : Option Value → gS → Prop} {x0 x1 x2 : Option Value} {v : Int32} {st : List Value} {σ : gS} : wp d pr_L Q 1368 [x0, x1, x2, some (.int v)] st σ ↔ wp d pr_L Q 1369 [x0, x1, x2, some (.int v)] (.int v :: st) σ := w_iload (k := 3) (n := 1) rfl rfl
set_option maxRecDepth 100000 in
theorem e_L_1369 {d : Nat} {Q : Option Value → gS → Prop} {x0 x1 x2 x3 : Option Value}  {st : List Value} {σ : gS} : wp d pr_L Q 1369 [x0, x1, x2, x3] st σ ↔ wp d pr_L Q 1370 [x0, x1, x2, x3] (.int (2) :: st) σ := w_push (n := 1) rfl
set_option maxRecDepth 100000 in
theorem e_L_1370 {d : Nat} {Q : Option Value → gS → Prop} {x0 x1 x2 x3 : Option Value} {x y : Int32} {st : List Value} {σ : gS} : wp d pr_L Q 1370 [x0, x1, x2, x3] (.int y :: .int x :: st) σ ↔ wp d pr_L Q 1371 [x0, x1, x2, x3] (.int (x + y) :: st) σ := w_bI (f := fun x y => x + y) rfl
set_option maxRecDepth 100000 in
theorem e_L_1371 {d : Nat} {Q : Option Value → gS → Prop} {x0 x1 x2 x3 : Option Value} {i : Int32} {a : Nat} {st : List Value} {σ : gS} : wp d pr_L Q 1371 [x0, x1, x2, x3] (.int i :: .ref a :: st) σ ↔ ((gK σ a = 21 ∨ gK σ a = 26) ∧ ¬ i < 0 ∧ i.toNatClampNeg < gN σ a) ∧ wp d pr_L Q 1372 [x0, x1, x2, x3] (.int (gI σ a i.toNatClampNeg) :: st) σ := w_iald rfl
set_option maxRecDepth 100000 in
theorem e_L_1372 {d : Nat} {Q : Option Value → gS → Prop} {x0 x1 x2 x3 : Option Value} {v0 v1 : Value} {a : Nat}  {st : List Value} {σ : gS} : wp d pr_L Q 1372 [x0, x1, x2, x3] (v1 :: v0 :: .ref a :: st) σ ↔ (gK σ a = 13 ∧ st.length ≤ 4) ∧ wc d 271 [.ref a, v0, v1] σ (fun r τ => wp d pr_L Q 1375 [x0, x1, x2, x3] (r.toList ++ st) τ) := w_callV rfl (by simp) rfl rfl
set_option maxRecDepth 100000 in
theorem e_L_1375 {d : Nat} {Q : Option Value → gS → Prop} {x0 x1 x2 x3 : Option Value} {x y : Int32} {st : List Value} {σ : gS} : wp d pr_L Q 1375 [x0, x1, x2, x3] (.int y :: .int x :: st) σ ↔ ((x = y) → wp d pr_L Q 1495 [x0, x1, x2, x3] (st) σ) ∧ (¬ (x = y) → wp d pr_L Q 1378 [x0, x1, x2, x3] (st) σ) := w_icmp rfl decide_eq_true_iff
set_option maxRecDepth 100000 in
theorem e_L_1378 {d : Nat} {Q : Option Value → gS → Prop} {x0 x1 x2 x3 : Option Value}  {st : List Value} {σ : gS} : wp d pr_L Q 1378 [x0, x1, x2, x3] st σ ↔ wp d pr_L Q 1379 [x0, x1, x2, x3] (.int (0) :: st) σ := w_push (n := 1) rfl
set_option maxRecDepth 100000 in
theorem e_L_1379 {d : Nat} {Q : Option Value → gS → Prop} {x0 x1 x2 x3 : Option Value} {v : Int32} {σ : gS} : wp d pr_L Q 1379 [x0, x1, x2, x3] [.int v] σ ↔ (v = 0 ∨ v = 1) ∧ Q (some (.int v)) σ := w_zret rfl
set_option maxRecDepth 100000 in
theorem e_L_1380 {d : Nat} {Q : Option Value → gS → Prop} {x0 x2 x3 : Option Value} {v : Nat} {st : List Value} {σ : gS} : wp d pr_L Q 1380 [x0, some (.ref v), x2, x3] st σ ↔ wp d pr_L Q 1381 [x0, some (.ref v), x2, x3] (.ref v :: st) σ := w_aload (k := 1) (n := 1) rfl rfl
set_option maxRecDepth 100000 in
theorem e_L_1380n {d : Nat} {Q : Option Value → gS → Prop} {x0 x2 x3 : Option Value}  {st : List Value} {σ : gS} : wp d pr_L Q 1380 [x0, some .null, x2, x3] st σ ↔ wp d pr_L Q 1381 [x0, some .null, x2, x3] (.null :: st) σ := w_aloadN (k := 1) (n := 1) rfl rfl
set_option maxRecDepth 100000 in
theorem e_L_1381 {d : Nat} {Q : Option Value → gS → Prop} {x1 x2 x3 : Option Value} {v : Nat} {st : List Value} {σ : gS} : wp d pr_L Q 1381 [some (.ref v), x1, x2, x3] st σ ↔ wp d pr_L Q 1382 [some (.ref v), x1, x2, x3] (.ref v :: st) σ := w_aload (k := 0) (n := 1) rfl rfl
set_option maxRecDepth 100000 in
theorem e_L_1382 {d : Nat} {Q : Option Value → gS → Prop} {x0 x1 x2 : Option Value} {v : Int32} {st : List Value} {σ : gS} : wp d pr_L Q 1382 [x0, x1, x2, some (.int v)] st σ ↔ wp d pr_L Q 1383 [x0, x1, x2, some (.int v)] (.int v :: st) σ := w_iload (k := 3) (n := 1) rfl rfl
set_option maxRecDepth 100000 in
theorem e_L_1383 {d : Nat} {Q : Option Value → gS → Prop} {x0 x1 x2 x3 : Option Value}  {st : List Value} {σ : gS} : wp d pr_L Q 1383 [x0, x1, x2, x3] st σ ↔ wp d pr_L Q 1384 [x0, x1, x2, x3] (.int (1) :: st) σ := w_push (n := 1) rfl
set_option maxRecDepth 100000 in
theorem e_L_1384 {d : Nat} {Q : Option Value → gS → Prop} {x0 x1 x2 x3 : Option Value} {x y : Int32} {st : List Value} {σ : gS} : wp d pr_L Q 1384 [x0, x1, x2, x3] (.int y :: .int x :: st) σ ↔ wp d pr_L Q 1385 [x0, x1, x2, x3] (.int (x + y) :: st) σ := w_bI (f := fun x y => x + y) rfl
set_option maxRecDepth 100000 in
theorem e_L_1385 {d : Nat} {Q : Option Value → gS → Prop} {x0 x1 x2 x3 : Option Value} {i : Int32} {a : Nat} {st : List Value} {σ : gS} : wp d pr_L Q 1385 [x0, x1, x2, x3] (.int i :: .ref a :: st) σ ↔ ((gK σ a = 21 ∨ gK σ a = 26) ∧ ¬ i < 0 ∧ i.toNatClampNeg < gN σ a) ∧ wp d pr_L Q 1386 [x0, x1, x2, x3] (.int (gI σ a i.toNatClampNeg) :: st) σ := w_iald rfl
set_option maxRecDepth 100000 in
theorem e_L_1386 {d : Nat} {Q : Option Value → gS → Prop} {x1 x2 x3 : Option Value} {v : Nat} {st : List Value} {σ : gS} : wp d pr_L Q 1386 [some (.ref v), x1, x2, x3] st σ ↔ wp d pr_L Q 1387 [some (.ref v), x1, x2, x3] (.ref v :: st) σ := w_aload (k := 0) (n := 1) rfl rfl
set_option maxRecDepth 100000 in
theorem e_L_1387 {d : Nat} {Q : Option Value → gS → Prop} {x0 x1 x2 : Option Value} {v : Int32} {st : List Value} {σ : gS} : wp d pr_L Q 1387 [x0, x1, x2, some (.int v)] st σ ↔ wp d pr_L Q 1388 [x0, x1, x2, some (.int v)] (.int v :: st) σ := w_iload (k := 3) (n := 1) rfl rfl
set_option maxRecDepth 100000 in
theorem e_L_1388 {d : Nat} {Q : Option Value → gS → Prop} {x0 x1 x2 x3 : Option Value}  {st : List Value} {σ : gS} : wp d pr_L Q 1388 [x0, x1, x2, x3] st σ ↔ wp d pr_L Q 1389 [x0, x1, x2, x3] (.int (2) :: st) σ := w_push (n := 1) rfl
set_option maxRecDepth 100000 in
theorem e_L_1389 {d : Nat} {Q : Option Value → gS → Prop} {x0 x1 x2 x3 : Option Value} {x y : Int32} {st : List Value} {σ : gS} : wp d pr_L Q 1389 [x0, x1, x2, x3] (.int y :: .int x :: st) σ ↔ wp d pr_L Q 1390 [x0, x1, x2, x3] (.int (x + y) :: st) σ := w_bI (f := fun x y => x + y) rfl
set_option maxRecDepth 100000 in
theorem e_L_1390 {d : Nat} {Q : Option Value → gS → Prop} {x0 x1 x2 x3 : Option Value} {i : Int32} {a : Nat} {st : List Value} {σ : gS} : wp d pr_L Q 1390 [x0, x1, x2, x3] (.int i :: .ref a :: st) σ ↔ ((gK σ a = 21 ∨ gK σ a = 26) ∧ ¬ i < 0 ∧ i.toNatClampNeg < gN σ a) ∧ wp d pr_L Q 1391 [x0, x1, x2, x3] (.int (gI σ a i.toNatClampNeg) :: st) σ := w_iald rfl
set_option maxRecDepth 100000 in
theorem e_L_1391 {d : Nat} {Q : Option Value → gS → Prop} {x0 x1 x2 x3 : Option Value} {v0 v1 : Value} {a : Nat}  {st : List Value} {σ : gS} : wp d pr_L Q 1391 [x0, x1, x2, x3] (v1 :: v0 :: .ref a :: st) σ ↔ (gK σ a = 12 ∧ st.length ≤ 4) ∧ wc d 150 [.ref a, v0, v1] σ (fun r τ => wp d pr_L Q 1394 [x0, x1, x2, x3] (r.toList ++ st) τ) := w_callV rfl (by simp) rfl rfl
set_option maxRecDepth 100000 in
theorem e_L_1394 {d : Nat} {Q : Option Value → gS → Prop} {x0 x1 x3 : Option Value} {v : Nat} {st : List Value} {σ : gS} : wp d pr_L Q 1394 [x0, x1, some (.ref v), x3] st σ ↔ wp d pr_L Q 1395 [x0, x1, some (.ref v), x3] (.ref v :: st) σ := w_aload (k := 2) (n := 1) rfl rfl
set_option maxRecDepth 100000 in
theorem e_L_1394n {d : Nat} {Q : Option Value → gS → Prop} {x0 x1 x3 : Option Value}  {st : List Value} {σ : gS} : wp d pr_L Q 1394 [x0, x1, some .null, x3] st σ ↔ wp d pr_L Q 1395 [x0, x1, some .null, x3] (.null :: st) σ := w_aloadN (k := 2) (n := 1) rfl rfl
set_option maxRecDepth 100000 in
theorem e_L_1395 {d : Nat} {Q : Option Value → gS → Prop} {x1 x2 x3 : Option Value} {v : Nat} {st : List Value} {σ : gS} : wp d pr_L Q 1395 [some (.ref v), x1, x2, x3] st σ ↔ wp d pr_L Q 1396 [some (.ref v), x1, x2, x3] (.ref v :: st) σ := w_aload (k := 0) (n := 1) rfl rfl
set_option maxRecDepth 100000 in
theorem e_L_1396 {d : Nat} {Q : Option Value → gS → Prop} {x0 x1 x2 : Option Value} {v : Int32} {st : List Value} {σ : gS} : wp d pr_L Q 1396 [x0, x1, x2, some (.int v)] st σ ↔ wp d pr_L Q 1397 [x0, x1, x2, some (.int v)] (.int v :: st) σ := w_iload (k := 3) (n := 1) rfl rfl
set_option maxRecDepth 100000 in
theorem e_L_1397 {d : Nat} {Q : Option Value → gS → Prop} {x0 x1 x2 x3 : Option Value}  {st : List Value} {σ : gS} : wp d pr_L Q 1397 [x0, x1, x2, x3] st σ ↔ wp d pr_L Q 1398 [x0, x1, x2, x3] (.int (1) :: st) σ := w_push (n := 1) rfl
set_option maxRecDepth 100000 in
theorem e_L_1398 {d : Nat} {Q : Option Value → gS → Prop} {x0 x1 x2 x3 : Option Value} {x y : Int32} {st : List Value} {σ : gS} : wp d pr_L Q 1398 [x0, x1, x2, x3] (.int y :: .int x :: st) σ ↔ wp d pr_L Q 1399 [x0, x1, x2, x3] (.int (x + y) :: st) σ := w_bI (f := fun x y => x + y) rfl
set_option maxRecDepth 100000 in
theorem e_L_1399 {d : Nat} {Q : Option Value → gS → Prop} {x0 x1 x2 x3 : Option Value} {i : Int32} {a : Nat} {st : List Value} {σ : gS} : wp d pr_L Q 1399 [x0, x1, x2, x3] (.int i :: .ref a :: st) σ ↔ ((gK σ a = 21 ∨ gK σ a = 26) ∧ ¬ i < 0 ∧ i.toNatClampNeg < gN σ a) ∧ wp d pr_L Q 1400 [x0, x1, x2, x3] (.int (gI σ a i.toNatClampNeg) :: st) σ := w_iald rfl
set_option maxRecDepth 100000 in
theorem e_L_1400 {d : Nat} {Q : Option Value → gS → Prop} {x1 x2 x3 : Option Value} {v : Nat} {st : List Value} {σ : gS} : wp d pr_L Q 1400 [some (.ref v), x1, x2, x3] st σ ↔ wp d pr_L Q 1401 [some (.ref v), x1, x2, x3] (.ref v :: st) σ := w_aload (k := 0) (n := 1) rfl rfl
set_option maxRecDepth 100000 in
theorem e_L_1401 {d : Nat} {Q : Option Value → gS → Prop} {x0 x1 x2 : Option Value} {v : Int32} {st : List Value} {σ : gS} : wp d pr_L Q 1401 [x0, x1, x2, some (.int v)] st σ ↔ wp d pr_L Q 1402 [x0, x1, x2, some (.int v)] (.int v :: st) σ := w_iload (k := 3) (n := 1) rfl rfl
set_option maxRecDepth 100000 in
theorem e_L_1402 {d : Nat} {Q : Option Value → gS → Prop} {x0 x1 x2 x3 : Option Value}  {st : List Value} {σ : gS} : wp d pr_L Q 1402 [x0, x1, x2, x3] st σ ↔ wp d pr_L Q 1403 [x0, x1, x2, x3] (.int (2) :: st) σ := w_push (n := 1) rfl
set_option maxRecDepth 100000 in
theorem e_L_1403 {d : Nat} {Q : Option Value → gS → Prop} {x0 x1 x2 x3 : Option Value} {x y : Int32} {st : List Value} {σ : gS} : wp d pr_L Q 1403 [x0, x1, x2, x3] (.int y :: .int x :: st) σ ↔ wp d pr_L Q 1404 [x0, x1, x2, x3] (.int (x + y) :: st) σ := w_bI (f := fun x y => x + y) rfl
set_option maxRecDepth 100000 in
theorem e_L_1404 {d : Nat} {Q : Option Value → gS → Prop} {x0 x1 x2 x3 : Option Value} {i : Int32} {a : Nat} {st : List Value} {σ : gS} : wp d pr_L Q 1404 [x0, x1, x2, x3] (.int i :: .ref a :: st) σ ↔ ((gK σ a = 21 ∨ gK σ a = 26) ∧ ¬ i < 0 ∧ i.toNatClampNeg < gN σ a) ∧ wp d pr_L Q 1405 [x0, x1, x2, x3] (.int (gI σ a i.toNatClampNeg) :: st) σ := w_iald rfl
set_option maxRecDepth 100000 in
theorem e_L_1405 {d : Nat} {Q : Option Value → gS → Prop} {x0 x1 x2 x3 : Option Value} {v0 v1 : Value} {a : Nat}  {st : List Value} {σ : gS} : wp d pr_L Q 1405 [x0, x1, x2, x3] (v1 :: v0 :: .ref a :: st) σ ↔ (gK σ a = 13 ∧ st.length ≤ 4) ∧ wc d 272 [.ref a, v0, v1] σ (fun r τ => wp d pr_L Q 1408 [x0, x1, x2, x3] (r.toList ++ st) τ) := w_callV rfl (by simp) rfl rfl
set_option maxRecDepth 100000 in
theorem e_L_1408 {d : Nat} {Q : Option Value → gS → Prop} {x0 x1 x2 x3 : Option Value} {x y : Int32} {st : List Value} {σ : gS} : wp d pr_L Q 1408 [x0, x1, x2, x3] (.int y :: .int x :: st) σ ↔ ((x = y) → wp d pr_L Q 1495 [x0, x1, x2, x3] (st) σ) ∧ (¬ (x = y) → wp d pr_L Q 1411 [x0, x1, x2, x3] (st) σ) := w_icmp rfl decide_eq_true_iff
set_option maxRecDepth 100000 in
theorem e_L_1411 {d : Nat} {Q : Option Value → gS → Prop} {x0 x1 x2 x3 : Option Value}  {st : List Value} {σ : gS} : wp d pr_L Q 1411 [x0, x1, x2, x3] st σ ↔ wp d pr_L Q 1412 [x0, x1, x2, x3] (.int (0) :: st) σ := w_push (n := 1) rfl
set_option maxRecDepth 100000 in
theorem e_L_1412 {d : Nat} {Q : Option Value → gS → Prop} {x0 x1 x2 x3 : Option Value} {v : Int32} {σ : gS} : wp d pr_L Q 1412 [x0, x1, x2, x3] [.int v] σ ↔ (v = 0 ∨ v = 1) ∧ Q (some (.int v)) σ := w_zret rfl
set_option maxRecDepth 100000 in
theorem e_L_1413 {d : Nat} {Q : Option Value → gS → Prop} {x0 x2 x3 : Option Value} {v : Nat} {st : List Value} {σ : gS} : wp d pr_L Q 1413 [x0, some (.ref v), x2, x3] st σ ↔ wp d pr_L Q 1414 [x0, some (.ref v), x2, x3] (.ref v :: st) σ := w_aload (k := 1) (n := 1) rfl rfl
set_option maxRecDepth 100000 in
theorem e_L_1413n {d : Nat} {Q : Option Value → gS → Prop} {x0 x2 x3 : Option Value}  {st : List Value} {σ : gS} : wp d pr_L Q 1413 [x0, some .null, x2, x3] st σ ↔ wp d pr_L Q 1414 [x0, some .null, x2, x3] (.null :: st) σ := w_aloadN (k := 1) (n := 1) rfl rfl
set_option maxRecDepth 100000 in
theorem e_L_1414 {d : Nat} {Q : Option Value → gS → Prop} {x1 x2 x3 : Option Value} {v : Nat} {st : List Value} {σ : gS} : wp d pr_L Q 1414 [some (.ref v), x1, x2, x3] st σ ↔ wp d pr_L Q 1415 [some (.ref v), x1, x2, x3] (.ref v :: st) σ := w_aload (k := 0) (n := 1) rfl rfl
set_option maxRecDepth 100000 in
theorem e_L_1415 {d : Nat} {Q : Option Value → gS → Prop} {x0 x1 x2 : Option Value} {v : Int32} {st : List Value} {σ : gS} : wp d pr_L Q 1415 [x0, x1, x2, some (.int v)] st σ ↔ wp d pr_L Q 1416 [x0, x1, x2, some (.int v)] (.int v :: st) σ := w_iload (k := 3) (n := 1) rfl rfl
set_option maxRecDepth 100000 in
theorem e_L_1416 {d : Nat} {Q : Option Value → gS → Prop} {x0 x1 x2 x3 : Option Value}  {st : List Value} {σ : gS} : wp d pr_L Q 1416 [x0, x1, x2, x3] st σ ↔ wp d pr_L Q 1417 [x0, x1, x2, x3] (.int (1) :: st) σ := w_push (n := 1) rfl
set_option maxRecDepth 100000 in
theorem e_L_1417 {d : Nat} {Q : Option Value → gS → Prop} {x0 x1 x2 x3 : Option Value} {x y : Int32} {st : List Value} {σ : gS} : wp d pr_L Q 1417 [x0, x1, x2, x3] (.int y :: .int x :: st) σ ↔ wp d pr_L Q 1418 [x0, x1, x2, x3] (.int (x + y) :: st) σ := w_bI (f := fun x y => x + y) rfl
set_option maxRecDepth 100000 in
theorem e_L_1418 {d : Nat} {Q : Option Value → gS → Prop} {x0 x1 x2 x3 : Option Value} {i : Int32} {a : Nat} {st : List Value} {σ : gS} : wp d pr_L Q 1418 [x0, x1, x2, x3] (.int i :: .ref a :: st) σ ↔ ((gK σ a = 21 ∨ gK σ a = 26) ∧ ¬ i < 0 ∧ i.toNatClampNeg < gN σ a) ∧ wp d pr_L Q 1419 [x0, x1, x2, x3] (.int (gI σ a i.toNatClampNeg) :: st) σ := w_iald rfl
set_option maxRecDepth 100000 in
theorem e_L_1419 {d : Nat} {Q : Option Value → gS → Prop} {x0 x1 x2 x3 : Option Value} {v0 : Value} {a : Nat}  {st : List Value} {σ : gS} : wp d pr_L Q 1419 [x0, x1, x2, x3] (v0 :: .ref a :: st) σ ↔ (gK σ a = 12 ∧ st.length ≤ 4) ∧ wc d 151 [.ref a, v0] σ (fun r τ => wp d pr_L Q 1422 [x0, x1, x2, x3] (r.toList ++ st) τ) := w_callV rfl (by simp) rfl rfl
set_option maxRecDepth 100000 in
theorem e_L_1422 {d : Nat} {Q : Option Value → gS → Prop} {x0 x1 x3 : Option Value} {v : Nat} {st : List Value} {σ : gS} : wp d pr_L Q 1422 [x0, x1, some (.ref v), x3] st σ ↔ wp d pr_L Q 1423 [x0, x1, some (.ref v), x3] (.ref v :: st) σ := w_aload (k := 2) (n := 1) rfl rfl
set_option maxRecDepth 100000 in
theorem e_L_1422n {d : Nat} {Q : Option Value → gS → Prop} {x0 x1 x3 : Option Value}  {st : List Value} {σ : gS} : wp d pr_L Q 1422 [x0, x1, some .null, x3] st σ ↔ wp d pr_L Q 1423 [x0, x1, some .null, x3] (.null :: st) σ := w_aloadN (k := 2) (n := 1) rfl rfl
set_option maxRecDepth 100000 in
theorem e_L_1423 {d : Nat} {Q : Option Value → gS → Prop} {x1 x2 x3 : Option Value} {v : Nat} {st : List Value} {σ : gS} : wp d pr_L Q 1423 [some (.ref v), x1, x2, x3] st σ ↔ wp d pr_L Q 1424 [some (.ref v), x1, x2, x3] (.ref v :: st) σ := w_aload (k := 0) (n := 1) rfl rfl
set_option maxRecDepth 100000 in
theorem e_L_1424 {d : Nat} {Q : Option Value → gS → Prop} {x0 x1 x2 : Option Value} {v : Int32} {st : List Value} {σ : gS} : wp d pr_L Q 1424 [x0, x1, x2, some (.int v)] st σ ↔ wp d pr_L Q 1425 [x0, x1, x2, some (.int v)] (.int v :: st) σ := w_iload (k := 3) (n := 1) rfl rfl
set_option maxRecDepth 100000 in
theorem e_L_1425 {d : Nat} {Q : Option Value → gS → Prop} {x0 x1 x2 x3 : Option Value}  {st : List Value} {σ : gS} : wp d pr_L Q 1425 [x0, x1, x2, x3] st σ ↔ wp d pr_L Q 1426 [x0, x1, x2, x3] (.int (1) :: st) σ := w_push (n := 1) rfl
set_option maxRecDepth 100000 in
theorem e_L_1426 {d : Nat} {Q : Option Value → gS → Prop} {x0 x1 x2 x3 : Option Value} {x y : Int32} {st : List Value} {σ : gS} : wp d pr_L Q 1426 [x0, x1, x2, x3] (.int y :: .int x :: st) σ ↔ wp d pr_L Q 1427 [x0, x1, x2, x3] (.int (x + y) :: st) σ := w_bI (f := fun x y => x + y) rfl
set_option maxRecDepth 100000 in
theorem e_L_1427 {d : Nat} {Q : Option Value → gS → Prop} {x0 x1 x2 x3 : Option Value} {i : Int32} {a : Nat} {st : List Value} {σ : gS} : wp d pr_L Q 1427 [x0, x1, x2, x3] (.int i :: .ref a :: st) σ ↔ ((gK σ a = 21 ∨ gK σ a = 26) ∧ ¬ i < 0 ∧ i.toNatClampNeg < gN σ a) ∧ wp d pr_L Q 1428 [x0, x1, x2, x3] (.int (gI σ a i.toNatClampNeg) :: st) σ := w_iald rfl
set_option maxRecDepth 100000 in
theorem e_L_1428 {d : Nat} {Q : Option Value → gS → Prop} {x0 x1 x2 x3 : Option Value} {v0 : Value} {a : Nat}  {st : List Value} {σ : gS} : wp d pr_L Q 1428 [x0, x1, x2, x3] (v0 :: .ref a :: st) σ ↔ (gK σ a = 13 ∧ st.length ≤ 4) ∧ wc d 169 [.ref a, v0] σ (fun r τ => wp d pr_L Q 1431 [x0, x1, x2, x3] (r.toList ++ st) τ) := w_callV rfl (by simp) rfl rfl
set_option maxRecDepth 100000 in
theorem e_L_1431 {d : Nat} {Q : Option Value → gS → Prop} {x0 x1 x2 x3 : Option Value} {x y : Int32} {st : List Value} {σ : gS} : wp d pr_L Q 1431 [x0, x1, x2, x3] (.int y :: .int x :: st) σ ↔ ((x = y) → wp d pr_L Q 1495 [x0, x1, x2, x3] (st) σ) ∧ (¬ (x = y) → wp d pr_L Q 1434 [x0, x1, x2, x3] (st) σ) := w_icmp rfl decide_eq_true_iff
set_option maxRecDepth 100000 in
theorem e_L_1434 {d : Nat} {Q : Option Value → gS → Prop} {x0 x1 x2 x3 : Option Value}  {st : List Value} {σ : gS} : wp d pr_L Q 1434 [x0, x1, x2, x3] st σ ↔ wp d pr_L Q 1435 [x0, x1, x2, x3] (.int (0) :: st) σ := w_push (n := 1) rfl
set_option maxRecDepth 100000 in
theorem e_L_1435 {d : Nat} {Q : Option Value → gS → Prop} {x0 x1 x2 x3 : Option Value} {v : Int32} {σ : gS} : wp d pr_L Q 1435 [x0, x1, x2, x3] [.int v] σ ↔ (v = 0 ∨ v = 1) ∧ Q (some (.int v)) σ := w_zret rfl
set_option maxRecDepth 100000 in
theorem e_L_1436 {d : Nat} {Q : Option Value → gS → Prop} {x0 x2 x3 : Option Value} {v : Nat} {st : List Value} {σ : gS} : wp d pr_L Q 1436 [x0, some (.ref v), x2, x3] st σ ↔ wp d pr_L Q 1437 [x0, some (.ref v), x2, x3] (.ref v :: st) σ := w_aload (k := 1) (n := 1) rfl rfl
set_option maxRecDepth 100000 in
theorem e_L_1436n {d : Nat} {Q : Option Value → gS → Prop} {x0 x2 x3 : Option Value}  {st : List Value} {σ : gS} : wp d pr_L Q 1436 [x0, some .null, x2, x3] st σ ↔ wp d pr_L Q 1437 [x0, some .null, x2, x3] (.null :: st) σ := w_aloadN (k := 1) (n := 1) rfl rfl
set_option maxRecDepth 100000 in
theorem e_L_1437 {d : Nat} {Q : Option Value → gS → Prop} {x1 x2 x3 : Option Value} {v : Nat} {st : List Value} {σ : gS} : wp d pr_L Q 1437 [some (.ref v), x1, x2, x3] st σ ↔ wp d pr_L Q 1438 [some (.ref v), x1, x2, x3] (.ref v :: st) σ := w_aload (k := 0) (n := 1) rfl rfl
set_option maxRecDepth 100000 in
theorem e_L_1438 {d : Nat} {Q : Option Value → gS → Prop} {x0 x1 x2 : Option Value} {v : Int32} {st : List Value} {σ : gS} : wp d pr_L Q 1438 [x0, x1, x2, some (.int v)] st σ ↔ wp d pr_L Q 1439 [x0, x1, x2, some (.int v)] (.int v :: st) σ := w_iload (k := 3) (n := 1) rfl rfl
set_option maxRecDepth 100000 in
theorem e_L_1439 {d : Nat} {Q : Option Value → gS → Prop} {x0 x1 x2 x3 : Option Value}  {st : List Value} {σ : gS} : wp d pr_L Q 1439 [x0, x1, x2, x3] st σ ↔ wp d pr_L Q 1440 [x0, x1, x2, x3] (.int (1) :: st) σ := w_push (n := 1) rfl
set_option maxRecDepth 100000 in
theorem e_L_1440 {d : Nat} {Q : Option Value → gS → Prop} {x0 x1 x2 x3 : Option Value} {x y : Int32} {st : List Value} {σ : gS} : wp d pr_L Q 1440 [x0, x1, x2, x3] (.int y :: .int x :: st) σ ↔ wp d pr_L Q 1441 [x0, x1, x2, x3] (.int (x + y) :: st) σ := w_bI (f := fun x y => x + y) rfl
set_option maxRecDepth 100000 in
theorem e_L_1441 {d : Nat} {Q : Option Value → gS → Prop} {x0 x1 x2 x3 : Option Value} {i : Int32} {a : Nat} {st : List Value} {σ : gS} : wp d pr_L Q 1441 [x0, x1, x2, x3] (.int i :: .ref a :: st) σ ↔ ((gK σ a = 21 ∨ gK σ a = 26) ∧ ¬ i < 0 ∧ i.toNatClampNeg < gN σ a) ∧ wp d pr_L Q 1442 [x0, x1, x2, x3] (.int (gI σ a i.toNatClampNeg) :: st) σ := w_iald rfl
set_option maxRecDepth 100000 in
theorem e_L_1442 {d : Nat} {Q : Option Value → gS → Prop} {x0 x1 x2 x3 : Option Value} {v0 : Value} {a : Nat}  {st : List Value} {σ : gS} : wp d pr_L Q 1442 [x0, x1, x2, x3] (v0 :: .ref a :: st) σ ↔ (gK σ a = 12 ∧ st.length ≤ 4) ∧ wc d 152 [.ref a, v0] σ (fun r τ => wp d pr_L Q 1445 [x0, x1, x2, x3] (r.toList ++ st) τ) := w_callV rfl (by simp) rfl rfl
set_option maxRecDepth 100000 in
theorem e_L_1445 {d : Nat} {Q : Option Value → gS → Prop} {x0 x1 x3 : Option Value} {v : Nat} {st : List Value} {σ : gS} : wp d pr_L Q 1445 [x0, x1, some (.ref v), x3] st σ ↔ wp d pr_L Q 1446 [x0, x1, some (.ref v), x3] (.ref v :: st) σ := w_aload (k := 2) (n := 1) rfl rfl
set_option maxRecDepth 100000 in
theorem e_L_1445n {d : Nat} {Q : Option Value → gS → Prop} {x0 x1 x3 : Option Value}  {st : List Value} {σ : gS} : wp d pr_L Q 1445 [x0, x1, some .null, x3] st σ ↔ wp d pr_L Q 1446 [x0, x1, some .null, x3] (.null :: st) σ := w_aloadN (k := 2) (n := 1) rfl rfl
set_option maxRecDepth 100000 in
theorem e_L_1446 {d : Nat} {Q : Option Value → gS → Prop} {x1 x2 x3 : Option Value} {v : Nat} {st : List Value} {σ : gS} : wp d pr_L Q 1446 [some (.ref v), x1, x2, x3] st σ ↔ wp d pr_L Q 1447 [some (.ref v), x1, x2, x3] (.ref v :: st) σ := w_aload (k := 0) (n := 1) rfl rfl
set_option maxRecDepth 100000 in
theorem e_L_1447 {d : Nat} {Q : Option Value → gS → Prop} {x0 x1 x2 : Option Value} {v : Int32} {st : List Value} {σ : gS} : wp d pr_L Q 1447 [x0, x1, x2, some (.int v)] st σ ↔ wp d pr_L Q 1448 [x0, x1, x2, some (.int v)] (.int v :: st) σ := w_iload (k := 3) (n := 1) rfl rfl
set_option maxRecDepth 100000 in
theorem e_L_1448 {d : Nat} {Q : Option Value → gS → Prop} {x0 x1 x2 x3 : Option Value}  {st : List Value} {σ : gS} : wp d pr_L Q 1448 [x0, x1, x2, x3] st σ ↔ wp d pr_L Q 1449 [x0, x1, x2, x3] (.int (1) :: st) σ := w_push (n := 1) rfl
set_option maxRecDepth 100000 in
theorem e_L_1449 {d : Nat} {Q : Option Value → gS → Prop} {x0 x1 x2 x3 : Option Value} {x y : Int32} {st : List Value} {σ : gS} : wp d pr_L Q 1449 [x0, x1, x2, x3] (.int y :: .int x :: st) σ ↔ wp d pr_L Q 1450 [x0, x1, x2, x3] (.int (x + y) :: st) σ := w_bI (f := fun x y => x + y) rfl
set_option maxRecDepth 100000 in
theorem e_L_1450 {d : Nat} {Q : Option Value → gS → Prop} {x0 x1 x2 x3 : Option Value} {i : Int32} {a : Nat} {st : List Value} {σ : gS} : wp d pr_L Q 1450 [x0, x1, x2, x3] (.int i :: .ref a :: st) σ ↔ ((gK σ a = 21 ∨ gK σ a = 26) ∧ ¬ i < 0 ∧ i.toNatClampNeg < gN σ a) ∧ wp d pr_L Q 1451 [x0, x1, x2, x3] (.int (gI σ a i.toNatClampNeg) :: st) σ := w_iald rfl
set_option maxRecDepth 100000 in
theorem e_L_1451 {d : Nat} {Q : Option Value → gS → Prop} {x0 x1 x2 x3 : Option Value} {v0 : Value} {a : Nat}  {st : List Value} {σ : gS} : wp d pr_L Q 1451 [x0, x1, x2, x3] (v0 :: .ref a :: st) σ ↔ (gK σ a = 13 ∧ st.length ≤ 4) ∧ wc d 170 [.ref a, v0] σ (fun r τ => wp d pr_L Q 1454 [x0, x1, x2, x3] (r.toList ++ st) τ) := w_callV rfl (by simp) rfl rfl
set_option maxRecDepth 100000 in
theorem e_L_1454 {d : Nat} {Q : Option Value → gS → Prop} {x0 x1 x2 x3 : Option Value} {x y : Int32} {st : List Value} {σ : gS} : wp d pr_L Q 1454 [x0, x1, x2, x3] (.int y :: .int x :: st) σ ↔ ((x = y) → wp d pr_L Q 1495 [x0, x1, x2, x3] (st) σ) ∧ (¬ (x = y) → wp d pr_L Q 1457 [x0, x1, x2, x3] (st) σ) := w_icmp rfl decide_eq_true_iff
set_option maxRecDepth 100000 in
theorem e_L_1457 {d : Nat} {Q : Option Value → gS → Prop} {x0 x1 x2 x3 : Option Value}  {st : List Value} {σ : gS} : wp d pr_L Q 1457 [x0, x1, x2, x3] st σ ↔ wp d pr_L Q 1458 [x0, x1, x2, x3] (.int (0) :: st) σ := w_push (n := 1) rfl
set_option maxRecDepth 100000 in
theorem e_L_1458 {d : Nat} {Q : Option Value → gS → Prop} {x0 x1 x2 x3 : Option Value} {v : Int32} {σ : gS} : wp d pr_L Q 1458 [x0, x1, x2, x3] [.int v] σ ↔ (v = 0 ∨ v = 1) ∧ Q (some (.int v)) σ := w_zret rfl
set_option maxRecDepth 100000 in
theorem e_L_1459 {d : Nat} {Q : Option Value → gS → Prop} {x0 x2 x3 : Option Value} {v : Nat} {st : List Value} {σ : gS} : wp d pr_L Q 1459 [x0, some (.ref v), x2, x3] st σ ↔ wp d pr_L Q 1460 [x0, some (.ref v), x2, x3] (.ref v :: st) σ := w_aload (k := 1) (n := 1) rfl rfl
set_option maxRecDepth 100000 in
theorem e_L_1459n {d : Nat} {Q : Option Value → gS → Prop} {x0 x2 x3 : Option Value}  {st : List Value} {σ : gS} : wp d pr_L Q 1459 [x0, some .null, x2, x3] st σ ↔ wp d pr_L Q 1460 [x0, some .null, x2, x3] (.null :: st) σ := w_aloadN (k := 1) (n := 1) rfl rfl
set_option maxRecDepth 100000 in
theorem e_L_1460 {d : Nat} {Q : Option Value → gS → Prop} {x1 x2 x3 : Option Value} {v : Nat} {st : List Value} {σ : gS} : wp d pr_L Q 1460 [some (.ref v), x1, x2, x3] st σ ↔ wp d pr_L Q 1461 [some (.ref v), x1, x2, x3] (.ref v :: st) σ := w_aload (k := 0) (n := 1) rfl rfl
set_option maxRecDepth 100000 in
theorem e_L_1461 {d : Nat} {Q : Option Value → gS → Prop} {x0 x1 x2 : Option Value} {v : Int32} {st : List Value} {σ : gS} : wp d pr_L Q 1461 [x0, x1, x2, some (.int v)] st σ ↔ wp d pr_L Q 1462 [x0, x1, x2, some (.int v)] (.int v :: st) σ := w_iload (k := 3) (n := 1) rfl rfl
set_option maxRecDepth 100000 in
theorem e_L_1462 {d : Nat} {Q : Option Value → gS → Prop} {x0 x1 x2 x3 : Option Value}  {st : List Value} {σ : gS} : wp d pr_L Q 1462 [x0, x1, x2, x3] st σ ↔ wp d pr_L Q 1463 [x0, x1, x2, x3] (.int (1) :: st) σ := w_push (n := 1) rfl
set_option maxRecDepth 100000 in
theorem e_L_1463 {d : Nat} {Q : Option Value → gS → Prop} {x0 x1 x2 x3 : Option Value} {x y : Int32} {st : List Value} {σ : gS} : wp d pr_L Q 1463 [x0, x1, x2, x3] (.int y :: .int x :: st) σ ↔ wp d pr_L Q 1464 [x0, x1, x2, x3] (.int (x + y) :: st) σ := w_bI (f := fun x y => x + y) rfl
set_option maxRecDepth 100000 in
theorem e_L_1464 {d : Nat} {Q : Option Value → gS → Prop} {x0 x1 x2 x3 : Option Value} {i : Int32} {a : Nat} {st : List Value} {σ : gS} : wp d pr_L Q 1464 [x0, x1, x2, x3] (.int i :: .ref a :: st) σ ↔ ((gK σ a = 21 ∨ gK σ a = 26) ∧ ¬ i < 0 ∧ i.toNatClampNeg < gN σ a) ∧ wp d pr_L Q 1465 [x0, x1, x2, x3] (.int (gI σ a i.toNatClampNeg) :: st) σ := w_iald rfl
set_option maxRecDepth 100000 in
theorem e_L_1465 {d : Nat} {Q : Option Value → gS → Prop} {x0 x1 x2 x3 : Option Value} {v0 : Value} {a : Nat}  {st : List Value} {σ : gS} : wp d pr_L Q 1465 [x0, x1, x2, x3] (v0 :: .ref a :: st) σ ↔ (gK σ a = 12 ∧ st.length ≤ 4) ∧ wc d 153 [.ref a, v0] σ (fun r τ => wp d pr_L Q 1468 [x0, x1, x2, x3] (r.toList ++ st) τ) := w_callV rfl (by simp) rfl rfl
set_option maxRecDepth 100000 in
theorem e_L_1468 {d : Nat} {Q : Option Value → gS → Prop} {x0 x1 x3 : Option Value} {v : Nat} {st : List Value} {σ : gS} : wp d pr_L Q 1468 [x0, x1, some (.ref v), x3] st σ ↔ wp d pr_L Q 1469 [x0, x1, some (.ref v), x3] (.ref v :: st) σ := w_aload (k := 2) (n := 1) rfl rfl
set_option maxRecDepth 100000 in
theorem e_L_1468n {d : Nat} {Q : Option Value → gS → Prop} {x0 x1 x3 : Option Value}  {st : List Value} {σ : gS} : wp d pr_L Q 1468 [x0, x1, some .null, x3] st σ ↔ wp d pr_L Q 1469 [x0, x1, some .null, x3] (.null :: st) σ := w_aloadN (k := 2) (n := 1) rfl rfl
set_option maxRecDepth 100000 in
theorem e_L_1469 {d : Nat} {Q : Option Value → gS → Prop} {x1 x2 x3 : Option Value} {v : Nat} {st : List Value} {σ : gS} : wp d pr_L Q 1469 [some (.ref v), x1, x2, x3] st σ ↔ wp d pr_L Q 1470 [some (.ref v), x1, x2, x3] (.ref v :: st) σ := w_aload (k := 0) (n := 1) rfl rfl
set_option maxRecDepth 100000 in
theorem e_L_1470 {d : Nat} {Q : Option Value → gS → Prop} {x0 x1 x2 : Option Value} {v : Int32} {st : List Value} {σ : gS} : wp d pr_L Q 1470 [x0, x1, x2, some (.int v)] st σ ↔ wp d pr_L Q 1471 [x0, x1, x2, some (.int v)] (.int v :: st) σ := w_iload (k := 3) (n := 1) rfl rfl
set_option maxRecDepth 100000 in
theorem e_L_1471 {d : Nat} {Q : Option Value → gS → Prop} {x0 x1 x2 x3 : Option Value}  {st : List Value} {σ : gS} : wp d pr_L Q 1471 [x0, x1, x2, x3] st σ ↔ wp d pr_L Q 1472 [x0, x1, x2, x3] (.int (1) :: st) σ := w_push (n := 1) rfl
set_option maxRecDepth 100000 in
theorem e_L_1472 {d : Nat} {Q : Option Value → gS → Prop} {x0 x1 x2 x3 : Option Value} {x y : Int32} {st : List Value} {σ : gS} : wp d pr_L Q 1472 [x0, x1, x2, x3] (.int y :: .int x :: st) σ ↔ wp d pr_L Q 1473 [x0, x1, x2, x3] (.int (x + y) :: st) σ := w_bI (f := fun x y => x + y) rfl
set_option maxRecDepth 100000 in
theorem e_L_1473 {d : Nat} {Q : Option Value → gS → Prop} {x0 x1 x2 x3 : Option Value} {i : Int32} {a : Nat} {st : List Value} {σ : gS} : wp d pr_L Q 1473 [x0, x1, x2, x3] (.int i :: .ref a :: st) σ ↔ ((gK σ a = 21 ∨ gK σ a = 26) ∧ ¬ i < 0 ∧ i.toNatClampNeg < gN σ a) ∧ wp d pr_L Q 1474 [x0, x1, x2, x3] (.int (gI σ a i.toNatClampNeg) :: st) σ := w_iald rfl
set_option maxRecDepth 100000 in
theorem e_L_1474 {d : Nat} {Q : Option Value → gS → Prop} {x0 x1 x2 x3 : Option Value} {v0 : Value} {a : Nat}  {st : List Value} {σ : gS} : wp d pr_L Q 1474 [x0, x1, x2, x3] (v0 :: .ref a :: st) σ ↔ (gK σ a = 13 ∧ st.length ≤ 4) ∧ wc d 273 [.ref a, v0] σ (fun r τ => wp d pr_L Q 1477 [x0, x1, x2, x3] (r.toList ++ st) τ) := w_callV rfl (by simp) rfl rfl
set_option maxRecDepth 100000 in
theorem e_L_1477 {d : Nat} {Q : Option Value → gS → Prop} {x0 x1 x2 x3 : Option Value} {x y : Int32} {st : List Value} {σ : gS} : wp d pr_L Q 1477 [x0, x1, x2, x3] (.int y :: .int x :: st) σ ↔ ((x = y) → wp d pr_L Q 1495 [x0, x1, x2, x3] (st) σ) ∧ (¬ (x = y) → wp d pr_L Q 1480 [x0, x1, x2, x3] (st) σ) := w_icmp rfl decide_eq_true_iff
set_option maxRecDepth 100000 in
theorem e_L_1480 {d : Nat} {Q : Option Value → gS → Prop} {x0 x1 x2 x3 : Option Value}  {st : List Value} {σ : gS} : wp d pr_L Q 1480 [x0, x1, x2, x3] st σ ↔ wp d pr_L Q 1481 [x0, x1, x2, x3] (.int (0) :: st) σ := w_push (n := 1) rfl
set_option maxRecDepth 100000 in
theorem e_L_1481 {d : Nat} {Q : Option Value → gS → Prop} {x0 x1 x2 x3 : Option Value} {v : Int32} {σ : gS} : wp d pr_L Q 1481 [x0, x1, x2, x3] [.int v] σ ↔ (v = 0 ∨ v = 1) ∧ Q (some (.int v)) σ := w_zret rfl
set_option maxRecDepth 100000 in
theorem e_L_1482 {d : Nat} {Q : Option Value → gS → Prop} {x0 x2 x3 : Option Value} {v : Nat} {st : List Value} {σ : gS} : wp d pr_L Q 1482 [x0, some (.ref v), x2, x3] st σ ↔ wp d pr_L Q 1483 [x0, some (.ref v), x2, x3] (.ref v :: st) σ := w_aload (k := 1) (n := 1) rfl rfl
set_option maxRecDepth 100000 in
theorem e_L_1482n {d : Nat} {Q : Option Value → gS → Prop} {x0 x2 x3 : Option Value}  {st : List Value} {σ : gS} : wp d pr_L Q 1482 [x0, some .null, x2, x3] st σ ↔ wp d pr_L Q 1483 [x0, some .null, x2, x3] (.null :: st) σ := w_aloadN (k := 1) (n := 1) rfl rfl
set_option maxRecDepth 100000 in
theorem e_L_1483 {d : Nat} {Q : Option Value → gS → Prop} {x0 x1 x2 x3 : Option Value} {a : Nat}  {st : List Value} {σ : gS} : wp d pr_L Q 1483 [x0, x1, x2, x3] (.ref a :: st) σ ↔ (gK σ a = 12 ∧ st.length ≤ 4) ∧ wc d 154 [.ref a] σ (fun r τ => wp d pr_L Q 1486 [x0, x1, x2, x3] (r.toList ++ st) τ) := w_callV rfl (by simp) rfl rfl
set_option maxRecDepth 100000 in
theorem e_L_1486 {d : Nat} {Q : Option Value → gS → Prop} {x0 x1 x3 : Option Value} {v : Nat} {st : List Value} {σ : gS} : wp d pr_L Q 1486 [x0, x1, some (.ref v), x3] st σ ↔ wp d pr_L Q 1487 [x0, x1, some (.ref v), x3] (.ref v :: st) σ := w_aload (k := 2) (n := 1) rfl rfl
set_option maxRecDepth 100000 in
theorem e_L_1486n {d : Nat} {Q : Option Value → gS → Prop} {x0 x1 x3 : Option Value}  {st : List Value} {σ : gS} : wp d pr_L Q 1486 [x0, x1, some .null, x3] st σ ↔ wp d pr_L Q 1487 [x0, x1, some .null, x3] (.null :: st) σ := w_aloadN (k := 2) (n := 1) rfl rfl
set_option maxRecDepth 100000 in
theorem e_L_1487 {d : Nat} {Q : Option Value → gS → Prop} {x0 x1 x2 x3 : Option Value} {a : Nat}  {st : List Value} {σ : gS} : wp d pr_L Q 1487 [x0, x1, x2, x3] (.ref a :: st) σ ↔ (gK σ a = 13 ∧ st.length ≤ 4) ∧ wc d 274 [.ref a] σ (fun r τ => wp d pr_L Q 1490 [x0, x1, x2, x3] (r.toList ++ st) τ) := w_callV rfl (by simp) rfl rfl
set_option maxRecDepth 100000 in
theorem e_L_1490 {d : Nat} {Q : Option Value → gS → Prop} {x0 x1 x2 x3 : Option Value} {x y : Int32} {st : List Value} {σ : gS} : wp d pr_L Q 1490 [x0, x1, x2, x3] (.int y :: .int x :: st) σ ↔ ((x = y) → wp d pr_L Q 1495 [x0, x1, x2, x3] (st) σ) ∧ (¬ (x = y) → wp d pr_L Q 1493 [x0, x1, x2, x3] (st) σ) := w_icmp rfl decide_eq_true_iff
set_option maxRecDepth 100000 in
theorem e_L_1493 {d : Nat} {Q : Option Value → gS → Prop} {x0 x1 x2 x3 : Option Value}  {st : List Value} {σ : gS} : wp d pr_L Q 1493 [x0, x1, x2, x3] st σ ↔ wp d pr_L Q 1494 [x0, x1, x2, x3] (.int (0) :: st) σ := w_push (n := 1) rfl
set_option maxRecDepth 100000 in
theorem e_L_1494 {d : Nat} {Q : Option Value → gS → Prop} {x0 x1 x2 x3 : Option Value} {v : Int32} {σ : gS} : wp d pr_L Q 1494 [x0, x1, x2, x3] [.int v] σ ↔ (v = 0 ∨ v = 1) ∧ Q (some (.int v)) σ := w_zret rfl
set_option maxRecDepth 100000 in
theorem e_L_1495 {d : Nat} {Q : Option Value → gS → Prop} {x0 x1 x2 : Option Value} {v : Int32} {st : List Value} {σ : gS} : wp d pr_L Q 1495 [x0, x1, x2, some (.int v)] st σ ↔ gPv x2 = true ∧ wp d pr_L Q 1498 [x0, x1, x2, some (.int (v + (6)))] (st) σ := w_iinc (k := 2) rfl rfl rfl rfl
set_option maxRecDepth 100000 in
theorem e_L_1498 {d : Nat} {Q : Option Value → gS → Prop} {x0 x1 x2 x3 : Option Value}  {st : List Value} {σ : gS} : wp d pr_L Q 1498 [x0, x1, x2, x3] st σ ↔ wp d pr_L Q 18 [x0, x1, x2, x3] (st) σ := w_goto rfl
set_option maxRecDepth 100000 in
theorem e_L_1501 {d : Nat} {Q : Option Value → gS → Prop} {x0 x1 x2 x3 : Option Value}  {st : List Value} {σ : gS} : wp d pr_L Q 1501 [x0, x1, x2, x3] st σ ↔ wp d pr_L Q 1502 [x0, x1, x2, x3] (.int (1) :: st) σ := w_push (n := 1) rfl
set_option maxRecDepth 100000 in
theorem e_L_1502 {d : Nat} {Q : Option Value → gS → Prop} {x0 x1 x2 x3 : Option Value} {v : Int32} {σ : gS} : wp d pr_L Q 1502 [x0, x1, x2, x3] [.int v] σ ↔ (v = 0 ∨ v = 1) ∧ Q (some (.int v)) σ := w_zret rfl
