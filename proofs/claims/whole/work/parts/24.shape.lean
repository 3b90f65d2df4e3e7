def kT : List (Nat × Nat) := [(12, 0), (11, 0), (21, 12), (21, 12), (21, 12), (21, 12), (21, 12), (21, 12), (24, 6), (6, 0), (21, 4), (21, 4), (6, 0), (21, 4), (21, 4), (6, 0), (21, 8), (21, 8), (25, 2), (21, 400), (7, 0), (21, 400), (21, 12), (21, 12), (21, 5), (10, 0), (8, 0), (21, 9), (22, 64), (21, 12), (21, 12), (21, 144), (21, 144), (1, 0), (21, 12), (21, 12), (21, 12), (2, 0), (21, 12), (21, 66), (21, 66), (21, 4), (5, 0), (21, 12), (21, 12), (9, 0), (21, 12), (21, 12), (21, 144), (21, 0), (3, 0), (21, 12), (21, 40), (21, 40), (13, 0), (21, 7), (21, 5062), (21, 10124), (23, 2), (20, 68), (20, 400), (21, 5), (21, 401), (21, 401), (21, 401), (21, 9), (21, 12), (21, 144), (23, 144), (21, 12), (21, 12), (21, 12), (21, 12), (21, 12), (21, 4), (21, 12), (21, 144), (21, 49152), (21, 40), (21, 40)]
def rT : List (Nat × Nat × Nat) := [(0, 0, 1), (0, 1, 18), (0, 2, 19), (0, 4, 20), (0, 7, 24), (0, 9, 25), (0, 10, 33), (0, 11, 37), (0, 12, 42), (0, 13, 45), (0, 14, 50), (1, 0, 2), (1, 1, 3), (1, 2, 4), (1, 3, 5), (1, 4, 6), (1, 7, 7), (1, 9, 8), (1, 14, 9), (1, 15, 12), (1, 16, 15), (9, 0, 10), (9, 1, 11), (12, 0, 13), (12, 1, 14), (15, 0, 16), (15, 1, 17), (20, 0, 19), (20, 1, 21), (20, 2, 22), (20, 3, 23), (25, 0, 1), (25, 1, 26), (25, 2, 29), (25, 3, 30), (25, 4, 31), (25, 5, 32), (26, 0, 27), (26, 1, 28), (33, 0, 1), (33, 1, 34), (33, 2, 35), (33, 3, 36), (37, 0, 1), (37, 1, 38), (37, 2, 39), (37, 3, 40), (37, 5, 41), (42, 0, 1), (42, 1, 43), (42, 2, 44), (45, 0, 1), (45, 1, 25), (45, 2, 46), (45, 3, 47), (45, 4, 48), (50, 0, 1), (50, 1, 25), (50, 2, 33), (50, 3, 51), (50, 4, 52), (50, 5, 53), (54, 2, 55), (54, 3, 56), (54, 4, 57), (54, 5, 58), (54, 7, 59), (54, 8, 60), (54, 9, 61), (54, 12, 62), (54, 13, 63), (54, 14, 64), (54, 22, 65), (54, 25, 66), (54, 26, 67), (54, 27, 68), (54, 34, 69), (54, 35, 70), (54, 36, 71), (54, 37, 72), (54, 38, 73), (54, 40, 74), (54, 43, 75), (54, 44, 76), (54, 45, 77), (54, 46, 78), (54, 47, 79)]
/-- what lies where, from B on -/
def IvS (B : Nat) (σ : gS) : Prop := (∀ o, o < 80 → gK σ (B + o) = (kT.getD o (0, 0)).1 ∧ gN σ (B + o) = (kT.getD o (0, 0)).2) ∧ ∀ e ∈ rT, gR σ (B + e.1) e.2.1 = some (B + e.2.2)
theorem sk_0 {B : Nat} {σ : gS} (h : IvS B σ) : gK σ (B) = 12 := (h.1 0 (by decide)).1
theorem sk_1 {B : Nat} {σ : gS} (h : IvS B σ) : gK σ (B + 1) = 11 := (h.1 1 (by decide)).1
theorem sk_2 {B : Nat} {σ : gS} (h : IvS B σ) : gK σ (B + 2) = 21 := (h.1 2 (by decide)).1
theorem sn_2 {B : Nat} {σ : gS} (h : IvS B σ) : gN σ (B + 2) = 12 := (h.1 2 (by decide)).2
theorem sk_3 {B : Nat} {σ : gS} (h : IvS B σ) : gK σ (B + 3) = 21 := (h.1 3 (by decide)).1
theorem sn_3 {B : Nat} {σ : gS} (h : IvS B σ) : gN σ (B + 3) = 12 := (h.1 3 (by decide)).2
theorem sk_4 {B : Nat} {σ : gS} (h : IvS B σ) : gK σ (B + 4) = 21 := (h.1 4 (by decide)).1
theorem sn_4 {B : Nat} {σ : gS} (h : IvS B σ) : gN σ (B + 4) = 12 := (h.1 4 (by decide)).2
theorem sk_5 {B : Nat} {σ : gS} (h : IvS B σ) : gK σ (B + 5) = 21 := (h.1 5 (by decide)).1
theorem sn_5 {B : Nat} {σ : gS} (h : IvS B σ) : gN σ (B + 5) = 12 := (h.1 5 (by decide)).2
theorem sk_6 {B : Nat} {σ : gS} (h : IvS B σ) : gK σ (B + 6) = 21 := (h.1 6 (by decide)).1
theorem sn_6 {B : Nat} {σ : gS} (h : IvS B σ) : gN σ (B + 6) = 12 := (h.1 6 (by decide)).2
theorem sk_7 {B : Nat} {σ : gS} (h : IvS B σ) : gK σ (B + 7) = 21 := (h.1 7 (by decide)).1
theorem sn_7 {B : Nat} {σ : gS} (h : IvS B σ) : gN σ (B + 7) = 12 := (h.1 7 (by decide)).2
theorem sk_8 {B : Nat} {σ : gS} (h : IvS B σ) : gK σ (B + 8) = 24 := (h.1 8 (by decide)).1
theorem sn_8 {B : Nat} {σ : gS} (h : IvS B σ) : gN σ (B + 8) = 6 := (h.1 8 (by decide)).2
theorem sk_9 {B : Nat} {σ : gS} (h : IvS B σ) : gK σ (B + 9) = 6 := (h.1 9 (by decide)).1
theorem sk_10 {B : Nat} {σ : gS} (h : IvS B σ) : gK σ (B + 10) = 21 := (h.1 10 (by decide)).1
theorem sn_10 {B : Nat} {σ : gS} (h : IvS B σ) : gN σ (B + 10) = 4 := (h.1 10 (by decide)).2
theorem sk_11 {B : Nat} {σ : gS} (h : IvS B σ) : gK σ (B + 11) = 21 := (h.1 11 (by decide)).1
theorem sn_11 {B : Nat} {σ : gS} (h : IvS B σ) : gN σ (B + 11) = 4 := (h.1 11 (by decide)).2
theorem sk_12 {B : Nat} {σ : gS} (h : IvS B σ) : gK σ (B + 12) = 6 := (h.1 12 (by decide)).1
theorem sk_13 {B : Nat} {σ : gS} (h : IvS B σ) : gK σ (B + 13) = 21 := (h.1 13 (by decide)).1
theorem sn_13 {B : Nat} {σ : gS} (h : IvS B σ) : gN σ (B + 13) = 4 := (h.1 13 (by decide)).2
theorem sk_14 {B : Nat} {σ : gS} (h : IvS B σ) : gK σ (B + 14) = 21 := (h.1 14 (by decide)).1
theorem sn_14 {B : Nat} {σ : gS} (h : IvS B σ) : gN σ (B + 14) = 4 := (h.1 14 (by decide)).2
theorem sk_15 {B : Nat} {σ : gS} (h : IvS B σ) : gK σ (B + 15) = 6 := (h.1 15 (by decide)).1
theorem sk_16 {B : Nat} {σ : gS} (h : IvS B σ) : gK σ (B + 16) = 21 := (h.1 16 (by decide)).1
theorem sn_16 {B : Nat} {σ : gS} (h : IvS B σ) : gN σ (B + 16) = 8 := (h.1 16 (by decide)).2
theorem sk_17 {B : Nat} {σ : gS} (h : IvS B σ) : gK σ (B + 17) = 21 := (h.1 17 (by decide)).1
theorem sn_17 {B : Nat} {σ : gS} (h : IvS B σ) : gN σ (B + 17) = 8 := (h.1 17 (by decide)).2
theorem sk_18 {B : Nat} {σ : gS} (h : IvS B σ) : gK σ (B + 18) = 25 := (h.1 18 (by decide)).1
theorem sn_18 {B : Nat} {σ : gS} (h : IvS B σ) : gN σ (B + 18) = 2 := (h.1 18 (by decide)).2
theorem sk_19 {B : Nat} {σ : gS} (h : IvS B σ) : gK σ (B + 19) = 21 := (h.1 19 (by decide)).1
theorem sn_19 {B : Nat} {σ : gS} (h : IvS B σ) : gN σ (B + 19) = 400 := (h.1 19 (by decide)).2
theorem sk_20 {B : Nat} {σ : gS} (h : IvS B σ) : gK σ (B + 20) = 7 := (h.1 20 (by decide)).1
theorem sk_21 {B : Nat} {σ : gS} (h : IvS B σ) : gK σ (B + 21) = 21 := (h.1 21 (by decide)).1
theorem sn_21 {B : Nat} {σ : gS} (h : IvS B σ) : gN σ (B + 21) = 400 := (h.1 21 (by decide)).2
theorem sk_22 {B : Nat} {σ : gS} (h : IvS B σ) : gK σ (B + 22) = 21 := (h.1 22 (by decide)).1
theorem sn_22 {B : Nat} {σ : gS} (h : IvS B σ) : gN σ (B + 22) = 12 := (h.1 22 (by decide)).2
theorem sk_23 {B : Nat} {σ : gS} (h : IvS B σ) : gK σ (B + 23) = 21 := (h.1 23 (by decide)).1
theorem sn_23 {B : Nat} {σ : gS} (h : IvS B σ) : gN σ (B + 23) = 12 := (h.1 23 (by decide)).2
theorem sk_24 {B : Nat} {σ : gS} (h : IvS B σ) : gK σ (B + 24) = 21 := (h.1 24 (by decide)).1
theorem sn_24 {B : Nat} {σ : gS} (h : IvS B σ) : gN σ (B + 24) = 5 := (h.1 24 (by decide)).2
theorem sk_25 {B : Nat} {σ : gS} (h : IvS B σ) : gK σ (B + 25) = 10 := (h.1 25 (by decide)).1
theorem sk_26 {B : Nat} {σ : gS} (h : IvS B σ) : gK σ (B + 26) = 8 := (h.1 26 (by decide)).1
theorem sk_27 {B : Nat} {σ : gS} (h : IvS B σ) : gK σ (B + 27) = 21 := (h.1 27 (by decide)).1
theorem sn_27 {B : Nat} {σ : gS} (h : IvS B σ) : gN σ (B + 27) = 9 := (h.1 27 (by decide)).2
theorem sk_28 {B : Nat} {σ : gS} (h : IvS B σ) : gK σ (B + 28) = 22 := (h.1 28 (by decide)).1
theorem sn_28 {B : Nat} {σ : gS} (h : IvS B σ) : gN σ (B + 28) = 64 := (h.1 28 (by decide)).2
theorem sk_29 {B : Nat} {σ : gS} (h : IvS B σ) : gK σ (B + 29) = 21 := (h.1 29 (by decide)).1
theorem sn_29 {B : Nat} {σ : gS} (h : IvS B σ) : gN σ (B + 29) = 12 := (h.1 29 (by decide)).2
theorem sk_30 {B : Nat} {σ : gS} (h : IvS B σ) : gK σ (B + 30) = 21 := (h.1 30 (by decide)).1
theorem sn_30 {B : Nat} {σ : gS} (h : IvS B σ) : gN σ (B + 30) = 12 := (h.1 30 (by decide)).2
theorem sk_31 {B : Nat} {σ : gS} (h : IvS B σ) : gK σ (B + 31) = 21 := (h.1 31 (by decide)).1
theorem sn_31 {B : Nat} {σ : gS} (h : IvS B σ) : gN σ (B + 31) = 144 := (h.1 31 (by decide)).2
theorem sk_32 {B : Nat} {σ : gS} (h : IvS B σ) : gK σ (B + 32) = 21 := (h.1 32 (by decide)).1
theorem sn_32 {B : Nat} {σ : gS} (h : IvS B σ) : gN σ (B + 32) = 144 := (h.1 32 (by decide)).2
theorem sk_33 {B : Nat} {σ : gS} (h : IvS B σ) : gK σ (B + 33) = 1 := (h.1 33 (by decide)).1
theorem sk_34 {B : Nat} {σ : gS} (h : IvS B σ) : gK σ (B + 34) = 21 := (h.1 34 (by decide)).1
theorem sn_34 {B : Nat} {σ : gS} (h : IvS B σ) : gN σ (B + 34) = 12 := (h.1 34 (by decide)).2
theorem sk_35 {B : Nat} {σ : gS} (h : IvS B σ) : gK σ (B + 35) = 21 := (h.1 35 (by decide)).1
theorem sn_35 {B : Nat} {σ : gS} (h : IvS B σ) : gN σ (B + 35) = 12 := (h.1 35 (by decide)).2
theorem sk_36 {B : Nat} {σ : gS} (h : IvS B σ) : gK σ (B + 36) = 21 := (h.1 36 (by decide)).1
theorem sn_36 {B : Nat} {σ : gS} (h : IvS B σ) : gN σ (B + 36) = 12 := (h.1 36 (by decide)).2
theorem sk_37 {B : Nat} {σ : gS} (h : IvS B σ) : gK σ (B + 37) = 2 := (h.1 37 (by decide)).1
theorem sk_38 {B : Nat} {σ : gS} (h : IvS B σ) : gK σ (B + 38) = 21 := (h.1 38 (by decide)).1
theorem sn_38 {B : Nat} {σ : gS} (h : IvS B σ) : gN σ (B + 38) = 12 := (h.1 38 (by decide)).2
theorem sk_39 {B : Nat} {σ : gS} (h : IvS B σ) : gK σ (B + 39) = 21 := (h.1 39 (by decide)).1
theorem sn_39 {B : Nat} {σ : gS} (h : IvS B σ) : gN σ (B + 39) = 66 := (h.1 39 (by decide)).2
theorem sk_40 {B : Nat} {σ : gS} (h : IvS B σ) : gK σ (B + 40) = 21 := (h.1 40 (by decide)).1
theorem sn_40 {B : Nat} {σ : gS} (h : IvS B σ) : gN σ (B + 40) = 66 := (h.1 40 (by decide)).2
theorem sk_41 {B : Nat} {σ : gS} (h : IvS B σ) : gK σ (B + 41) = 21 := (h.1 41 (by decide)).1
theorem sn_41 {B : Nat} {σ : gS} (h : IvS B σ) : gN σ (B + 41) = 4 := (h.1 41 (by decide)).2
theorem sk_42 {B : Nat} {σ : gS} (h : IvS B σ) : gK σ (B + 42) = 5 := (h.1 42 (by decide)).1
theorem sk_43 {B : Nat} {σ : gS} (h : IvS B σ) : gK σ (B + 43) = 21 := (h.1 43 (by decide)).1
theorem sn_43 {B : Nat} {σ : gS} (h : IvS B σ) : gN σ (B + 43) = 12 := (h.1 43 (by decide)).2
theorem sk_44 {B : Nat} {σ : gS} (h : IvS B σ) : gK σ (B + 44) = 21 := (h.1 44 (by decide)).1
theorem sn_44 {B : Nat} {σ : gS} (h : IvS B σ) : gN σ (B + 44) = 12 := (h.1 44 (by decide)).2
theorem sk_45 {B : Nat} {σ : gS} (h : IvS B σ) : gK σ (B + 45) = 9 := (h.1 45 (by decide)).1
theorem sk_46 {B : Nat} {σ : gS} (h : IvS B σ) : gK σ (B + 46) = 21 := (h.1 46 (by decide)).1
theorem sn_46 {B : Nat} {σ : gS} (h : IvS B σ) : gN σ (B + 46) = 12 := (h.1 46 (by decide)).2
theorem sk_47 {B : Nat} {σ : gS} (h : IvS B σ) : gK σ (B + 47) = 21 := (h.1 47 (by decide)).1
theorem sn_47 {B : Nat} {σ : gS} (h : IvS B σ) : gN σ (B + 47) = 12 := (h.1 47 (by decide)).2
theorem sk_48 {B : Nat} {σ : gS} (h : IvS B σ) : gK σ (B + 48) = 21 := (h.1 48 (by decide)).1
theorem sn_48 {B : Nat} {σ : gS} (h : IvS B σ) : gN σ (B + 48) = 144 := (h.1 48 (by decide)).2
theorem sk_49 {B : Nat} {σ : gS} (h : IvS B σ) : gK σ (B + 49) = 21 := (h.1 49 (by decide)).1
theorem sn_49 {B : Nat} {σ : gS} (h : IvS B σ) : gN σ (B + 49) = 0 := (h.1 49 (by decide)).2
theorem sk_50 {B : Nat} {σ : gS} (h : IvS B σ) : gK σ (B + 50) = 3 := (h.1 50 (by decide)).1
theorem sk_51 {B : Nat} {σ : gS} (h : IvS B σ) : gK σ (B + 51) = 21 := (h.1 51 (by decide)).1
theorem sn_51 {B : Nat} {σ : gS} (h : IvS B σ) : gN σ (B + 51) = 12 := (h.1 51 (by decide)).2
theorem sk_52 {B : Nat} {σ : gS} (h : IvS B σ) : gK σ (B + 52) = 21 := (h.1 52 (by decide)).1
theorem sn_52 {B : Nat} {σ : gS} (h : IvS B σ) : gN σ (B + 52) = 40 := (h.1 52 (by decide)).2
theorem sk_53 {B : Nat} {σ : gS} (h : IvS B σ) : gK σ (B + 53) = 21 := (h.1 53 (by decide)).1
theorem sn_53 {B : Nat} {σ : gS} (h : IvS B σ) : gN σ (B + 53) = 40 := (h.1 53 (by decide)).2
theorem sk_54 {B : Nat} {σ : gS} (h : IvS B σ) : gK σ (B + 54) = 13 := (h.1 54 (by decide)).1
theorem sk_55 {B : Nat} {σ : gS} (h : IvS B σ) : gK σ (B + 55) = 21 := (h.1 55 (by decide)).1
theorem sn_55 {B : Nat} {σ : gS} (h : IvS B σ) : gN σ (B + 55) = 7 := (h.1 55 (by decide)).2
theorem sk_56 {B : Nat} {σ : gS} (h : IvS B σ) : gK σ (B + 56) = 21 := (h.1 56 (by decide)).1
theorem sn_56 {B : Nat} {σ : gS} (h : IvS B σ) : gN σ (B + 56) = 5062 := (h.1 56 (by decide)).2
theorem sk_57 {B : Nat} {σ : gS} (h : IvS B σ) : gK σ (B + 57) = 21 := (h.1 57 (by decide)).1
theorem sn_57 {B : Nat} {σ : gS} (h : IvS B σ) : gN σ (B + 57) = 10124 := (h.1 57 (by decide)).2
theorem sk_58 {B : Nat} {σ : gS} (h : IvS B σ) : gK σ (B + 58) = 23 := (h.1 58 (by decide)).1
theorem sn_58 {B : Nat} {σ : gS} (h : IvS B σ) : gN σ (B + 58) = 2 := (h.1 58 (by decide)).2
theorem sk_59 {B : Nat} {σ : gS} (h : IvS B σ) : gK σ (B + 59) = 20 := (h.1 59 (by decide)).1
theorem sn_59 {B : Nat} {σ : gS} (h : IvS B σ) : gN σ (B + 59) = 68 := (h.1 59 (by decide)).2
theorem sk_60 {B : Nat} {σ : gS} (h : IvS B σ) : gK σ (B + 60) = 20 := (h.1 60 (by decide)).1
theorem sn_60 {B : Nat} {σ : gS} (h : IvS B σ) : gN σ (B + 60) = 400 := (h.1 60 (by decide)).2
theorem sk_61 {B : Nat} {σ : gS} (h : IvS B σ) : gK σ (B + 61) = 21 := (h.1 61 (by decide)).1
theorem sn_61 {B : Nat} {σ : gS} (h : IvS B σ) : gN σ (B + 61) = 5 := (h.1 61 (by decide)).2
theorem sk_62 {B : Nat} {σ : gS} (h : IvS B σ) : gK σ (B + 62) = 21 := (h.1 62 (by decide)).1
theorem sn_62 {B : Nat} {σ : gS} (h : IvS B σ) : gN σ (B + 62) = 401 := (h.1 62 (by decide)).2
theorem sk_63 {B : Nat} {σ : gS} (h : IvS B σ) : gK σ (B + 63) = 21 := (h.1 63 (by decide)).1
theorem sn_63 {B : Nat} {σ : gS} (h : IvS B σ) : gN σ (B + 63) = 401 := (h.1 63 (by decide)).2
theorem sk_64 {B : Nat} {σ : gS} (h : IvS B σ) : gK σ (B + 64) = 21 := (h.1 64 (by decide)).1
theorem sn_64 {B : Nat} {σ : gS} (h : IvS B σ) : gN σ (B + 64) = 401 := (h.1 64 (by decide)).2
theorem sk_65 {B : Nat} {σ : gS} (h : IvS B σ) : gK σ (B + 65) = 21 := (h.1 65 (by decide)).1
theorem sn_65 {B : Nat} {σ : gS} (h : IvS B σ) : gN σ (B + 65) = 9 := (h.1 65 (by decide)).2
theorem sk_66 {B : Nat} {σ : gS} (h : IvS B σ) : gK σ (B + 66) = 21 := (h.1 66 (by decide)).1
theorem sn_66 {B : Nat} {σ : gS} (h : IvS B σ) : gN σ (B + 66) = 12 := (h.1 66 (by decide)).2
theorem sk_67 {B : Nat} {σ : gS} (h : IvS B σ) : gK σ (B + 67) = 21 := (h.1 67 (by decide)).1
theorem sn_67 {B : Nat} {σ : gS} (h : IvS B σ) : gN σ (B + 67) = 144 := (h.1 67 (by decide)).2
theorem sk_68 {B : Nat} {σ : gS} (h : IvS B σ) : gK σ (B + 68) = 23 := (h.1 68 (by decide)).1
theorem sn_68 {B : Nat} {σ : gS} (h : IvS B σ) : gN σ (B + 68) = 144 := (h.1 68 (by decide)).2
theorem sk_69 {B : Nat} {σ : gS} (h : IvS B σ) : gK σ (B + 69) = 21 := (h.1 69 (by decide)).1
theorem sn_69 {B : Nat} {σ : gS} (h : IvS B σ) : gN σ (B + 69) = 12 := (h.1 69 (by decide)).2
theorem sk_70 {B : Nat} {σ : gS} (h : IvS B σ) : gK σ (B + 70) = 21 := (h.1 70 (by decide)).1
theorem sn_70 {B : Nat} {σ : gS} (h : IvS B σ) : gN σ (B + 70) = 12 := (h.1 70 (by decide)).2
theorem sk_71 {B : Nat} {σ : gS} (h : IvS B σ) : gK σ (B + 71) = 21 := (h.1 71 (by decide)).1
theorem sn_71 {B : Nat} {σ : gS} (h : IvS B σ) : gN σ (B + 71) = 12 := (h.1 71 (by decide)).2
theorem sk_72 {B : Nat} {σ : gS} (h : IvS B σ) : gK σ (B + 72) = 21 := (h.1 72 (by decide)).1
theorem sn_72 {B : Nat} {σ : gS} (h : IvS B σ) : gN σ (B + 72) = 12 := (h.1 72 (by decide)).2
theorem sk_73 {B : Nat} {σ : gS} (h : IvS B σ) : gK σ (B + 73) = 21 := (h.1 73 (by decide)).1
theorem sn_73 {B : Nat} {σ : gS} (h : IvS B σ) : gN σ (B + 73) = 12 := (h.1 73 (by decide)).2
theorem sk_74 {B : Nat} {σ : gS} (h : IvS B σ) : gK σ (B + 74) = 21 := (h.1 74 (by decide)).1
theorem sn_74 {B : Nat} {σ : gS} (h : IvS B σ) : gN σ (B + 74) = 4 := (h.1 74 (by decide)).2
theorem sk_75 {B : Nat} {σ : gS} (h : IvS B σ) : gK σ (B + 75) = 21 := (h.1 75 (by decide)).1
theorem sn_75 {B : Nat} {σ : gS} (h : IvS B σ) : gN σ (B + 75) = 12 := (h.1 75 (by decide)).2
theorem sk_76 {B : Nat} {σ : gS} (h : IvS B σ) : gK σ (B + 76) = 21 := (h.1 76 (by decide)).1
theorem sn_76 {B : Nat} {σ : gS} (h : IvS B σ) : gN σ (B + 76) = 144 := (h.1 76 (by decide)).2
theorem sk_77 {B : Nat} {σ : gS} (h : IvS B σ) : gK σ (B + 77) = 21 := (h.1 77 (by decide)).1
theorem sn_77 {B : Nat} {σ : gS} (h : IvS B σ) : gN σ (B + 77) = 49152 := (h.1 77 (by decide)).2
theorem sk_78 {B : Nat} {σ : gS} (h : IvS B σ) : gK σ (B + 78) = 21 := (h.1 78 (by decide)).1
theorem sn_78 {B : Nat} {σ : gS} (h : IvS B σ) : gN σ (B + 78) = 40 := (h.1 78 (by decide)).2
theorem sk_79 {B : Nat} {σ : gS} (h : IvS B σ) : gK σ (B + 79) = 21 := (h.1 79 (by decide)).1
theorem sn_79 {B : Nat} {σ : gS} (h : IvS B σ) : gN σ (B + 79) = 40 := (h.1 79 (by decide)).2
theorem sr_0_0 {B : Nat} {σ : gS} (h : IvS B σ) : gR σ (B) 0 = some (B + 1) := h.2 _ (List.mem_of_getElem? (i := 0) rfl)
theorem sr_0_1 {B : Nat} {σ : gS} (h : IvS B σ) : gR σ (B) 1 = some (B + 18) := h.2 _ (List.mem_of_getElem? (i := 1) rfl)
theorem sr_0_2 {B : Nat} {σ : gS} (h : IvS B σ) : gR σ (B) 2 = some (B + 19) := h.2 _ (List.mem_of_getElem? (i := 2) rfl)
theorem sr_0_4 {B : Nat} {σ : gS} (h : IvS B σ) : gR σ (B) 4 = some (B + 20) := h.2 _ (List.mem_of_getElem? (i := 3) rfl)
theorem sr_0_7 {B : Nat} {σ : gS} (h : IvS B σ) : gR σ (B) 7 = some (B + 24) := h.2 _ (List.mem_of_getElem? (i := 4) rfl)
theorem sr_0_9 {B : Nat} {σ : gS} (h : IvS B σ) : gR σ (B) 9 = some (B + 25) := h.2 _ (List.mem_of_getElem? (i := 5) rfl)
theorem sr_0_10 {B : Nat} {σ : gS} (h : IvS B σ) : gR σ (B) 10 = some (B + 33) := h.2 _ (List.mem_of_getElem? (i := 6) rfl)
theorem sr_0_11 {B : Nat} {σ : gS} (h : IvS B σ) : gR σ (B) 11 = some (B + 37) := h.2 _ (List.mem_of_getElem? (i := 7) rfl)
theorem sr_0_12 {B : Nat} {σ : gS} (h : IvS B σ) : gR σ (B) 12 = some (B + 42) := h.2 _ (List.mem_of_getElem? (i := 8) rfl)
theorem sr_0_13 {B : Nat} {σ : gS} (h : IvS B σ) : gR σ (B) 13 = some (B + 45) := h.2 _ (List.mem_of_getElem? (i := 9) rfl)
theorem sr_0_14 {B : Nat} {σ : gS} (h : IvS B σ) : gR σ (B) 14 = some (B + 50) := h.2 _ (List.mem_of_getElem? (i := 10) rfl)
theorem sr_1_0 {B : Nat} {σ : gS} (h : IvS B σ) : gR σ (B + 1) 0 = some (B + 2) := h.2 _ (List.mem_of_getElem? (i := 11) rfl)
theorem sr_1_1 {B : Nat} {σ : gS} (h : IvS B σ) : gR σ (B + 1) 1 = some (B + 3) := h.2 _ (List.mem_of_getElem? (i := 12) rfl)
theorem sr_1_2 {B : Nat} {σ : gS} (h : IvS B σ) : gR σ (B + 1) 2 = some (B + 4) := h.2 _ (List.mem_of_getElem? (i := 13) rfl)
theorem sr_1_3 {B : Nat} {σ : gS} (h : IvS B σ) : gR σ (B + 1) 3 = some (B + 5) := h.2 _ (List.mem_of_getElem? (i := 14) rfl)
theorem sr_1_4 {B : Nat} {σ : gS} (h : IvS B σ) : gR σ (B + 1) 4 = some (B + 6) := h.2 _ (List.mem_of_getElem? (i := 15) rfl)
theorem sr_1_7 {B : Nat} {σ : gS} (h : IvS B σ) : gR σ (B + 1) 7 = some (B + 7) := h.2 _ (List.mem_of_getElem? (i := 16) rfl)
theorem sr_1_9 {B : Nat} {σ : gS} (h : IvS B σ) : gR σ (B + 1) 9 = some (B + 8) := h.2 _ (List.mem_of_getElem? (i := 17) rfl)
theorem sr_1_14 {B : Nat} {σ : gS} (h : IvS B σ) : gR σ (B + 1) 14 = some (B + 9) := h.2 _ (List.mem_of_getElem? (i := 18) rfl)
theorem sr_1_15 {B : Nat} {σ : gS} (h : IvS B σ) : gR σ (B + 1) 15 = some (B + 12) := h.2 _ (List.mem_of_getElem? (i := 19) rfl)
theorem sr_1_16 {B : Nat} {σ : gS} (h : IvS B σ) : gR σ (B + 1) 16 = some (B + 15) := h.2 _ (List.mem_of_getElem? (i := 20) rfl)
theorem sr_9_0 {B : Nat} {σ : gS} (h : IvS B σ) : gR σ (B + 9) 0 = some (B + 10) := h.2 _ (List.mem_of_getElem? (i := 21) rfl)
theorem sr_9_1 {B : Nat} {σ : gS} (h : IvS B σ) : gR σ (B + 9) 1 = some (B + 11) := h.2 _ (List.mem_of_getElem? (i := 22) rfl)
theorem sr_12_0 {B : Nat} {σ : gS} (h : IvS B σ) : gR σ (B + 12) 0 = some (B + 13) := h.2 _ (List.mem_of_getElem? (i := 23) rfl)
theorem sr_12_1 {B : Nat} {σ : gS} (h : IvS B σ) : gR σ (B + 12) 1 = some (B + 14) := h.2 _ (List.mem_of_getElem? (i := 24) rfl)
theorem sr_15_0 {B : Nat} {σ : gS} (h : IvS B σ) : gR σ (B + 15) 0 = some (B + 16) := h.2 _ (List.mem_of_getElem? (i := 25) rfl)
theorem sr_15_1 {B : Nat} {σ : gS} (h : IvS B σ) : gR σ (B + 15) 1 = some (B + 17) := h.2 _ (List.mem_of_getElem? (i := 26) rfl)
theorem sr_20_0 {B : Nat} {σ : gS} (h : IvS B σ) : gR σ (B + 20) 0 = some (B + 19) := h.2 _ (List.mem_of_getElem? (i := 27) rfl)
theorem sr_20_1 {B : Nat} {σ : gS} (h : IvS B σ) : gR σ (B + 20) 1 = some (B + 21) := h.2 _ (List.mem_of_getElem? (i := 28) rfl)
theorem sr_20_2 {B : Nat} {σ : gS} (h : IvS B σ) : gR σ (B + 20) 2 = some (B + 22) := h.2 _ (List.mem_of_getElem? (i := 29) rfl)
theorem sr_20_3 {B : Nat} {σ : gS} (h : IvS B σ) : gR σ (B + 20) 3 = some (B + 23) := h.2 _ (List.mem_of_getElem? (i := 30) rfl)
theorem sr_25_0 {B : Nat} {σ : gS} (h : IvS B σ) : gR σ (B + 25) 0 = some (B + 1) := h.2 _ (List.mem_of_getElem? (i := 31) rfl)
theorem sr_25_1 {B : Nat} {σ : gS} (h : IvS B σ) : gR σ (B + 25) 1 = some (B + 26) := h.2 _ (List.mem_of_getElem? (i := 32) rfl)
theorem sr_25_2 {B : Nat} {σ : gS} (h : IvS B σ) : gR σ (B + 25) 2 = some (B + 29) := h.2 _ (List.mem_of_getElem? (i := 33) rfl)
theorem sr_25_3 {B : Nat} {σ : gS} (h : IvS B σ) : gR σ (B + 25) 3 = some (B + 30) := h.2 _ (List.mem_of_getElem? (i := 34) rfl)
theorem sr_25_4 {B : Nat} {σ : gS} (h : IvS B σ) : gR σ (B + 25) 4 = some (B + 31) := h.2 _ (List.mem_of_getElem? (i := 35) rfl)
theorem sr_25_5 {B : Nat} {σ : gS} (h : IvS B σ) : gR σ (B + 25) 5 = some (B + 32) := h.2 _ (List.mem_of_getElem? (i := 36) rfl)
theorem sr_26_0 {B : Nat} {σ : gS} (h : IvS B σ) : gR σ (B + 26) 0 = some (B + 27) := h.2 _ (List.mem_of_getElem? (i := 37) rfl)
theorem sr_26_1 {B : Nat} {σ : gS} (h : IvS B σ) : gR σ (B + 26) 1 = some (B + 28) := h.2 _ (List.mem_of_getElem? (i := 38) rfl)
theorem sr_33_0 {B : Nat} {σ : gS} (h : IvS B σ) : gR σ (B + 33) 0 = some (B + 1) := h.2 _ (List.mem_of_getElem? (i := 39) rfl)
theorem sr_33_1 {B : Nat} {σ : gS} (h : IvS B σ) : gR σ (B + 33) 1 = some (B + 34) := h.2 _ (List.mem_of_getElem? (i := 40) rfl)
theorem sr_33_2 {B : Nat} {σ : gS} (h : IvS B σ) : gR σ (B + 33) 2 = some (B + 35) := h.2 _ (List.mem_of_getElem? (i := 41) rfl)
theorem sr_33_3 {B : Nat} {σ : gS} (h : IvS B σ) : gR σ (B + 33) 3 = some (B + 36) := h.2 _ (List.mem_of_getElem? (i := 42) rfl)
theorem sr_37_0 {B : Nat} {σ : gS} (h : IvS B σ) : gR σ (B + 37) 0 = some (B + 1) := h.2 _ (List.mem_of_getElem? (i := 43) rfl)
theorem sr_37_1 {B : Nat} {σ : gS} (h : IvS B σ) : gR σ (B + 37) 1 = some (B + 38) := h.2 _ (List.mem_of_getElem? (i := 44) rfl)
theorem sr_37_2 {B : Nat} {σ : gS} (h : IvS B σ) : gR σ (B + 37) 2 = some (B + 39) := h.2 _ (List.mem_of_getElem? (i := 45) rfl)
theorem sr_37_3 {B : Nat} {σ : gS} (h : IvS B σ) : gR σ (B + 37) 3 = some (B + 40) := h.2 _ (List.mem_of_getElem? (i := 46) rfl)
theorem sr_37_5 {B : Nat} {σ : gS} (h : IvS B σ) : gR σ (B + 37) 5 = some (B + 41) := h.2 _ (List.mem_of_getElem? (i := 47) rfl)
theorem sr_42_0 {B : Nat} {σ : gS} (h : IvS B σ) : gR σ (B + 42) 0 = some (B + 1) := h.2 _ (List.mem_of_getElem? (i := 48) rfl)
theorem sr_42_1 {B : Nat} {σ : gS} (h : IvS B σ) : gR σ (B + 42) 1 = some (B + 43) := h.2 _ (List.mem_of_getElem? (i := 49) rfl)
theorem sr_42_2 {B : Nat} {σ : gS} (h : IvS B σ) : gR σ (B + 42) 2 = some (B + 44) := h.2 _ (List.mem_of_getElem? (i := 50) rfl)
theorem sr_45_0 {B : Nat} {σ : gS} (h : IvS B σ) : gR σ (B + 45) 0 = some (B + 1) := h.2 _ (List.mem_of_getElem? (i := 51) rfl)
theorem sr_45_1 {B : Nat} {σ : gS} (h : IvS B σ) : gR σ (B + 45) 1 = some (B + 25) := h.2 _ (List.mem_of_getElem? (i := 52) rfl)
theorem sr_45_2 {B : Nat} {σ : gS} (h : IvS B σ) : gR σ (B + 45) 2 = some (B + 46) := h.2 _ (List.mem_of_getElem? (i := 53) rfl)
theorem sr_45_3 {B : Nat} {σ : gS} (h : IvS B σ) : gR σ (B + 45) 3 = some (B + 47) := h.2 _ (List.mem_of_getElem? (i := 54) rfl)
theorem sr_45_4 {B : Nat} {σ : gS} (h : IvS B σ) : gR σ (B + 45) 4 = some (B + 48) := h.2 _ (List.mem_of_getElem? (i := 55) rfl)
theorem sr_50_0 {B : Nat} {σ : gS} (h : IvS B σ) : gR σ (B + 50) 0 = some (B + 1) := h.2 _ (List.mem_of_getElem? (i := 56) rfl)
theorem sr_50_1 {B : Nat} {σ : gS} (h : IvS B σ) : gR σ (B + 50) 1 = some (B + 25) := h.2 _ (List.mem_of_getElem? (i := 57) rfl)
theorem sr_50_2 {B : Nat} {σ : gS} (h : IvS B σ) : gR σ (B + 50) 2 = some (B + 33) := h.2 _ (List.mem_of_getElem? (i := 58) rfl)
theorem sr_50_3 {B : Nat} {σ : gS} (h : IvS B σ) : gR σ (B + 50) 3 = some (B + 51) := h.2 _ (List.mem_of_getElem? (i := 59) rfl)
theorem sr_50_4 {B : Nat} {σ : gS} (h : IvS B σ) : gR σ (B + 50) 4 = some (B + 52) := h.2 _ (List.mem_of_getElem? (i := 60) rfl)
theorem sr_50_5 {B : Nat} {σ : gS} (h : IvS B σ) : gR σ (B + 50) 5 = some (B + 53) := h.2 _ (List.mem_of_getElem? (i := 61) rfl)
theorem sr_54_2 {B : Nat} {σ : gS} (h : IvS B σ) : gR σ (B + 54) 2 = some (B + 55) := h.2 _ (List.mem_of_getElem? (i := 62) rfl)
theorem sr_54_3 {B : Nat} {σ : gS} (h : IvS B σ) : gR σ (B + 54) 3 = some (B + 56) := h.2 _ (List.mem_of_getElem? (i := 63) rfl)
theorem sr_54_4 {B : Nat} {σ : gS} (h : IvS B σ) : gR σ (B + 54) 4 = some (B + 57) := h.2 _ (List.mem_of_getElem? (i := 64) rfl)
theorem sr_54_5 {B : Nat} {σ : gS} (h : IvS B σ) : gR σ (B + 54) 5 = some (B + 58) := h.2 _ (List.mem_of_getElem? (i := 65) rfl)
theorem sr_54_7 {B : Nat} {σ : gS} (h : IvS B σ) : gR σ (B + 54) 7 = some (B + 59) := h.2 _ (List.mem_of_getElem? (i := 66) rfl)
theorem sr_54_8 {B : Nat} {σ : gS} (h : IvS B σ) : gR σ (B + 54) 8 = some (B + 60) := h.2 _ (List.mem_of_getElem? (i := 67) rfl)
theorem sr_54_9 {B : Nat} {σ : gS} (h : IvS B σ) : gR σ (B + 54) 9 = some (B + 61) := h.2 _ (List.mem_of_getElem? (i := 68) rfl)
theorem sr_54_12 {B : Nat} {σ : gS} (h : IvS B σ) : gR σ (B + 54) 12 = some (B + 62) := h.2 _ (List.mem_of_getElem? (i := 69) rfl)
theorem sr_54_13 {B : Nat} {σ : gS} (h : IvS B σ) : gR σ (B + 54) 13 = some (B + 63) := h.2 _ (List.mem_of_getElem? (i := 70) rfl)
theorem sr_54_14 {B : Nat} {σ : gS} (h : IvS B σ) : gR σ (B + 54) 14 = some (B + 64) := h.2 _ (List.mem_of_getElem? (i := 71) rfl)
theorem sr_54_22 {B : Nat} {σ : gS} (h : IvS B σ) : gR σ (B + 54) 22 = some (B + 65) := h.2 _ (List.mem_of_getElem? (i := 72) rfl)
theorem sr_54_25 {B : Nat} {σ : gS} (h : IvS B σ) : gR σ (B + 54) 25 = some (B + 66) := h.2 _ (List.mem_of_getElem? (i := 73) rfl)
theorem sr_54_26 {B : Nat} {σ : gS} (h : IvS B σ) : gR σ (B + 54) 26 = some (B + 67) := h.2 _ (List.mem_of_getElem? (i := 74) rfl)
theorem sr_54_27 {B : Nat} {σ : gS} (h : IvS B σ) : gR σ (B + 54) 27 = some (B + 68) := h.2 _ (List.mem_of_getElem? (i := 75) rfl)
theorem sr_54_34 {B : Nat} {σ : gS} (h : IvS B σ) : gR σ (B + 54) 34 = some (B + 69) := h.2 _ (List.mem_of_getElem? (i := 76) rfl)
theorem sr_54_35 {B : Nat} {σ : gS} (h : IvS B σ) : gR σ (B + 54) 35 = some (B + 70) := h.2 _ (List.mem_of_getElem? (i := 77) rfl)
theorem sr_54_36 {B : Nat} {σ : gS} (h : IvS B σ) : gR σ (B + 54) 36 = some (B + 71) := h.2 _ (List.mem_of_getElem? (i := 78) rfl)
theorem sr_54_37 {B : Nat} {σ : gS} (h : IvS B σ) : gR σ (B + 54) 37 = some (B + 72) := h.2 _ (List.mem_of_getElem? (i := 79) rfl)
theorem sr_54_38 {B : Nat} {σ : gS} (h : IvS B σ) : gR σ (B + 54) 38 = some (B + 73) := h.2 _ (List.mem_of_getElem? (i := 80) rfl)
theorem sr_54_40 {B : Nat} {σ : gS} (h : IvS B σ) : gR σ (B + 54) 40 = some (B + 74) := h.2 _ (List.mem_of_getElem? (i := 81) rfl)
theorem sr_54_43 {B : Nat} {σ : gS} (h : IvS B σ) : gR σ (B + 54) 43 = some (B + 75) := h.2 _ (List.mem_of_getElem? (i := 82) rfl)
theorem sr_54_44 {B : Nat} {σ : gS} (h : IvS B σ) : gR σ (B + 54) 44 = some (B + 76) := h.2 _ (List.mem_of_getElem? (i := 83) rfl)
theorem sr_54_45 {B : Nat} {σ : gS} (h : IvS B σ) : gR σ (B + 54) 45 = some (B + 77) := h.2 _ (List.mem_of_getElem? (i := 84) rfl)
theorem sr_54_46 {B : Nat} {σ : gS} (h : IvS B σ) : gR σ (B + 54) 46 = some (B + 78) := h.2 _ (List.mem_of_getElem? (i := 85) rfl)
theorem sr_54_47 {B : Nat} {σ : gS} (h : IvS B σ) : gR σ (B + 54) 47 = some (B + 79) := h.2 _ (List.mem_of_getElem? (i := 86) rfl)
theorem gn_S0 (G : gG) : gn (gS0 G) = gB G := rfl
