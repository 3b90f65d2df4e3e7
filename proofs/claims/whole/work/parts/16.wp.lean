def gPrs : List (List (Nat × gO)) := [pr_0, pr_1, pr_2, pr_3, pr_4, pr_5, pr_6, pr_7, pr_8, pr_9, pr_10, pr_11, pr_12, pr_13, pr_14, pr_15, pr_16, pr_17, pr_18, pr_19, pr_20, pr_21, pr_22, pr_23, pr_24, pr_25, pr_26, pr_27, pr_28, pr_29, pr_30, pr_31, pr_32, pr_33, pr_34, pr_35, pr_36, pr_37, pr_38, pr_39, pr_40, pr_41, pr_42, pr_43, pr_44, pr_45, pr_46, pr_47, pr_48, pr_49, pr_50, pr_51, pr_52, pr_53, pr_54, pr_55, pr_56, pr_57, pr_58, pr_59, pr_60, pr_61, pr_62, pr_63, pr_64, pr_65, pr_66, pr_67, pr_68, pr_69, pr_70, pr_71, pr_72, pr_73, pr_74, pr_75, pr_76, pr_77, pr_78, pr_79, pr_80, pr_81, pr_82, pr_83, pr_84, pr_85, pr_86, pr_87, pr_88, pr_89, pr_90, pr_91, pr_92, pr_93, pr_94, pr_95, pr_96, pr_97, pr_98, pr_99, pr_100, pr_101, pr_102, pr_103, pr_104, pr_105, pr_106, pr_107, pr_108, pr_109, pr_110, pr_111, pr_112, pr_113, pr_114, pr_115, pr_116, pr_117, pr_118, pr_119, pr_120, pr_121, pr_122, pr_123, pr_124, pr_125, pr_126, pr_127, pr_128, pr_129, pr_130, pr_131, pr_132, pr_133, pr_134, pr_135, pr_136, pr_137, pr_138, pr_139, pr_140, pr_141, pr_142, pr_143, pr_144, pr_145, pr_146, pr_147, pr_148, pr_149, pr_150, pr_151, pr_152, pr_153, pr_154, pr_155, pr_156, pr_157, pr_158, pr_159, pr_160, pr_161, pr_162, pr_163, pr_164, pr_165, pr_166, pr_167, pr_168, pr_169, pr_170, pr_171, pr_172, pr_173, pr_174, pr_175, pr_176, pr_177, pr_178, pr_179, pr_180, pr_181, pr_182, pr_183, pr_184, pr_185, pr_186, pr_187, pr_188, pr_189, pr_190, pr_191, pr_192, pr_193, pr_194, pr_195, pr_196, pr_197, pr_198, pr_199, pr_200, pr_201, pr_202, pr_203, pr_204, pr_205, pr_206, pr_207, pr_208, pr_209, pr_210, pr_211, pr_212, pr_213, pr_214, pr_215, pr_216, pr_217, pr_218, pr_219, pr_220, pr_221, pr_222, pr_223, pr_224, pr_225, pr_226, pr_227, pr_228, pr_229, pr_230, pr_231, pr_232, pr_233, pr_234, pr_235, pr_236, pr_237, pr_238, pr_239, pr_240, pr_241, pr_242, pr_243, pr_244, pr_245, pr_246, pr_247, pr_248, pr_249, pr_250, pr_251, pr_252, pr_253, pr_254, pr_255, pr_256, pr_257, pr_258, pr_259, pr_260, pr_261, pr_262, pr_263, pr_264, pr_265, pr_266, pr_267, pr_268, pr_269, pr_270, pr_271, pr_272, pr_273, pr_274, pr_275, pr_276, pr_277, pr_278, pr_279, pr_280, pr_281, pr_282, pr_283, pr_284, pr_285, pr_286, pr_287, pr_288]
def gPr (i pc : Nat) : Option gO := gFind (gPrs.getD i []) pc
def gml (i : Nat) : Nat := (gMT i).2.2.1
def wp (d : Nat) (p : List (Nat × gO)) (Q : Option Value → gS → Prop) (pc : Nat) (L : gL) (st : List Value) (σ : gS) : Prop := ∃ (F n : Nat) (r : Option Value) (σ' : gS), gRun (gEx gPr gml F d) (gFind p) n pc L st σ = some (r, σ') ∧ Q r σ'
def wc (d i : Nat) (As : List Value) (σ : gS) (Q : Option Value → gS → Prop) : Prop := ∃ (F : Nat) (r : Option Value) (σ' : gS), gEx gPr gml F d i As σ = some (r, σ') ∧ Q r σ'
theorem gRun_mono {X X' : Nat → List Value → gS → Option (Option Value × gS)} {P : Nat → Option gO} (hX : ∀ j As σ y, X j As σ = some y → X' j As σ = some y) : ∀ (n n' pc : Nat) (L : gL) (st : List Value) (σ : gS) (y : Option Value × gS), n ≤ n' → gRun X P n pc L st σ = some y → gRun X' P n' pc L st σ = some y := by
  intro n
  induction n with
  | zero => intro n' pc L st σ y hn h; cases h
  | succ n ih =>
    intro n' pc L st σ y hn h
    obtain ⟨k, rfl⟩ : ∃ k, n' = k + 1 := ⟨n' - 1, by omega⟩
    unfold gRun at h ⊢
    cases hp : P pc with
    | none => rw [hp] at h; cases h
    | some o =>
      rw [hp] at h
      simp only at h ⊢
      cases ho : o pc L st σ with
      | none => rw [ho] at h; cases h
      | some x =>
        rw [ho] at h
        rcases x with ⟨pc', L', st', σ'⟩ | ⟨⟨j, As, rest⟩ | rv⟩
        · exact ih k _ _ _ _ _ (by omega) h
        · simp only at h ⊢
          cases hx : X j As σ with
          | none => rw [hx] at h; cases h
          | some z =>
            rw [hx] at h
            rw [hX j As σ z hx]
            exact ih k _ _ _ _ _ (by omega) h
        · exact h
theorem gEx_mono : ∀ (d F F' i : Nat) (As : List Value) (σ : gS) (y : Option Value × gS), F ≤ F' → gEx gPr gml F d i As σ = some y → gEx gPr gml F' d i As σ = some y := by
  intro d
  induction d with
  | zero => intro F F' i As σ y hF h; cases h
  | succ d ih =>
    intro F F' i As σ y hF h
    unfold gEx at h ⊢
    split at h
    · next hA =>
      rw [if_pos hA]
      exact gRun_mono (fun j As σ y h => ih F F' j As σ y hF h) F F' _ _ _ _ _ hF h
    · cases h
theorem gEx_deep : ∀ (d F i : Nat) (As : List Value) (σ : gS) (y : Option Value × gS), gEx gPr gml F d i As σ = some y → gEx gPr gml F (d + 1) i As σ = some y := by
  intro d
  induction d with
  | zero => intro F i As σ y h; cases h
  | succ d ih =>
    intro F i As σ y h
    unfold gEx at h ⊢
    split at h
    · next hA =>
      rw [if_pos hA]
      exact gRun_mono (fun j As σ y h => ih F j As σ y h) F F _ _ _ _ _ (Nat.le_refl _) h
    · cases h
theorem wc_deep {d d' i : Nat} {As : List Value} {σ : gS} {Q : Option Value → gS → Prop} (hd : d ≤ d') (h : wc d i As σ Q) : wc d' i As σ Q := by
  obtain ⟨k, rfl⟩ : ∃ k, d' = d + k := ⟨d' - d, by omega⟩
  clear hd
  induction k with
  | zero => exact h
  | succ k ih =>
    obtain ⟨F, r, σ', h1, h2⟩ := ih
    exact ⟨F, r, σ', gEx_deep _ _ _ _ _ _ h1, h2⟩
theorem wc_imp {d i : Nat} {As : List Value} {σ : gS} {Q Q' : Option Value → gS → Prop} (h : wc d i As σ Q) (hq : ∀ r σ', Q r σ' → Q' r σ') : wc d i As σ Q' := by
  obtain ⟨F, r, σ', h1, h2⟩ := h
  exact ⟨F, r, σ', h1, hq _ _ h2⟩
theorem wp_imp {d : Nat} {p : List (Nat × gO)} {Q Q' : Option Value → gS → Prop} {pc : Nat} {L : gL} {st : List Value} {σ : gS} (h : wp d p Q pc L st σ) (hq : ∀ r σ', Q r σ' → Q' r σ') : wp d p Q' pc L st σ := by
  obtain ⟨F, n, r, σ', h1, h2⟩ := h
  exact ⟨F, n, r, σ', h1, hq _ _ h2⟩
/-- what stands behind an instruction -/
def wk (d : Nat) (p : List (Nat × gO)) (Q : Option Value → gS → Prop) (pc : Nat) (L : gL) (σ : gS) : Option gX → Prop
  | none => False
  | some (.inl (pc', L', st', σ')) => wp d p Q pc' L' st' σ'
  | some (.inr (.inl (j, As, rest))) => wc d j As σ (fun r σ' => wp d p Q (pc + 3) L (r.toList ++ rest) σ')
  | some (.inr (.inr r)) => Q r σ
theorem wp_op {d : Nat} {p : List (Nat × gO)} {Q : Option Value → gS → Prop} {pc : Nat} {L : gL} {st : List Value} {σ : gS} {o : gO} (hp : gFind p pc = some o) : wp d p Q pc L st σ ↔ wk d p Q pc L σ (o pc L st σ) := by
  constructor
  · rintro ⟨F, n, r, σ', h, hq⟩
    cases n with
    | zero => cases h
    | succ n =>
      unfold gRun at h
      rw [hp] at h
      simp only at h
      cases ho : o pc L st σ with
      | none => rw [ho] at h; cases h
      | some x =>
        rw [ho] at h
        rcases x with ⟨pc', L', st', σ1⟩ | ⟨⟨j, As, rest⟩ | rv⟩
        · exact ⟨F, n, r, σ', h, hq⟩
        · simp only at h
          cases hx : gEx gPr gml F d j As σ with
          | none => rw [hx] at h; cases h
          | some z =>
            obtain ⟨r1, σ1⟩ := z
            rw [hx] at h
            exact ⟨F, r1, σ1, hx, F, n, r, σ', h, hq⟩
        · simp only at h
          cases h
          exact hq
  · intro h
    cases ho : o pc L st σ with
    | none => rw [ho] at h; exact h.elim
    | some x =>
      rw [ho] at h
      rcases x with ⟨pc', L', st', σ1⟩ | ⟨⟨j, As, rest⟩ | rv⟩
      · obtain ⟨F, n, r, σ', h1, h2⟩ := h
        refine ⟨F, n + 1, r, σ', ?_, h2⟩
        unfold gRun
        rw [hp]
        simp only [ho]
        exact h1
      · obtain ⟨F, r1, σ1, h1, F2, n, r, σ', h2, h3⟩ := h
        refine ⟨F + F2, n + 1, r, σ', ?_, h3⟩
        unfold gRun
        rw [hp]
        simp only [ho]
        rw [gEx_mono d F (F + F2) j As σ _ (by omega) h1]
        exact gRun_mono (fun j As σ y h => gEx_mono d F2 (F + F2) j As σ y (by omega) h) n n _ _ _ _ _ (Nat.le_refl _) h2
      · refine ⟨0, 1, rv, σ, ?_, h⟩
        unfold gRun
        rw [hp]
        simp only [ho]
theorem wc_iff {d i : Nat} {As : List Value} {σ : gS} {Q : Option Value → gS → Prop} {L : gL} (hA : gArgW As ≤ gml i) (hL : gLoc (gml i) As = L) : wc (d + 1) i As σ Q ↔ wp d (gPrs.getD i []) Q 0 L [] σ := by
  subst hL
  constructor
  · rintro ⟨F, r, σ', h, hq⟩
    unfold gEx at h
    rw [if_pos hA] at h
    exact ⟨F, F, r, σ', h, hq⟩
  · rintro ⟨F, n, r, σ', h, hq⟩
    refine ⟨F + n, r, σ', ?_, hq⟩
    unfold gEx
    rw [if_pos hA]
    exact gRun_mono (fun j As σ y h => gEx_mono d F (F + n) j As σ y (by omega) h) n (F + n) _ _ _ _ _ (by omega) h
/-! the store's own rules -/
def gPv : Option Value → Bool
  | some (.long _) => false
  | some (.double _) => false
  | _ => true
theorem gPv_n : gPv none = true := rfl
theorem gPv_i (x : Int32) : gPv (some (.int x)) = true := rfl
theorem gPv_r (x : Nat) : gPv (some (.ref x)) = true := rfl
theorem gPv_0 : gPv (some .null) = true := rfl

theorem w_push {d : Nat} {p : List (Nat × gO)} {Q : Option Value → gS → Prop} {pc : Nat} {L : gL} {st : List Value} {σ : gS} {v : Value} {n : Nat} (hp : gFind p pc = some (o_push v n))  : wp d p Q pc L st σ ↔ wp d p Q (pc + n) (L) (v :: st) (σ) := (wp_op hp).trans (Iff.rfl)
theorem w_str {d : Nat} {p : List (Nat × gO)} {Q : Option Value → gS → Prop} {pc : Nat} {L : gL} {st : List Value} {σ : gS} {j n : Nat} (hp : gFind p pc = some (o_str j n))  : wp d p Q pc L st σ ↔ wp d p Q (pc + n) (L) (.ref (gT σ j) :: st) (σ) := (wp_op hp).trans (Iff.rfl)
theorem w_iload {d : Nat} {p : List (Nat × gO)} {Q : Option Value → gS → Prop} {pc : Nat} {L : gL} {st : List Value} {σ : gS} {k n : Nat} {x : Int32} (hp : gFind p pc = some (o_iload k n)) (hL : L[k]? = some (some (.int x))) : wp d p Q pc L st σ ↔ wp d p Q (pc + n) (L) (.int x :: st) (σ) := (wp_op hp).trans (by unfold o_iload; rw [hL]; exact Iff.rfl)
theorem w_lload {d : Nat} {p : List (Nat × gO)} {Q : Option Value → gS → Prop} {pc : Nat} {L : gL} {st : List Value} {σ : gS} {k n : Nat} {x : Int64} (hp : gFind p pc = some (o_lload k n)) (hL : L[k]? = some (some (.long x))) : wp d p Q pc L st σ ↔ wp d p Q (pc + n) (L) (.long x :: st) (σ) := (wp_op hp).trans (by unfold o_lload; rw [hL]; exact Iff.rfl)
theorem w_aload {d : Nat} {p : List (Nat × gO)} {Q : Option Value → gS → Prop} {pc : Nat} {L : gL} {st : List Value} {σ : gS} {k n : Nat} {x : Nat} (hp : gFind p pc = some (o_aload k n)) (hL : L[k]? = some (some (.ref x))) : wp d p Q pc L st σ ↔ wp d p Q (pc + n) (L) (.ref x :: st) (σ) := (wp_op hp).trans (by unfold o_aload; rw [hL]; exact Iff.rfl)
theorem w_aloadN {d : Nat} {p : List (Nat × gO)} {Q : Option Value → gS → Prop} {pc : Nat} {L : gL} {st : List Value} {σ : gS} {k n : Nat} (hp : gFind p pc = some (o_aload k n)) (hL : L[k]? = some (some .null)) : wp d p Q pc L st σ ↔ wp d p Q (pc + n) (L) (.null :: st) (σ) := (wp_op hp).trans (by unfold o_aload; rw [hL]; exact Iff.rfl)
theorem gPrev_pv {L : gL} {k : Nat} {x : Option Value} (h : L[k]? = some x) : gPrev L (k + 1) = gPv x := by
  unfold gPrev gPv
  rw [h]
  rcases x with _ | v
  · rfl
  · cases v <;> rfl
theorem w_istore0 {d : Nat} {p : List (Nat × gO)} {Q : Option Value → gS → Prop} {pc : Nat} {L : gL} {st : List Value} {σ : gS} {n : Nat} {x : Int32} {L2 : gL} (hp : gFind p pc = some (o_istore 0 n)) (hl : 0 < L.length) (hL : L.set 0 (some (.int x)) = L2) : wp d p Q pc L (.int x :: st) σ ↔ wp d p Q (pc + n) (L2) (st) (σ) := (wp_op hp).trans (by unfold o_istore; simp only [gPrev, hl, hL, and_self, if_true]; exact Iff.rfl)
theorem w_istore {d : Nat} {p : List (Nat × gO)} {Q : Option Value → gS → Prop} {pc : Nat} {L : gL} {st : List Value} {σ : gS} {k n : Nat} {x : Int32} {L2 : gL} {y : Option Value} (hp : gFind p pc = some (o_istore (k + 1) n)) (hl : k + 1 < L.length) (hL : L.set (k + 1) (some (.int x)) = L2) (hy : L[k]? = some y) : wp d p Q pc L (.int x :: st) σ ↔ gPv y = true ∧ wp d p Q (pc + n) (L2) (st) (σ) := (wp_op hp).trans (by unfold o_istore; simp only [gPrev_pv hy, hl, hL, and_true]; by_cases h : gPv y = true <;> simp [h, wk])
theorem w_astore0 {d : Nat} {p : List (Nat × gO)} {Q : Option Value → gS → Prop} {pc : Nat} {L : gL} {st : List Value} {σ : gS} {n : Nat} {x : Nat} {L2 : gL} (hp : gFind p pc = some (o_astore 0 n)) (hl : 0 < L.length) (hL : L.set 0 (some (.ref x)) = L2) : wp d p Q pc L (.ref x :: st) σ ↔ wp d p Q (pc + n) (L2) (st) (σ) := (wp_op hp).trans (by unfold o_astore; simp only [gPrev, hl, hL, and_self, if_true]; exact Iff.rfl)
theorem w_astore {d : Nat} {p : List (Nat × gO)} {Q : Option Value → gS → Prop} {pc : Nat} {L : gL} {st : List Value} {σ : gS} {k n : Nat} {x : Nat} {L2 : gL} {y : Option Value} (hp : gFind p pc = some (o_astore (k + 1) n)) (hl : k + 1 < L.length) (hL : L.set (k + 1) (some (.ref x)) = L2) (hy : L[k]? = some y) : wp d p Q pc L (.ref x :: st) σ ↔ gPv y = true ∧ wp d p Q (pc + n) (L2) (st) (σ) := (wp_op hp).trans (by unfold o_astore; simp only [gPrev_pv hy, hl, hL, and_true]; by_cases h : gPv y = true <;> simp [h, wk])
theorem w_astoreN {d : Nat} {p : List (Nat × gO)} {Q : Option Value → gS → Prop} {pc : Nat} {L : gL} {st : List Value} {σ : gS} {k n : Nat} {L2 : gL} {y : Option Value} (hp : gFind p pc = some (o_astore (k + 1) n)) (hl : k + 1 < L.length) (hL : L.set (k + 1) (some .null) = L2) (hy : L[k]? = some y) : wp d p Q pc L (.null :: st) σ ↔ gPv y = true ∧ wp d p Q (pc + n) (L2) (st) (σ) := (wp_op hp).trans (by unfold o_astore; simp only [gPrev_pv hy, hl, hL, and_true]; by_cases h : gPv y = true <;> simp [h, wk])
theorem w_lstore {d : Nat} {p : List (Nat × gO)} {Q : Option Value → gS → Prop} {pc : Nat} {L : gL} {st : List Value} {σ : gS} {k n : Nat} {x : Int64} {L2 : gL} {y : Option Value} (hp : gFind p pc = some (o_lstore (k + 1) n)) (hl : k + 1 + 1 < L.length) (hL : (L.set (k + 1) (some (.long x))).set (k + 1 + 1) none = L2) (hy : L[k]? = some y) : wp d p Q pc L (.long x :: st) σ ↔ gPv y = true ∧ wp d p Q (pc + n) (L2) (st) (σ) := (wp_op hp).trans (by unfold o_lstore; simp only [gPrev_pv hy, hl, hL, and_true]; by_cases h : gPv y = true <;> simp [h, wk])
theorem w_iinc {d : Nat} {p : List (Nat × gO)} {Q : Option Value → gS → Prop} {pc : Nat} {L : gL} {st : List Value} {σ : gS} {k : Nat} {v x : Int32} {L2 : gL} {y : Option Value} (hp : gFind p pc = some (o_iinc (k + 1) v)) (hx : L[k + 1]? = some (some (.int x))) (hL : L.set (k + 1) (some (.int (x + v))) = L2) (hy : L[k]? = some y) : wp d p Q pc L st σ ↔ gPv y = true ∧ wp d p Q (pc + 3) (L2) (st) (σ) := (wp_op hp).trans (by unfold o_iinc; rw [hx]; simp only [gPrev_pv hy, hL]; by_cases h : gPv y = true <;> simp [h, wk])
theorem w_iinc0 {d : Nat} {p : List (Nat × gO)} {Q : Option Value → gS → Prop} {pc : Nat} {L : gL} {st : List Value} {σ : gS} {v x : Int32} {L2 : gL} (hp : gFind p pc = some (o_iinc 0 v)) (hx : L[0]? = some (some (.int x))) (hL : L.set 0 (some (.int (x + v))) = L2) : wp d p Q pc L st σ ↔ wp d p Q (pc + 3) (L2) (st) (σ) := (wp_op hp).trans (by unfold o_iinc; rw [hx]; simp only [gPrev, hL, if_true]; exact Iff.rfl)
theorem w_bI {d : Nat} {p : List (Nat × gO)} {Q : Option Value → gS → Prop} {pc : Nat} {L : gL} {st : List Value} {σ : gS} {f : Int32 → Int32 → Int32} {x y : Int32} (hp : gFind p pc = some (o_bI f))  : wp d p Q pc L (.int y :: .int x :: st) σ ↔ wp d p Q (pc + 1) (L) (.int (f x y) :: st) (σ) := (wp_op hp).trans (Iff.rfl)
theorem w_bId {d : Nat} {p : List (Nat × gO)} {Q : Option Value → gS → Prop} {pc : Nat} {L : gL} {st : List Value} {σ : gS} {f : Int32 → Int32 → Int32} {x y : Int32} (hp : gFind p pc = some (o_bId f))  : wp d p Q pc L (.int y :: .int x :: st) σ ↔ ¬ y = 0 ∧ wp d p Q (pc + 1) (L) (.int (f x y) :: st) (σ) := (wp_op hp).trans (by unfold o_bId; by_cases h : y = 0 <;> simp [h, wk])
theorem w_uI {d : Nat} {p : List (Nat × gO)} {Q : Option Value → gS → Prop} {pc : Nat} {L : gL} {st : List Value} {σ : gS} {f : Int32 → Int32} {x : Int32} (hp : gFind p pc = some (o_uI f))  : wp d p Q pc L (.int x :: st) σ ↔ wp d p Q (pc + 1) (L) (.int (f x) :: st) (σ) := (wp_op hp).trans (Iff.rfl)
theorem w_bJ {d : Nat} {p : List (Nat × gO)} {Q : Option Value → gS → Prop} {pc : Nat} {L : gL} {st : List Value} {σ : gS} {f : Int64 → Int64 → Int64} {x y : Int64} (hp : gFind p pc = some (o_bJ f))  : wp d p Q pc L (.long y :: .long x :: st) σ ↔ wp d p Q (pc + 1) (L) (.long (f x y) :: st) (σ) := (wp_op hp).trans (Iff.rfl)
theorem w_bJd {d : Nat} {p : List (Nat × gO)} {Q : Option Value → gS → Prop} {pc : Nat} {L : gL} {st : List Value} {σ : gS} {f : Int64 → Int64 → Int64} {x y : Int64} (hp : gFind p pc = some (o_bJd f))  : wp d p Q pc L (.long y :: .long x :: st) σ ↔ ¬ y = 0 ∧ wp d p Q (pc + 1) (L) (.long (f x y) :: st) (σ) := (wp_op hp).trans (by unfold o_bJd; by_cases h : y = 0 <;> simp [h, wk])
theorem w_lcmp {d : Nat} {p : List (Nat × gO)} {Q : Option Value → gS → Prop} {pc : Nat} {L : gL} {st : List Value} {σ : gS} {x y : Int64} (hp : gFind p pc = some (o_lcmp))  : wp d p Q pc L (.long y :: .long x :: st) σ ↔ wp d p Q (pc + 1) (L) (.int (lg_cmp x y) :: st) (σ) := (wp_op hp).trans (Iff.rfl)
theorem w_i2l {d : Nat} {p : List (Nat × gO)} {Q : Option Value → gS → Prop} {pc : Nat} {L : gL} {st : List Value} {σ : gS} {x : Int32} (hp : gFind p pc = some (o_i2l))  : wp d p Q pc L (.int x :: st) σ ↔ wp d p Q (pc + 1) (L) (.long x.toInt64 :: st) (σ) := (wp_op hp).trans (Iff.rfl)
theorem w_l2i {d : Nat} {p : List (Nat × gO)} {Q : Option Value → gS → Prop} {pc : Nat} {L : gL} {st : List Value} {σ : gS} {x : Int64} (hp : gFind p pc = some (o_l2i))  : wp d p Q pc L (.long x :: st) σ ↔ wp d p Q (pc + 1) (L) (.int x.toInt32 :: st) (σ) := (wp_op hp).trans (Iff.rfl)
theorem w_dupI {d : Nat} {p : List (Nat × gO)} {Q : Option Value → gS → Prop} {pc : Nat} {L : gL} {st : List Value} {σ : gS} {x : Int32} (hp : gFind p pc = some (o_dup))  : wp d p Q pc L (.int x :: st) σ ↔ wp d p Q (pc + 1) (L) (.int x :: .int x :: st) (σ) := (wp_op hp).trans (Iff.rfl)
theorem w_dupR {d : Nat} {p : List (Nat × gO)} {Q : Option Value → gS → Prop} {pc : Nat} {L : gL} {st : List Value} {σ : gS} {x : Nat} (hp : gFind p pc = some (o_dup))  : wp d p Q pc L (.ref x :: st) σ ↔ wp d p Q (pc + 1) (L) (.ref x :: .ref x :: st) (σ) := (wp_op hp).trans (Iff.rfl)
theorem w_dup2 {d : Nat} {p : List (Nat × gO)} {Q : Option Value → gS → Prop} {pc : Nat} {L : gL} {st : List Value} {σ : gS} {x : Int32} {y : Nat} (hp : gFind p pc = some (o_dup2))  : wp d p Q pc L (.int x :: .ref y :: st) σ ↔ wp d p Q (pc + 1) (L) (.int x :: .ref y :: .int x :: .ref y :: st) (σ) := (wp_op hp).trans (Iff.rfl)
theorem w_popI {d : Nat} {p : List (Nat × gO)} {Q : Option Value → gS → Prop} {pc : Nat} {L : gL} {st : List Value} {σ : gS} {x : Int32} (hp : gFind p pc = some (o_pop))  : wp d p Q pc L (.int x :: st) σ ↔ wp d p Q (pc + 1) (L) (st) (σ) := (wp_op hp).trans (Iff.rfl)
theorem w_popR {d : Nat} {p : List (Nat × gO)} {Q : Option Value → gS → Prop} {pc : Nat} {L : gL} {st : List Value} {σ : gS} {x : Nat} (hp : gFind p pc = some (o_pop))  : wp d p Q pc L (.ref x :: st) σ ↔ wp d p Q (pc + 1) (L) (st) (σ) := (wp_op hp).trans (Iff.rfl)
theorem w_if {d : Nat} {p : List (Nat × gO)} {Q : Option Value → gS → Prop} {pc : Nat} {L : gL} {st : List Value} {σ : gS} {f : Int32 → Bool} {tgt : Nat} {x : Int32} {C : Prop} (hp : gFind p pc = some (o_if f tgt)) (hC : f x = true ↔ C) : wp d p Q pc L (.int x :: st) σ ↔ (C → wp d p Q (tgt) (L) (st) (σ)) ∧ (¬ C → wp d p Q (pc + 3) (L) (st) (σ)) := (wp_op hp).trans (by unfold o_if; rw [← hC]; by_cases h : f x = true <;> simp [h, wk])
theorem w_icmp {d : Nat} {p : List (Nat × gO)} {Q : Option Value → gS → Prop} {pc : Nat} {L : gL} {st : List Value} {σ : gS} {f : Int32 → Int32 → Bool} {tgt : Nat} {x y : Int32} {C : Prop} (hp : gFind p pc = some (o_icmp f tgt)) (hC : f x y = true ↔ C) : wp d p Q pc L (.int y :: .int x :: st) σ ↔ (C → wp d p Q (tgt) (L) (st) (σ)) ∧ (¬ C → wp d p Q (pc + 3) (L) (st) (σ)) := (wp_op hp).trans (by unfold o_icmp; rw [← hC]; by_cases h : f x y = true <;> simp [h, wk])
theorem w_goto {d : Nat} {p : List (Nat × gO)} {Q : Option Value → gS → Prop} {pc : Nat} {L : gL} {st : List Value} {σ : gS} {tgt : Nat} (hp : gFind p pc = some (o_goto tgt))  : wp d p Q pc L st σ ↔ wp d p Q (tgt) (L) (st) (σ) := (wp_op hp).trans (Iff.rfl)
theorem w_tsw {d : Nat} {p : List (Nat × gO)} {Q : Option Value → gS → Prop} {pc : Nat} {L : gL} {st : List Value} {σ : gS} {lo hi : Int} {tg : List Nat} {df : Nat} {x : Int32} (hp : gFind p pc = some (o_tsw lo hi tg df)) : wp d p Q pc L (.int x :: st) σ ↔ (x.toInt < lo ∨ hi < x.toInt → wp d p Q (df) (L) (st) (σ)) ∧ (¬ (x.toInt < lo ∨ hi < x.toInt) → ∃ q, tg[(x.toInt - lo).toNat]? = some q ∧ wp d p Q (q) (L) (st) (σ)) := (wp_op hp).trans (by
  unfold o_tsw
  by_cases h : x.toInt < lo ∨ hi < x.toInt
  · simp [h, wk]
  · simp only [h, if_false, false_imp_iff, not_false_iff, true_imp_iff, true_and]
    cases tg[(x.toInt - lo).toNat]? <;> simp [wk])
theorem w_ifnullR {d : Nat} {p : List (Nat × gO)} {Q : Option Value → gS → Prop} {pc : Nat} {L : gL} {st : List Value} {σ : gS} {tgt x : Nat} (hp : gFind p pc = some (o_ifnull tgt))  : wp d p Q pc L (.ref x :: st) σ ↔ wp d p Q (pc + 3) (L) (st) (σ) := (wp_op hp).trans (Iff.rfl)
theorem w_ifnullN {d : Nat} {p : List (Nat × gO)} {Q : Option Value → gS → Prop} {pc : Nat} {L : gL} {st : List Value} {σ : gS} {tgt : Nat} (hp : gFind p pc = some (o_ifnull tgt))  : wp d p Q pc L (.null :: st) σ ↔ wp d p Q (tgt) (L) (st) (σ) := (wp_op hp).trans (Iff.rfl)
theorem w_ifnonnullR {d : Nat} {p : List (Nat × gO)} {Q : Option Value → gS → Prop} {pc : Nat} {L : gL} {st : List Value} {σ : gS} {tgt x : Nat} (hp : gFind p pc = some (o_ifnonnull tgt))  : wp d p Q pc L (.ref x :: st) σ ↔ wp d p Q (tgt) (L) (st) (σ) := (wp_op hp).trans (Iff.rfl)
theorem w_ifnonnullN {d : Nat} {p : List (Nat × gO)} {Q : Option Value → gS → Prop} {pc : Nat} {L : gL} {st : List Value} {σ : gS} {tgt : Nat} (hp : gFind p pc = some (o_ifnonnull tgt))  : wp d p Q pc L (.null :: st) σ ↔ wp d p Q (pc + 3) (L) (st) (σ) := (wp_op hp).trans (Iff.rfl)
theorem w_getI {d : Nat} {p : List (Nat × gO)} {Q : Option Value → gS → Prop} {pc : Nat} {L : gL} {st : List Value} {σ : gS} {c k a : Nat} (hp : gFind p pc = some (o_getI c k))  : wp d p Q pc L (.ref a :: st) σ ↔ gK σ a = c + 1 ∧ wp d p Q (pc + 3) (L) (.int (gI σ a k) :: st) (σ) := (wp_op hp).trans (by unfold o_getI; by_cases h : gK σ a = c + 1 <;> simp [h, wk])
theorem w_getJ {d : Nat} {p : List (Nat × gO)} {Q : Option Value → gS → Prop} {pc : Nat} {L : gL} {st : List Value} {σ : gS} {c k a : Nat} (hp : gFind p pc = some (o_getJ c k))  : wp d p Q pc L (.ref a :: st) σ ↔ gK σ a = c + 1 ∧ wp d p Q (pc + 3) (L) (.long (gJ σ a k) :: st) (σ) := (wp_op hp).trans (by unfold o_getJ; by_cases h : gK σ a = c + 1 <;> simp [h, wk])
theorem w_getR {d : Nat} {p : List (Nat × gO)} {Q : Option Value → gS → Prop} {pc : Nat} {L : gL} {st : List Value} {σ : gS} {c k a : Nat} (hp : gFind p pc = some (o_getR c k))  : wp d p Q pc L (.ref a :: st) σ ↔ gK σ a = c + 1 ∧ ∃ q, gR σ a k = some q ∧ wp d p Q (pc + 3) (L) (.ref q :: st) (σ) := (wp_op hp).trans (by unfold o_getR; by_cases h : gK σ a = c + 1 <;> cases gR σ a k <;> simp [h, wk])
theorem w_sval {d : Nat} {p : List (Nat × gO)} {Q : Option Value → gS → Prop} {pc : Nat} {L : gL} {st : List Value} {σ : gS} {a : Nat} (hp : gFind p pc = some (o_sval))  : wp d p Q pc L (.ref a :: st) σ ↔ (30 ≤ gK σ a ∧ gK σ a < 45) ∧ ∃ q, gR σ a 0 = some q ∧ wp d p Q (pc + 3) (L) (.ref q :: st) (σ) := (wp_op hp).trans (by unfold o_sval; by_cases h : 30 ≤ gK σ a ∧ gK σ a < 45 <;> cases gR σ a 0 <;> simp [h, wk])
theorem w_scod {d : Nat} {p : List (Nat × gO)} {Q : Option Value → gS → Prop} {pc : Nat} {L : gL} {st : List Value} {σ : gS} {a : Nat} (hp : gFind p pc = some (o_scod))  : wp d p Q pc L (.ref a :: st) σ ↔ (30 ≤ gK σ a ∧ gK σ a < 45) ∧ wp d p Q (pc + 3) (L) (.int 0 :: st) (σ) := (wp_op hp).trans (by unfold o_scod; by_cases h : 30 ≤ gK σ a ∧ gK σ a < 45 <;> simp [h, wk])
theorem w_putI {d : Nat} {p : List (Nat × gO)} {Q : Option Value → gS → Prop} {pc : Nat} {L : gL} {st : List Value} {σ : gS} {c k a : Nat} {x : Int32} (hp : gFind p pc = some (o_putI c k))  : wp d p Q pc L (.int x :: .ref a :: st) σ ↔ gK σ a = c + 1 ∧ wp d p Q (pc + 3) (L) (st) (sI σ a k x) := (wp_op hp).trans (by unfold o_putI; by_cases h : gK σ a = c + 1 <;> simp [h, wk])
theorem w_putZ {d : Nat} {p : List (Nat × gO)} {Q : Option Value → gS → Prop} {pc : Nat} {L : gL} {st : List Value} {σ : gS} {c k a : Nat} {x : Int32} (hp : gFind p pc = some (o_putZ c k))  : wp d p Q pc L (.int x :: .ref a :: st) σ ↔ (gK σ a = c + 1 ∧ (x = 0 ∨ x = 1)) ∧ wp d p Q (pc + 3) (L) (st) (sI σ a k x) := (wp_op hp).trans (by unfold o_putZ; by_cases h : gK σ a = c + 1 ∧ (x = 0 ∨ x = 1) <;> simp [h, wk])
theorem w_putJ {d : Nat} {p : List (Nat × gO)} {Q : Option Value → gS → Prop} {pc : Nat} {L : gL} {st : List Value} {σ : gS} {c k a : Nat} {x : Int64} (hp : gFind p pc = some (o_putJ c k))  : wp d p Q pc L (.long x :: .ref a :: st) σ ↔ gK σ a = c + 1 ∧ wp d p Q (pc + 3) (L) (st) (sJ σ a k x) := (wp_op hp).trans (by unfold o_putJ; by_cases h : gK σ a = c + 1 <;> simp [h, wk])
theorem w_putR {d : Nat} {p : List (Nat × gO)} {Q : Option Value → gS → Prop} {pc : Nat} {L : gL} {st : List Value} {σ : gS} {c k a x : Nat} (hp : gFind p pc = some (o_putR c k))  : wp d p Q pc L (.ref x :: .ref a :: st) σ ↔ gK σ a = c + 1 ∧ wp d p Q (pc + 3) (L) (st) (sR σ a k (some x)) := (wp_op hp).trans (by unfold o_putR; by_cases h : gK σ a = c + 1 <;> simp [h, wk])
theorem w_iald {d : Nat} {p : List (Nat × gO)} {Q : Option Value → gS → Prop} {pc : Nat} {L : gL} {st : List Value} {σ : gS} {a : Nat} {i : Int32}  (hp : gFind p pc = some (o_iald))  : wp d p Q pc L (.int i :: .ref a :: st) σ ↔ ((gK σ a = 21 ∨ gK σ a = 26) ∧ ¬ i < 0 ∧ i.toNatClampNeg < gN σ a) ∧ wp d p Q (pc + 1) (L) (.int (gI σ a i.toNatClampNeg) :: st) (σ) := (wp_op hp).trans (by unfold o_iald; by_cases h : (gK σ a = 21 ∨ gK σ a = 26) ∧ ¬ i < 0 ∧ i.toNatClampNeg < gN σ a <;> simp [h, wk])
theorem w_bald {d : Nat} {p : List (Nat × gO)} {Q : Option Value → gS → Prop} {pc : Nat} {L : gL} {st : List Value} {σ : gS} {a : Nat} {i : Int32}  (hp : gFind p pc = some (o_bald))  : wp d p Q pc L (.int i :: .ref a :: st) σ ↔ ((gK σ a = 20 ∨ gK σ a = 23 ∨ (50 ≤ gK σ a ∧ gK σ a < 65)) ∧ ¬ i < 0 ∧ i.toNatClampNeg < gN σ a) ∧ wp d p Q (pc + 1) (L) (.int (gI σ a i.toNatClampNeg) :: st) (σ) := (wp_op hp).trans (by unfold o_bald; by_cases h : (gK σ a = 20 ∨ gK σ a = 23 ∨ (50 ≤ gK σ a ∧ gK σ a < 65)) ∧ ¬ i < 0 ∧ i.toNatClampNeg < gN σ a <;> simp [h, wk])
theorem w_lald {d : Nat} {p : List (Nat × gO)} {Q : Option Value → gS → Prop} {pc : Nat} {L : gL} {st : List Value} {σ : gS} {a : Nat} {i : Int32}  (hp : gFind p pc = some (o_lald))  : wp d p Q pc L (.int i :: .ref a :: st) σ ↔ ((gK σ a = 22) ∧ ¬ i < 0 ∧ i.toNatClampNeg < gN σ a) ∧ wp d p Q (pc + 1) (L) (.long (gJ σ a i.toNatClampNeg) :: st) (σ) := (wp_op hp).trans (by unfold o_lald; by_cases h : (gK σ a = 22) ∧ ¬ i < 0 ∧ i.toNatClampNeg < gN σ a <;> simp [h, wk])
theorem w_iast {d : Nat} {p : List (Nat × gO)} {Q : Option Value → gS → Prop} {pc : Nat} {L : gL} {st : List Value} {σ : gS} {a : Nat} {i : Int32} {x : Int32} (hp : gFind p pc = some (o_iast))  : wp d p Q pc L (.int x :: .int i :: .ref a :: st) σ ↔ ((gK σ a = 21) ∧ ¬ i < 0 ∧ i.toNatClampNeg < gN σ a) ∧ wp d p Q (pc + 1) (L) (st) (sI σ a i.toNatClampNeg x) := (wp_op hp).trans (by unfold o_iast; by_cases h : (gK σ a = 21) ∧ ¬ i < 0 ∧ i.toNatClampNeg < gN σ a <;> simp [h, wk])
theorem w_last {d : Nat} {p : List (Nat × gO)} {Q : Option Value → gS → Prop} {pc : Nat} {L : gL} {st : List Value} {σ : gS} {a : Nat} {i : Int32} {x : Int64} (hp : gFind p pc = some (o_last))  : wp d p Q pc L (.long x :: .int i :: .ref a :: st) σ ↔ ((gK σ a = 22) ∧ ¬ i < 0 ∧ i.toNatClampNeg < gN σ a) ∧ wp d p Q (pc + 1) (L) (st) (sJ σ a i.toNatClampNeg x) := (wp_op hp).trans (by unfold o_last; by_cases h : (gK σ a = 22) ∧ ¬ i < 0 ∧ i.toNatClampNeg < gN σ a <;> simp [h, wk])
theorem w_aald {d : Nat} {p : List (Nat × gO)} {Q : Option Value → gS → Prop} {pc : Nat} {L : gL} {st : List Value} {σ : gS} {a : Nat} {i : Int32} (hp : gFind p pc = some (o_aald))  : wp d p Q pc L (.int i :: .ref a :: st) σ ↔ ((gK σ a = 24 ∨ gK σ a = 25) ∧ ¬ i < 0 ∧ i.toNatClampNeg < gN σ a) ∧ (∀ q, gR σ a i.toNatClampNeg = some q → wp d p Q (pc + 1) (L) (.ref q :: st) (σ)) ∧ (gR σ a i.toNatClampNeg = none → wp d p Q (pc + 1) (L) (.null :: st) (σ)) := (wp_op hp).trans (by unfold o_aald; by_cases h : (gK σ a = 24 ∨ gK σ a = 25) ∧ ¬ i < 0 ∧ i.toNatClampNeg < gN σ a <;> cases gR σ a i.toNatClampNeg <;> simp [h, wk])
theorem w_bastB {d : Nat} {p : List (Nat × gO)} {Q : Option Value → gS → Prop} {pc : Nat} {L : gL} {st : List Value} {σ : gS} {a : Nat} {i x : Int32} (hp : gFind p pc = some (o_bast)) (hK : gK σ a = 20) : wp d p Q pc L (.int x :: .int i :: .ref a :: st) σ ↔ (¬ i < 0 ∧ i.toNatClampNeg < gN σ a) ∧ wp d p Q (pc + 1) (L) (st) (sI σ a i.toNatClampNeg x.toInt8.toInt32) := (wp_op hp).trans (by unfold o_bast; by_cases h : ¬ i < 0 ∧ i.toNatClampNeg < gN σ a <;> simp [h, hK, wk])
theorem w_bastZ {d : Nat} {p : List (Nat × gO)} {Q : Option Value → gS → Prop} {pc : Nat} {L : gL} {st : List Value} {σ : gS} {a : Nat} {i x : Int32} (hp : gFind p pc = some (o_bast)) (hK : gK σ a = 23) : wp d p Q pc L (.int x :: .int i :: .ref a :: st) σ ↔ (¬ i < 0 ∧ i.toNatClampNeg < gN σ a) ∧ wp d p Q (pc + 1) (L) (st) (sI σ a i.toNatClampNeg (vp_nar .boolean x)) := (wp_op hp).trans (by unfold o_bast; by_cases h : ¬ i < 0 ∧ i.toNatClampNeg < gN σ a <;> simp [h, hK, wk])
theorem w_aastR {d : Nat} {p : List (Nat × gO)} {Q : Option Value → gS → Prop} {pc : Nat} {L : gL} {st : List Value} {σ : gS} {a x : Nat} {i : Int32} (hp : gFind p pc = some (o_aast))  : wp d p Q pc L (.ref x :: .int i :: .ref a :: st) σ ↔ (((gK σ a = 24 ∧ gK σ x = 4) ∨ (gK σ a = 25 ∧ gK σ x = 11)) ∧ ¬ i < 0 ∧ i.toNatClampNeg < gN σ a) ∧ wp d p Q (pc + 1) (L) (st) (sR σ a i.toNatClampNeg (some x)) := (wp_op hp).trans (by unfold o_aast; by_cases h : ((gK σ a = 24 ∧ gK σ x = 4) ∨ (gK σ a = 25 ∧ gK σ x = 11)) ∧ ¬ i < 0 ∧ i.toNatClampNeg < gN σ a <;> simp [h, wk])
theorem w_aastN {d : Nat} {p : List (Nat × gO)} {Q : Option Value → gS → Prop} {pc : Nat} {L : gL} {st : List Value} {σ : gS} {a : Nat} {i : Int32} (hp : gFind p pc = some (o_aast))  : wp d p Q pc L (.null :: .int i :: .ref a :: st) σ ↔ ((gK σ a = 24 ∨ gK σ a = 25) ∧ ¬ i < 0 ∧ i.toNatClampNeg < gN σ a) ∧ wp d p Q (pc + 1) (L) (st) (sR σ a i.toNatClampNeg none) := (wp_op hp).trans (by unfold o_aast; by_cases h : (gK σ a = 24 ∨ gK σ a = 25) ∧ ¬ i < 0 ∧ i.toNatClampNeg < gN σ a <;> simp [h, wk])
theorem w_alen {d : Nat} {p : List (Nat × gO)} {Q : Option Value → gS → Prop} {pc : Nat} {L : gL} {st : List Value} {σ : gS} {a : Nat} (hp : gFind p pc = some (o_alen))  : wp d p Q pc L (.ref a :: st) σ ↔ ((20 ≤ gK σ a ∧ gK σ a < 27) ∨ (50 ≤ gK σ a ∧ gK σ a < 65)) ∧ wp d p Q (pc + 1) (L) (.int (Int32.ofNat (gN σ a)) :: st) (σ) := (wp_op hp).trans (by unfold o_alen; by_cases h : (20 ≤ gK σ a ∧ gK σ a < 27) ∨ (50 ≤ gK σ a ∧ gK σ a < 65) <;> simp [h, wk])
theorem w_newa {d : Nat} {p : List (Nat × gO)} {Q : Option Value → gS → Prop} {pc : Nat} {L : gL} {st : List Value} {σ : gS} {k : Nat} {n : Int32} (hp : gFind p pc = some (o_newa k))  : wp d p Q pc L (.int n :: st) σ ↔ (¬ n < 0 ∧ n.toNatClampNeg ≤ 1000000) ∧ wp d p Q (pc + 2) (L) (.ref (gn σ) :: st) (sNw σ k n.toNatClampNeg n.toNatClampNeg) := (wp_op hp).trans (by unfold o_newa; by_cases h : ¬ n < 0 ∧ n.toNatClampNeg ≤ 1000000 <;> simp [h, wk])
theorem w_newq {d : Nat} {p : List (Nat × gO)} {Q : Option Value → gS → Prop} {pc : Nat} {L : gL} {st : List Value} {σ : gS} {k : Nat} {n : Int32} (hp : gFind p pc = some (o_newq k))  : wp d p Q pc L (.int n :: st) σ ↔ (¬ n < 0 ∧ n.toNatClampNeg ≤ 1000000) ∧ wp d p Q (pc + 3) (L) (.ref (gn σ) :: st) (sNw σ k n.toNatClampNeg n.toNatClampNeg) := (wp_op hp).trans (by unfold o_newq; by_cases h : ¬ n < 0 ∧ n.toNatClampNeg ≤ 1000000 <;> simp [h, wk])
theorem w_new {d : Nat} {p : List (Nat × gO)} {Q : Option Value → gS → Prop} {pc : Nat} {L : gL} {st : List Value} {σ : gS} {c w0 : Nat} (hp : gFind p pc = some (o_new c w0))  : wp d p Q pc L st σ ↔ wp d p Q (pc + 3) (L) (.ref (gn σ) :: st) (sNw σ (c + 1) 0 w0) := (wp_op hp).trans (Iff.rfl)
theorem w_fmt0 {d : Nat} {p : List (Nat × gO)} {Q : Option Value → gS → Prop} {pc : Nat} {L : gL} {st : List Value} {σ : gS}  (hp : gFind p pc = some (o_fmt)) (hT : gT σ 15 = 0) : wp d p Q pc L st σ ↔ wp d p Q (pc + 3) (L) (.null :: st) (σ) := (wp_op hp).trans (by unfold o_fmt; rw [hT]; exact Iff.rfl)
theorem w_fmt1 {d : Nat} {p : List (Nat × gO)} {Q : Option Value → gS → Prop} {pc : Nat} {L : gL} {st : List Value} {σ : gS} {t : Nat} (hp : gFind p pc = some (o_fmt)) (hT : gT σ 15 = t + 1) : wp d p Q pc L st σ ↔ wp d p Q (pc + 3) (L) (.ref t :: st) (σ) := (wp_op hp).trans (by unfold o_fmt; rw [hT]; exact Iff.rfl)
theorem w_clone {d : Nat} {p : List (Nat × gO)} {Q : Option Value → gS → Prop} {pc : Nat} {L : gL} {st : List Value} {σ : gS} {a : Nat} (hp : gFind p pc = some (o_clone))  : wp d p Q pc L (.ref a :: st) σ ↔ (gK σ a = 21 ∧ st.length ≤ 4) ∧ wp d p Q (pc + 3) (L) (.ref (gn σ) :: st) (sIr (sNw σ 21 (gN σ a) (gN σ a)) (gn σ) (gI σ a)) := (wp_op hp).trans (by unfold o_clone; by_cases h : gK σ a = 21 ∧ st.length ≤ 4 <;> simp [h, wk])
theorem w_cast {d : Nat} {p : List (Nat × gO)} {Q : Option Value → gS → Prop} {pc : Nat} {L : gL} {st : List Value} {σ : gS} {a : Nat} (hp : gFind p pc = some (o_cast))  : wp d p Q pc L (.ref a :: st) σ ↔ gK σ a = 21 ∧ wp d p Q (pc + 3) (L) (.ref a :: st) (σ) := (wp_op hp).trans (by unfold o_cast; by_cases h : gK σ a = 21 <;> simp [h, wk])
theorem w_copy {d : Nat} {p : List (Nat × gO)} {Q : Option Value → gS → Prop} {pc : Nat} {L : gL} {st : List Value} {σ : gS} {a a0 : Nat} {n dp sp : Int32} (hp : gFind p pc = some (o_copy))  : wp d p Q pc L (.int n :: .int dp :: .ref a :: .int sp :: .ref a0 :: st) σ ↔ ((gK σ a0 = 21 ∧ gK σ a = 21 ∧ st.length ≤ 4) ∧ (¬ sp < 0 ∧ ¬ dp < 0 ∧ ¬ n < 0) ∧ sp.toNatClampNeg + n.toNatClampNeg ≤ gN σ a0 ∧ dp.toNatClampNeg + n.toNatClampNeg ≤ gN σ a) ∧ wp d p Q (pc + 3) (L) (st) (sIr σ a (va_cpy (gI σ a0) (gI σ a) sp.toNatClampNeg dp.toNatClampNeg n.toNatClampNeg)) := (wp_op hp).trans (by unfold o_copy; by_cases h : (gK σ a0 = 21 ∧ gK σ a = 21 ∧ st.length ≤ 4) ∧ (¬ sp < 0 ∧ ¬ dp < 0 ∧ ¬ n < 0) ∧ sp.toNatClampNeg + n.toNatClampNeg ≤ gN σ a0 ∧ dp.toNatClampNeg + n.toNatClampNeg ≤ gN σ a <;> simp only [h, if_true, if_false, wk, true_and, false_and, and_self])
theorem w_obj {d : Nat} {p : List (Nat × gO)} {Q : Option Value → gS → Prop} {pc : Nat} {L : gL} {st : List Value} {σ : gS} {a : Nat} (hp : gFind p pc = some (o_obj))  : wp d p Q pc L (.ref a :: st) σ ↔ st.length ≤ 4 ∧ wp d p Q (pc + 3) (L) (st) (σ) := (wp_op hp).trans (by unfold o_obj; by_cases h : st.length ≤ 4 <;> simp [h, wk])
theorem w_callS {d : Nat} {p : List (Nat × gO)} {Q : Option Value → gS → Prop} {pc : Nat} {L : gL} {st : List Value} {σ : gS} {j n : Nat} {As rest : List Value} (hp : gFind p pc = some (o_callS j n)) (h1 : n ≤ st.length) (h2 : (st.take n).reverse = As) (h3 : st.drop n = rest) : wp d p Q pc L st σ ↔ rest.length ≤ 4 ∧ wc d j As σ (fun r τ => wp d p Q (pc + 3) L (r.toList ++ rest) τ) := (wp_op hp).trans (by subst h2; subst h3; unfold o_callS; by_cases h : (st.drop n).length ≤ 4 <;> simp only [h, h1, and_self, and_true, and_false, true_and, false_and, if_true, if_false, wk])
theorem w_callI {d : Nat} {p : List (Nat × gO)} {Q : Option Value → gS → Prop} {pc : Nat} {L : gL} {st : List Value} {σ : gS} {j n a : Nat} {As rest : List Value} (hp : gFind p pc = some (o_callI j n)) (h1 : n ≤ st.length) (h2 : (st.take n).reverse = As) (h3 : st.drop n = .ref a :: rest) : wp d p Q pc L st σ ↔ rest.length ≤ 4 ∧ wc d j (.ref a :: As) σ (fun r τ => wp d p Q (pc + 3) L (r.toList ++ rest) τ) := (wp_op hp).trans (by subst h2; unfold o_callI; rw [h3]; by_cases h : rest.length ≤ 4 <;> simp only [h, h1, and_self, and_true, and_false, true_and, false_and, if_true, if_false, wk])
theorem w_callV {d : Nat} {p : List (Nat × gO)} {Q : Option Value → gS → Prop} {pc : Nat} {L : gL} {st : List Value} {σ : gS} {j n c a : Nat} {As rest : List Value} (hp : gFind p pc = some (o_callV j n c)) (h1 : n ≤ st.length) (h2 : (st.take n).reverse = As) (h3 : st.drop n = .ref a :: rest) : wp d p Q pc L st σ ↔ (gK σ a = c + 1 ∧ rest.length ≤ 4) ∧ wc d j (.ref a :: As) σ (fun r τ => wp d p Q (pc + 3) L (r.toList ++ rest) τ) := (wp_op hp).trans (by subst h2; unfold o_callV; rw [h3]; by_cases h : gK σ a = c + 1 ∧ rest.length ≤ 4 <;> simp only [h, h1, and_self, and_true, and_false, true_and, false_and, if_true, if_false, wk])
theorem w_callT {d : Nat} {p : List (Nat × gO)} {Q : Option Value → gS → Prop} {pc : Nat} {L : gL} {st : List Value} {σ : gS} {j n a : Nat} {As rest : List Value} (hp : gFind p pc = some (o_callT j n)) (h1 : n ≤ st.length) (h2 : (st.take n).reverse = As) (h3 : st.drop n = .ref a :: rest) : wp d p Q pc L st σ ↔ ((30 ≤ gK σ a ∧ gK σ a < 45) ∧ rest.length ≤ 4) ∧ wc d j (.ref a :: As) σ (fun r τ => wp d p Q (pc + 3) L (r.toList ++ rest) τ) := (wp_op hp).trans (by subst h2; unfold o_callT; rw [h3]; by_cases h : (30 ≤ gK σ a ∧ gK σ a < 45) ∧ rest.length ≤ 4 <;> simp only [h, h1, and_self, and_true, and_false, true_and, false_and, if_true, if_false, wk])
theorem w_ret {d : Nat} {p : List (Nat × gO)} {Q : Option Value → gS → Prop} {pc : Nat} {L : gL} {σ : gS} (hp : gFind p pc = some o_ret) : wp d p Q pc L [] σ ↔ Q none σ := (wp_op hp).trans Iff.rfl
theorem w_iret {d : Nat} {p : List (Nat × gO)} {Q : Option Value → gS → Prop} {pc : Nat} {L : gL} {σ : gS} {v : Int32} (hp : gFind p pc = some o_iret) : wp d p Q pc L [.int v] σ ↔ Q (some (.int v)) σ := (wp_op hp).trans Iff.rfl
theorem w_lret {d : Nat} {p : List (Nat × gO)} {Q : Option Value → gS → Prop} {pc : Nat} {L : gL} {σ : gS} {v : Int64} (hp : gFind p pc = some o_lret) : wp d p Q pc L [.long v] σ ↔ Q (some (.long v)) σ := (wp_op hp).trans Iff.rfl
theorem w_zret {d : Nat} {p : List (Nat × gO)} {Q : Option Value → gS → Prop} {pc : Nat} {L : gL} {σ : gS} {v : Int32} (hp : gFind p pc = some o_zret) : wp d p Q pc L [.int v] σ ↔ (v = 0 ∨ v = 1) ∧ Q (some (.int v)) σ := (wp_op hp).trans (by unfold o_zret; by_cases h : v = 0 ∨ v = 1 <;> simp only [h, if_true, if_false, wk, true_and, false_and])
theorem w_tret {d : Nat} {p : List (Nat × gO)} {Q : Option Value → gS → Prop} {pc : Nat} {L : gL} {σ : gS} {v : Int32} {ty : FieldType} (hp : gFind p pc = some (o_tret ty)) : wp d p Q pc L [.int v] σ ↔ narrow ty (.int v) = .int v ∧ Q (some (.int v)) σ := (wp_op hp).trans (by unfold o_tret; by_cases h : narrow ty (.int v) = .int v <;> simp only [h, if_true, if_false, wk, true_and, false_and])
theorem w_aretR {d : Nat} {p : List (Nat × gO)} {Q : Option Value → gS → Prop} {pc : Nat} {L : gL} {σ : gS} {v : Nat} (hp : gFind p pc = some o_aret) : wp d p Q pc L [.ref v] σ ↔ Q (some (.ref v)) σ := (wp_op hp).trans Iff.rfl
theorem w_aretN {d : Nat} {p : List (Nat × gO)} {Q : Option Value → gS → Prop} {pc : Nat} {L : gL} {σ : gS} (hp : gFind p pc = some o_aret) : wp d p Q pc L [.null] σ ↔ Q (some .null) σ := (wp_op hp).trans Iff.rfl
