def gPrg (i : Nat) : List (Nat × gO) := bif Nat.blt i 285 then (bif Nat.blt i 142 then (bif Nat.blt i 71 then (bif Nat.blt i 35 then (bif Nat.blt i 17 then (bif Nat.blt i 8 then (bif Nat.blt i 4 then (bif Nat.blt i 2 then (bif Nat.blt i 1 then pr_0 else pr_1) else (bif Nat.blt i 3 then pr_2 else pr_3)) else (bif Nat.blt i 6 then (bif Nat.blt i 5 then pr_4 else pr_5) else (bif Nat.blt i 7 then pr_6 else pr_7))) else (bif Nat.blt i 12 then (bif Nat.blt i 10 then (bif Nat.blt i 9 then pr_8 else pr_9) else (bif Nat.blt i 11 then pr_10 else pr_11)) else (bif Nat.blt i 14 then (bif Nat.blt i 13 then pr_12 else pr_13) else (bif Nat.blt i 15 then pr_14 else (bif Nat.blt i 16 then pr_15 else pr_16))))) else (bif Nat.blt i 26 then (bif Nat.blt i 21 then (bif Nat.blt i 19 then (bif Nat.blt i 18 then pr_17 else pr_18) else (bif Nat.blt i 20 then pr_19 else pr_20)) else (bif Nat.blt i 23 then (bif Nat.blt i 22 then pr_21 else pr_22) else (bif Nat.blt i 24 then pr_23 else (bif Nat.blt i 25 then pr_24 else pr_25)))) else (bif Nat.blt i 30 then (bif Nat.blt i 28 then (bif Nat.blt i 27 then pr_26 else pr_27) else (bif Nat.blt i 29 then pr_28 else pr_29)) else (bif Nat.blt i 32 then (bif Nat.blt i 31 then pr_30 else pr_31) else (bif Nat.blt i 33 then pr_32 else (bif Nat.blt i 34 then pr_33 else pr_34)))))) else (bif Nat.blt i 53 then (bif Nat.blt i 44 then (bif Nat.blt i 39 then (bif Nat.blt i 37 then (bif Nat.blt i 36 then pr_35 else pr_36) else (bif Nat.blt i 38 then pr_37 else pr_38)) else (bif Nat.blt i 41 then (bif Nat.blt i 40 then pr_39 else pr_40) else (bif Nat.blt i 42 then pr_41 else (bif Nat.blt i 43 then pr_42 else pr_43)))) else (bif Nat.blt i 48 then (bif Nat.blt i 46 then (bif Nat.blt i 45 then pr_44 else pr_45) else (bif Nat.blt i 47 then pr_46 else pr_47)) else (bif Nat.blt i 50 then (bif Nat.blt i 49 then pr_48 else pr_49) else (bif Nat.blt i 51 then pr_50 else (bif Nat.blt i 52 then pr_51 else pr_52))))) else (bif Nat.blt i 62 then (bif Nat.blt i 57 then (bif Nat.blt i 55 then (bif Nat.blt i 54 then pr_53 else pr_54) else (bif Nat.blt i 56 then pr_55 else pr_56)) else (bif Nat.blt i 59 then (bif Nat.blt i 58 then pr_57 else pr_58) else (bif Nat.blt i 60 then pr_59 else (bif Nat.blt i 61 then pr_60 else pr_61)))) else (bif Nat.blt i 66 then (bif Nat.blt i 64 then (bif Nat.blt i 63 then pr_62 else pr_63) else (bif Nat.blt i 65 then pr_64 else pr_65)) else (bif Nat.blt i 68 then (bif Nat.blt i 67 then pr_66 else pr_67) else (bif Nat.blt i 69 then pr_68 else (bif Nat.blt i 70 then pr_69 else pr_70))))))) else (bif Nat.blt i 106 then (bif Nat.blt i 88 then (bif Nat.blt i 79 then (bif Nat.blt i 75 then (bif Nat.blt i 73 then (bif Nat.blt i 72 then pr_71 else pr_72) else (bif Nat.blt i 74 then pr_73 else pr_74)) else (bif Nat.blt i 77 then (bif Nat.blt i 76 then pr_75 else pr_76) else (bif Nat.blt i 78 then pr_77 else pr_78))) else (bif Nat.blt i 83 then (bif Nat.blt i 81 then (bif Nat.blt i 80 then pr_79 else pr_80) else (bif Nat.blt i 82 then pr_81 else pr_82)) else (bif Nat.blt i 85 then (bif Nat.blt i 84 then pr_83 else pr_84) else (bif Nat.blt i 86 then pr_85 else (bif Nat.blt i 87 then pr_86 else pr_87))))) else (bif Nat.blt i 97 then (bif Nat.blt i 92 then (bif Nat.blt i 90 then (bif Nat.blt i 89 then pr_88 else pr_89) else (bif Nat.blt i 91 then pr_90 else pr_91)) else (bif Nat.blt i 94 then (bif Nat.blt i 93 then pr_92 else pr_93) else (bif Nat.blt i 95 then pr_94 else (bif Nat.blt i 96 then pr_95 else pr_96)))) else (bif Nat.blt i 101 then (bif Nat.blt i 99 then (bif Nat.blt i 98 then pr_97 else pr_98) else (bif Nat.blt i 100 then pr_99 else pr_100)) else (bif Nat.blt i 103 then (bif Nat.blt i 102 then pr_101 else pr_102) else (bif Nat.blt i 104 then pr_103 else (bif Nat.blt i 105 then pr_104 else pr_105)))))) else (bif Nat.blt i 124 then (bif Nat.blt i 115 then (bif Nat.blt i 110 then (bif Nat.blt i 108 then (bif Nat.blt i 107 then pr_106 else pr_107) else (bif Nat.blt i 109 then pr_108 else pr_109)) else (bif Nat.blt i 112 then (bif Nat.blt i 111 then pr_110 else pr_111) else (bif Nat.blt i 113 then pr_112 else (bif Nat.blt i 114 then pr_113 else pr_114)))) else (bif Nat.blt i 119 then (bif Nat.blt i 117 then (bif Nat.blt i 116 then pr_115 else pr_116) else (bif Nat.blt i 118 then pr_117 else pr_118)) else (bif Nat.blt i 121 then (bif Nat.blt i 120 then pr_119 else pr_120) else (bif Nat.blt i 122 then pr_121 else (bif Nat.blt i 123 then pr_122 else pr_123))))) else (bif Nat.blt i 133 then (bif Nat.blt i 128 then (bif Nat.blt i 126 then (bif Nat.blt i 125 then pr_124 else pr_125) else (bif Nat.blt i 127 then pr_126 else pr_127)) else (bif Nat.blt i 130 then (bif Nat.blt i 129 then pr_128 else pr_129) else (bif Nat.blt i 131 then pr_130 else (bif Nat.blt i 132 then pr_131 else pr_132)))) else (bif Nat.blt i 137 then (bif Nat.blt i 135 then (bif Nat.blt i 134 then pr_133 else pr_134) else (bif Nat.blt i 136 then pr_135 else pr_136)) else (bif Nat.blt i 139 then (bif Nat.blt i 138 then pr_137 else pr_138) else (bif Nat.blt i 140 then pr_139 else (bif Nat.blt i 141 then pr_140 else pr_141)))))))) else (bif Nat.blt i 213 then (bif Nat.blt i 177 then (bif Nat.blt i 159 then (bif Nat.blt i 150 then (bif Nat.blt i 146 then (bif Nat.blt i 144 then (bif Nat.blt i 143 then pr_142 else pr_143) else (bif Nat.blt i 145 then pr_144 else pr_145)) else (bif Nat.blt i 148 then (bif Nat.blt i 147 then pr_146 else pr_147) else (bif Nat.blt i 149 then pr_148 else pr_149))) else (bif Nat.blt i 154 then (bif Nat.blt i 152 then (bif Nat.blt i 151 then pr_150 else pr_151) else (bif Nat.blt i 153 then pr_152 else pr_153)) else (bif Nat.blt i 156 then (bif Nat.blt i 155 then pr_154 else pr_155) else (bif Nat.blt i 157 then pr_156 else (bif Nat.blt i 158 then pr_157 else pr_158))))) else (bif Nat.blt i 168 then (bif Nat.blt i 163 then (bif Nat.blt i 161 then (bif Nat.blt i 160 then pr_159 else pr_160) else (bif Nat.blt i 162 then pr_161 else pr_162)) else (bif Nat.blt i 165 then (bif Nat.blt i 164 then pr_163 else pr_164) else (bif Nat.blt i 166 then pr_165 else (bif Nat.blt i 167 then pr_166 else pr_167)))) else (bif Nat.blt i 172 then (bif Nat.blt i 170 then (bif Nat.blt i 169 then pr_168 else pr_169) else (bif Nat.blt i 171 then pr_170 else pr_171)) else (bif Nat.blt i 174 then (bif Nat.blt i 173 then pr_172 else pr_173) else (bif Nat.blt i 175 then pr_174 else (bif Nat.blt i 176 then pr_175 else pr_176)))))) else (bif Nat.blt i 195 then (bif Nat.blt i 186 then (bif Nat.blt i 181 then (bif Nat.blt i 179 then (bif Nat.blt i 178 then pr_177 else pr_178) else (bif Nat.blt i 180 then pr_179 else pr_180)) else (bif Nat.blt i 183 then (bif Nat.blt i 182 then pr_181 else pr_182) else (bif Nat.blt i 184 then pr_183 else (bif Nat.blt i 185 then pr_184 else pr_185)))) else (bif Nat.blt i 190 then (bif Nat.blt i 188 then (bif Nat.blt i 187 then pr_186 else pr_187) else (bif Nat.blt i 189 then pr_188 else pr_189)) else (bif Nat.blt i 192 then (bif Nat.blt i 191 then pr_190 else pr_191) else (bif Nat.blt i 193 then pr_192 else (bif Nat.blt i 194 then pr_193 else pr_194))))) else (bif Nat.blt i 204 then (bif Nat.blt i 199 then (bif Nat.blt i 197 then (bif Nat.blt i 196 then pr_195 else pr_196) else (bif Nat.blt i 198 then pr_197 else pr_198)) else (bif Nat.blt i 201 then (bif Nat.blt i 200 then pr_199 else pr_200) else (bif Nat.blt i 202 then pr_201 else (bif Nat.blt i 203 then pr_202 else pr_203)))) else (bif Nat.blt i 208 then (bif Nat.blt i 206 then (bif Nat.blt i 205 then pr_204 else pr_205) else (bif Nat.blt i 207 then pr_206 else pr_207)) else (bif Nat.blt i 210 then (bif Nat.blt i 209 then pr_208 else pr_209) else (bif Nat.blt i 211 then pr_210 else (bif Nat.blt i 212 then pr_211 else pr_212))))))) else (bif Nat.blt i 249 then (bif Nat.blt i 231 then (bif Nat.blt i 222 then (bif Nat.blt i 217 then (bif Nat.blt i 215 then (bif Nat.blt i 214 then pr_213 else pr_214) else (bif Nat.blt i 216 then pr_215 else pr_216)) else (bif Nat.blt i 219 then (bif Nat.blt i 218 then pr_217 else pr_218) else (bif Nat.blt i 220 then pr_219 else (bif Nat.blt i 221 then pr_220 else pr_221)))) else (bif Nat.blt i 226 then (bif Nat.blt i 224 then (bif Nat.blt i 223 then pr_222 else pr_223) else (bif Nat.blt i 225 then pr_224 else pr_225)) else (bif Nat.blt i 228 then (bif Nat.blt i 227 then pr_226 else pr_227) else (bif Nat.blt i 229 then pr_228 else (bif Nat.blt i 230 then pr_229 else pr_230))))) else (bif Nat.blt i 240 then (bif Nat.blt i 235 then (bif Nat.blt i 233 then (bif Nat.blt i 232 then pr_231 else pr_232) else (bif Nat.blt i 234 then pr_233 else pr_234)) else (bif Nat.blt i 237 then (bif Nat.blt i 236 then pr_235 else pr_236) else (bif Nat.blt i 238 then pr_237 else (bif Nat.blt i 239 then pr_238 else pr_239)))) else (bif Nat.blt i 244 then (bif Nat.blt i 242 then (bif Nat.blt i 241 then pr_240 else pr_241) else (bif Nat.blt i 243 then pr_242 else pr_243)) else (bif Nat.blt i 246 then (bif Nat.blt i 245 then pr_244 else pr_245) else (bif Nat.blt i 247 then pr_246 else (bif Nat.blt i 248 then pr_247 else pr_248)))))) else (bif Nat.blt i 267 then (bif Nat.blt i 258 then (bif Nat.blt i 253 then (bif Nat.blt i 251 then (bif Nat.blt i 250 then pr_249 else pr_250) else (bif Nat.blt i 252 then pr_251 else pr_252)) else (bif Nat.blt i 255 then (bif Nat.blt i 254 then pr_253 else pr_254) else (bif Nat.blt i 256 then pr_255 else (bif Nat.blt i 257 then pr_256 else pr_257)))) else (bif Nat.blt i 262 then (bif Nat.blt i 260 then (bif Nat.blt i 259 then pr_258 else pr_259) else (bif Nat.blt i 261 then pr_260 else pr_261)) else (bif Nat.blt i 264 then (bif Nat.blt i 263 then pr_262 else pr_263) else (bif Nat.blt i 265 then pr_264 else (bif Nat.blt i 266 then pr_265 else pr_266))))) else (bif Nat.blt i 276 then (bif Nat.blt i 271 then (bif Nat.blt i 269 then (bif Nat.blt i 268 then pr_267 else pr_268) else (bif Nat.blt i 270 then pr_269 else pr_270)) else (bif Nat.blt i 273 then (bif Nat.blt i 272 then pr_271 else pr_272) else (bif Nat.blt i 274 then pr_273 else (bif Nat.blt i 275 then pr_274 else pr_275)))) else (bif Nat.blt i 280 then (bif Nat.blt i 278 then (bif Nat.blt i 277 then pr_276 else pr_277) else (bif Nat.blt i 279 then pr_278 else pr_279)) else (bif Nat.blt i 282 then (bif Nat.blt i 281 then pr_280 else pr_281) else (bif Nat.blt i 283 then pr_282 else (bif Nat.blt i 284 then pr_283 else pr_284))))))))) else []
def gPr (i pc : Nat) : Option gO := gFind (gPrg i) pc
def gml (i : Nat) : Nat := (gMT i).2.2.1
def wp (d : Nat) (p : List (Nat × gO)) (Q : Option Value → gS → Prop) (pc : Nat) (L : gL) (st : List Value) (σ : gS) : Prop := ∃ (F n : Nat) (r : Option Value) (σ' : gS), gRun (gEx gPr gml F d) (gFind p) n pc L st σ = some (r, σ') ∧ Q r σ'
def wc (d i : Nat) (As : List Value) (σ : gS) (Q : Option Value → gS → Prop) : Prop := ∃ (F : Nat) (r : Option Value) (σ' : gS), gEx gPr gml F d i As σ = some (r, σ') ∧ Q r σ'
theorem gRun_mono {X X' : Nat → List Value → gS → Option (Option Value × gS)} {P : Nat → Option gO} (hX : ∀ j As σ y, X j As σ = some y → X' j As σ = some y) : ∀ (n n' pc : Nat) (L : gL) (st : List Value) (σ : gS) (y : Option Value × gS), n ≤ n' → gRun X P n pc L st σ = some y → gRun X' P n' pc L st σ = some y := by
  intro n
  induction n with
  | zero => intro n' pc L st σ y hn h; cases h
  | succ n ih =>
    intro n' pc L st σ y hn h
    obtain ⟨k, rfl⟩ : ∃ k, n' = k + 1 := ⟨n' - 1, by omega⟩
    unfold gRun at h ⊢
    cases hp : P pc with
    | none => rw [hp] at h; cases h
    | some o =>
      rw [hp] at h
      simp only at h ⊢
      cases ho : o pc L st σ with
      | none => rw [ho] at h; cases h
      | some x =>
        rw [ho] at h
        rcases x with ⟨pc', L', st', σ'⟩ | ⟨⟨j, As, rest⟩ | rv⟩
        · exact ih k _ _ _ _ _ (by omega) h
        · simp only at h ⊢
          cases hx : X j As σ with
          | none => rw [hx] at h; cases h
          | some z =>
            rw [hx] at h
            rw [hX j As σ z hx]
            exact ih k _ _ _ _ _ (by omega) h
        · exact h
theorem gEx_mono : ∀ (d F F' i : Nat) (As : List Value) (σ : gS) (y : Option Value × gS), F ≤ F' → gEx gPr gml F d i As σ = some y → gEx gPr gml F' d i As σ = some y := by
  intro d
  induction d with
  | zero => intro F F' i As σ y hF h; cases h
  | succ d ih =>
    intro F F' i As σ y hF h
    unfold gEx at h ⊢
    split at h
    · next hA =>
      rw [if_pos hA]
      exact gRun_mono (fun j As σ y h => ih F F' j As σ y hF h) F F' _ _ _ _ _ hF h
    · cases h
theorem gEx_deep : ∀ (d F i : Nat) (As : List Value) (σ : gS) (y : Option Value × gS), gEx gPr gml F d i As σ = some y → gEx gPr gml F (d + 1) i As σ = some y := by
  intro d
  induction d with
  | zero => intro F i As σ y h; cases h
  | succ d ih =>
    intro F i As σ y h
    unfold gEx at h ⊢
    split at h
    · next hA =>
      rw [if_pos hA]
      exact gRun_mono (fun j As σ y h => ih F j As σ y h) F F _ _ _ _ _ (Nat.le_refl _) h
    · cases h
theorem wc_deep {d d' i : Nat} {As : List Value} {σ : gS} {Q : Option Value → gS → Prop} (hd : d ≤ d') (h : wc d i As σ Q) : wc d' i As σ Q := by
  obtain ⟨k, rfl⟩ : ∃ k, d' = d + k := ⟨d' - d, by omega⟩
  clear hd
  induction k with
  | zero => exact h
  | succ k ih =>
    obtain ⟨F, r, σ', h1, h2⟩ := ih
    exact ⟨F, r, σ', gEx_deep _ _ _ _ _ _ h1, h2⟩
theorem wc_imp {d i : Nat} {As : List Value} {σ : gS} {Q Q' : Option Value → gS → Prop} (h : wc d i As σ Q) (hq : ∀ r σ', Q r σ' → Q' r σ') : wc d i As σ Q' := by
  obtain ⟨F, r, σ', h1, h2⟩ := h
  exact ⟨F, r, σ', h1, hq _ _ h2⟩
theorem wp_imp {d : Nat} {p : List (Nat × gO)} {Q Q' : Option Value → gS → Prop} {pc : Nat} {L : gL} {st : List Value} {σ : gS} (h : wp d p Q pc L st σ) (hq : ∀ r σ', Q r σ' → Q' r σ') : wp d p Q' pc L st σ := by
  obtain ⟨F, n, r, σ', h1, h2⟩ := h
  exact ⟨F, n, r, σ', h1, hq _ _ h2⟩
/-- what stands behind an instruction -/
def wk (d : Nat) (p : List (Nat × gO)) (Q : Option Value → gS → Prop) (pc : Nat) (L : gL) (σ : gS) : Option gX → Prop
  | none => False
  | some (.inl (pc', L', st', σ')) => wp d p Q pc' L' st' σ'
  | some (.inr (.inl (j, As, rest))) => wc d j As σ (fun r σ' => wp d p Q (pc + 3) L (r.toList ++ rest) σ')
  | some (.inr (.inr r)) => Q r σ
theorem wp_op {d : Nat} {p : List (Nat × gO)} {Q : Option Value → gS → Prop} {pc : Nat} {L : gL} {st : List Value} {σ : gS} {o : gO} (hp : gFind p pc = some o) : wp d p Q pc L st σ ↔ wk d p Q pc L σ (o pc L st σ) := by
  constructor
  · rintro ⟨F, n, r, σ', h, hq⟩
    cases n with
    | zero => cases h
    | succ n =>
      unfold gRun at h
      rw [hp] at h
      simp only at h
      cases ho : o pc L st σ with
      | none => rw [ho] at h; cases h
      | some x =>
        rw [ho] at h
        rcases x with ⟨pc', L', st', σ1⟩ | ⟨⟨j, As, rest⟩ | rv⟩
        · exact ⟨F, n, r, σ', h, hq⟩
        · simp only at h
          cases hx : gEx gPr gml F d j As σ with
          | none => rw [hx] at h; cases h
          | some z =>
            obtain ⟨r1, σ1⟩ := z
            rw [hx] at h
            exact ⟨F, r1, σ1, hx, F, n, r, σ', h, hq⟩
        · simp only at h
          cases h
          exact hq
  · intro h
    cases ho : o pc L st σ with
    | none => rw [ho] at h; exact h.elim
    | some x =>
      rw [ho] at h
      rcases x with ⟨pc', L', st', σ1⟩ | ⟨⟨j, As, rest⟩ | rv⟩
      · obtain ⟨F, n, r, σ', h1, h2⟩ := h
        refine ⟨F, n + 1, r, σ', ?_, h2⟩
        unfold gRun
        rw [hp]
        simp only [ho]
        exact h1
      · obtain ⟨F, r1, σ1, h1, F2, n, r, σ', h2, h3⟩ := h
        refine ⟨F + F2, n + 1, r, σ', ?_, h3⟩
        unfold gRun
        rw [hp]
        simp only [ho]
        rw [gEx_mono d F (F + F2) j As σ _ (by omega) h1]
        exact gRun_mono (fun j As σ y h => gEx_mono d F2 (F + F2) j As σ y (by omega) h) n n _ _ _ _ _ (Nat.le_refl _) h2
      · refine ⟨0, 1, rv, σ, ?_, h⟩
        unfold gRun
        rw [hp]
        simp only [ho]
theorem wc_iff {d i : Nat} {As : List Value} {σ : gS} {Q : Option Value → gS → Prop} {L : gL} (hA : gArgW As ≤ gml i) (hL : gLoc (gml i) As = L) : wc (d + 1) i As σ Q ↔ wp d (gPrg i) Q 0 L [] σ := by
  subst hL
  constructor
  · rintro ⟨F, r, σ', h, hq⟩
    unfold gEx at h
    rw [if_pos hA] at h
    exact ⟨F, F, r, σ', h, hq⟩
  · rintro ⟨F, n, r, σ', h, hq⟩
    refine ⟨F + n, r, σ', ?_, hq⟩
    unfold gEx
    rw [if_pos hA]
    exact gRun_mono (fun j As σ y h => gEx_mono d F (F + n) j As σ y (by omega) h) n (F + n) _ _ _ _ _ (by omega) h
theorem wk_if {d : Nat} {p : List (Nat × gO)} {Q : Option Value → gS → Prop} {pc : Nat} {L : gL} {σ : gS} {c : Prop} [Decidable c] {y : Option gX} : wk d p Q pc L σ (if c then y else none) ↔ c ∧ wk d p Q pc L σ y := by
  by_cases h : c
  · rw [if_pos h]; exact ⟨fun z => ⟨h, z⟩, fun z => z.2⟩
  · rw [if_neg h]; exact ⟨fun z => z.elim, fun z => absurd z.1 h⟩
theorem wk_opt {d : Nat} {p : List (Nat × gO)} {Q : Option Value → gS → Prop} {pc : Nat} {L : gL} {σ : gS} {o : Option Nat} {f : Nat → gX} : wk d p Q pc L σ (match o with | some q => some (f q) | none => none) ↔ ∃ q, o = some q ∧ wk d p Q pc L σ (some (f q)) := by
  cases o with
  | none => exact ⟨fun z => z.elim, fun ⟨q, h, _⟩ => by cases h⟩
  | some q => exact ⟨fun z => ⟨q, rfl, z⟩, fun ⟨q', h, z⟩ => by cases h; exact z⟩
theorem wk_opt2 {d : Nat} {p : List (Nat × gO)} {Q : Option Value → gS → Prop} {pc : Nat} {L : gL} {σ : gS} {o : Option Nat} {f : Nat → gX} {g : gX} : wk d p Q pc L σ (match o with | some q => some (f q) | none => some g) ↔ (∀ q, o = some q → wk d p Q pc L σ (some (f q))) ∧ (o = none → wk d p Q pc L σ (some g)) := by
  cases o with
  | none => exact ⟨fun z => ⟨fun q h => (by cases h), fun _ => z⟩, fun z => z.2 rfl⟩
  | some q => exact ⟨fun z => ⟨fun q' h => (by cases h; exact z), fun h => (by cases h)⟩, fun z => z.1 q rfl⟩
/-! the store's own rules -/
def gPv : Option Value → Bool
  | some (.long _) => false
  | some (.double _) => false
  | _ => true
theorem gPv_n : gPv none = true := rfl
theorem gPv_i (x : Int32) : gPv (some (.int x)) = true := rfl
theorem gPv_r (x : Nat) : gPv (some (.ref x)) = true := rfl
theorem gPv_0 : gPv (some .null) = true := rfl

theorem w_push {d : Nat} {p : List (Nat × gO)} {Q : Option Value → gS → Prop} {pc : Nat} {L : gL} {st : List Value} {σ : gS} {v : Value} {n : Nat} (hp : gFind p pc = some (o_push v n))  : wp d p Q pc L st σ ↔ wp d p Q (pc + n) (L) (v :: st) (σ) := (wp_op hp).trans (Iff.rfl)
theorem w_str {d : Nat} {p : List (Nat × gO)} {Q : Option Value → gS → Prop} {pc : Nat} {L : gL} {st : List Value} {σ : gS} {j n : Nat} (hp : gFind p pc = some (o_str j n))  : wp d p Q pc L st σ ↔ wp d p Q (pc + n) (L) (.ref (gT σ j) :: st) (σ) := (wp_op hp).trans (Iff.rfl)
theorem w_iload {d : Nat} {p : List (Nat × gO)} {Q : Option Value → gS → Prop} {pc : Nat} {L : gL} {st : List Value} {σ : gS} {k n : Nat} {x : Int32} (hp : gFind p pc = some (o_iload k n)) (hL : L[k]? = some (some (.int x))) : wp d p Q pc L st σ ↔ wp d p Q (pc + n) (L) (.int x :: st) (σ) := (wp_op hp).trans (by unfold o_iload; rw [hL]; exact Iff.rfl)
theorem w_lload {d : Nat} {p : List (Nat × gO)} {Q : Option Value → gS → Prop} {pc : Nat} {L : gL} {st : List Value} {σ : gS} {k n : Nat} {x : Int64} (hp : gFind p pc = some (o_lload k n)) (hL : L[k]? = some (some (.long x))) : wp d p Q pc L st σ ↔ wp d p Q (pc + n) (L) (.long x :: st) (σ) := (wp_op hp).trans (by unfold o_lload; rw [hL]; exact Iff.rfl)
theorem w_aload {d : Nat} {p : List (Nat × gO)} {Q : Option Value → gS → Prop} {pc : Nat} {L : gL} {st : List Value} {σ : gS} {k n : Nat} {x : Nat} (hp : gFind p pc = some (o_aload k n)) (hL : L[k]? = some (some (.ref x))) : wp d p Q pc L st σ ↔ wp d p Q (pc + n) (L) (.ref x :: st) (σ) := (wp_op hp).trans (by unfold o_aload; rw [hL]; exact Iff.rfl)
theorem w_aloadN {d : Nat} {p : List (Nat × gO)} {Q : Option Value → gS → Prop} {pc : Nat} {L : gL} {st : List Value} {σ : gS} {k n : Nat} (hp : gFind p pc = some (o_aload k n)) (hL : L[k]? = some (some .null)) : wp d p Q pc L st σ ↔ wp d p Q (pc + n) (L) (.null :: st) (σ) := (wp_op hp).trans (by unfold o_aload; rw [hL]; exact Iff.rfl)
theorem gPrev_pv {L : gL} {k : Nat} {x : Option Value} (h : L[k]? = some x) : gPrev L (k + 1) = gPv x := by
  simp only [gPrev, h]
  rcases x with _ | v
  · rfl
  · cases v <;> rfl
theorem w_istore0 {d : Nat} {p : List (Nat × gO)} {Q : Option Value → gS → Prop} {pc : Nat} {L : gL} {st : List Value} {σ : gS} {n : Nat} {x : Int32} {L2 : gL} (hp : gFind p pc = some (o_istore 0 n)) (hl : 0 < L.length) (hL : L.set 0 (some (.int x)) = L2) : wp d p Q pc L (.int x :: st) σ ↔ wp d p Q (pc + n) (L2) (st) (σ) := (wp_op hp).trans (by unfold o_istore; simp only [gPrev, hl, hL, and_self, if_true]; exact Iff.rfl)
theorem w_istore {d : Nat} {p : List (Nat × gO)} {Q : Option Value → gS → Prop} {pc : Nat} {L : gL} {st : List Value} {σ : gS} {k n : Nat} {x : Int32} {L2 : gL} {y : Option Value} (hp : gFind p pc = some (o_istore (k + 1) n)) (hl : k + 1 < L.length) (hL : L.set (k + 1) (some (.int x)) = L2) (hy : L[k]? = some y) : wp d p Q pc L (.int x :: st) σ ↔ gPv y = true ∧ wp d p Q (pc + n) (L2) (st) (σ) := (wp_op hp).trans (by unfold o_istore; simp only [gPrev_pv hy, hl, hL, and_true]; by_cases h : gPv y = true <;> simp [h, wk])
theorem w_astore0 {d : Nat} {p : List (Nat × gO)} {Q : Option Value → gS → Prop} {pc : Nat} {L : gL} {st : List Value} {σ : gS} {n : Nat} {x : Nat} {L2 : gL} (hp : gFind p pc = some (o_astore 0 n)) (hl : 0 < L.length) (hL : L.set 0 (some (.ref x)) = L2) : wp d p Q pc L (.ref x :: st) σ ↔ wp d p Q (pc + n) (L2) (st) (σ) := (wp_op hp).trans (by unfold o_astore; simp only [gPrev, hl, hL, and_self, if_true]; exact Iff.rfl)
theorem w_astore {d : Nat} {p : List (Nat × gO)} {Q : Option Value → gS → Prop} {pc : Nat} {L : gL} {st : List Value} {σ : gS} {k n : Nat} {x : Nat} {L2 : gL} {y : Option Value} (hp : gFind p pc = some (o_astore (k + 1) n)) (hl : k + 1 < L.length) (hL : L.set (k + 1) (some (.ref x)) = L2) (hy : L[k]? = some y) : wp d p Q pc L (.ref x :: st) σ ↔ gPv y = true ∧ wp d p Q (pc + n) (L2) (st) (σ) := (wp_op hp).trans (by unfold o_astore; simp only [gPrev_pv hy, hl, hL, and_true]; by_cases h : gPv y = true <;> simp [h, wk])
theorem w_astoreN {d : Nat} {p : List (Nat × gO)} {Q : Option Value → gS → Prop} {pc : Nat} {L : gL} {st : List Value} {σ : gS} {k n : Nat} {L2 : gL} {y : Option Value} (hp : gFind p pc = some (o_astore (k + 1) n)) (hl : k + 1 < L.length) (hL : L.set (k + 1) (some .null) = L2) (hy : L[k]? = some y) : wp d p Q pc L (.null :: st) σ ↔ gPv y = true ∧ wp d p Q (pc + n) (L2) (st) (σ) := (wp_op hp).trans (by unfold o_astore; simp only [gPrev_pv hy, hl, hL, and_true]; by_cases h : gPv y = true <;> simp [h, wk])
theorem w_lstore {d : Nat} {p : List (Nat × gO)} {Q : Option Value → gS → Prop} {pc : Nat} {L : gL} {st : List Value} {σ : gS} {k n : Nat} {x : Int64} {L2 : gL} {y : Option Value} (hp : gFind p pc = some (o_lstore (k + 1) n)) (hl : k + 1 + 1 < L.length) (hL : (L.set (k + 1) (some (.long x))).set (k + 1 + 1) none = L2) (hy : L[k]? = some y) : wp d p Q pc L (.long x :: st) σ ↔ gPv y = true ∧ wp d p Q (pc + n) (L2) (st) (σ) := (wp_op hp).trans (by unfold o_lstore; simp only [gPrev_pv hy, hl, hL, and_true]; by_cases h : gPv y = true <;> simp [h, wk])
theorem w_iinc {d : Nat} {p : List (Nat × gO)} {Q : Option Value → gS → Prop} {pc : Nat} {L : gL} {st : List Value} {σ : gS} {k : Nat} {v x : Int32} {L2 : gL} {y : Option Value} (hp : gFind p pc = some (o_iinc (k + 1) v)) (hx : L[k + 1]? = some (some (.int x))) (hL : L.set (k + 1) (some (.int (x + v))) = L2) (hy : L[k]? = some y) : wp d p Q pc L st σ ↔ gPv y = true ∧ wp d p Q (pc + 3) (L2) (st) (σ) := (wp_op hp).trans (by unfold o_iinc; rw [hx]; simp only [gPrev_pv hy, hL]; by_cases h : gPv y = true <;> simp [h, wk])
theorem w_iinc0 {d : Nat} {p : List (Nat × gO)} {Q : Option Value → gS → Prop} {pc : Nat} {L : gL} {st : List Value} {σ : gS} {v x : Int32} {L2 : gL} (hp : gFind p pc = some (o_iinc 0 v)) (hx : L[0]? = some (some (.int x))) (hL : L.set 0 (some (.int (x + v))) = L2) : wp d p Q pc L st σ ↔ wp d p Q (pc + 3) (L2) (st) (σ) := (wp_op hp).trans (by unfold o_iinc; rw [hx]; simp only [gPrev, hL, if_true]; exact Iff.rfl)
theorem w_bI {d : Nat} {p : List (Nat × gO)} {Q : Option Value → gS → Prop} {pc : Nat} {L : gL} {st : List Value} {σ : gS} {f : Int32 → Int32 → Int32} {x y : Int32} (hp : gFind p pc = some (o_bI f))  : wp d p Q pc L (.int y :: .int x :: st) σ ↔ wp d p Q (pc + 1) (L) (.int (f x y) :: st) (σ) := (wp_op hp).trans (Iff.rfl)
theorem w_bId {d : Nat} {p : List (Nat × gO)} {Q : Option Value → gS → Prop} {pc : Nat} {L : gL} {st : List Value} {σ : gS} {f : Int32 → Int32 → Int32} {x y : Int32} (hp : gFind p pc = some (o_bId f))  : wp d p Q pc L (.int y :: .int x :: st) σ ↔ ¬ y = 0 ∧ wp d p Q (pc + 1) (L) (.int (f x y) :: st) (σ) := (wp_op hp).trans (by unfold o_bId; by_cases h : y = 0 <;> simp [h, wk])
theorem w_uI {d : Nat} {p : List (Nat × gO)} {Q : Option Value → gS → Prop} {pc : Nat} {L : gL} {st : List Value} {σ : gS} {f : Int32 → Int32} {x : Int32} (hp : gFind p pc = some (o_uI f))  : wp d p Q pc L (.int x :: st) σ ↔ wp d p Q (pc + 1) (L) (.int (f x) :: st) (σ) := (wp_op hp).trans (Iff.rfl)
theorem w_bJ {d : Nat} {p : List (Nat × gO)} {Q : Option Value → gS → Prop} {pc : Nat} {L : gL} {st : List Value} {σ : gS} {f : Int64 → Int64 → Int64} {x y : Int64} (hp : gFind p pc = some (o_bJ f))  : wp d p Q pc L (.long y :: .long x :: st) σ ↔ wp d p Q (pc + 1) (L) (.long (f x y) :: st) (σ) := (wp_op hp).trans (Iff.rfl)
theorem w_bJd {d : Nat} {p : List (Nat × gO)} {Q : Option Value → gS → Prop} {pc : Nat} {L : gL} {st : List Value} {σ : gS} {f : Int64 → Int64 → Int64} {x y : Int64} (hp : gFind p pc = some (o_bJd f))  : wp d p Q pc L (.long y :: .long x :: st) σ ↔ ¬ y = 0 ∧ wp d p Q (pc + 1) (L) (.long (f x y) :: st) (σ) := (wp_op hp).trans (by unfold o_bJd; by_cases h : y = 0 <;> simp [h, wk])
theorem w_mI {d : Nat} {p : List (Nat × gO)} {Q : Option Value → gS → Prop} {pc : Nat} {L : gL} {st : List Value} {σ : gS} {f : Int32 → Int32 → Int32} {x y : Int32} (hp : gFind p pc = some (o_mI f))  : wp d p Q pc L (.int y :: .int x :: st) σ ↔ st.length ≤ 4 ∧ wp d p Q (pc + 3) (L) (.int (f x y) :: st) (σ) := (wp_op hp).trans (wk_if)
theorem w_mJ {d : Nat} {p : List (Nat × gO)} {Q : Option Value → gS → Prop} {pc : Nat} {L : gL} {st : List Value} {σ : gS} {f : Int64 → Int64 → Int64} {x y : Int64} (hp : gFind p pc = some (o_mJ f))  : wp d p Q pc L (.long y :: .long x :: st) σ ↔ st.length ≤ 4 ∧ wp d p Q (pc + 3) (L) (.long (f x y) :: st) (σ) := (wp_op hp).trans (wk_if)
theorem w_lcmp {d : Nat} {p : List (Nat × gO)} {Q : Option Value → gS → Prop} {pc : Nat} {L : gL} {st : List Value} {σ : gS} {x y : Int64} (hp : gFind p pc = some (o_lcmp))  : wp d p Q pc L (.long y :: .long x :: st) σ ↔ wp d p Q (pc + 1) (L) (.int (lg_cmp x y) :: st) (σ) := (wp_op hp).trans (Iff.rfl)
theorem w_i2l {d : Nat} {p : List (Nat × gO)} {Q : Option Value → gS → Prop} {pc : Nat} {L : gL} {st : List Value} {σ : gS} {x : Int32} (hp : gFind p pc = some (o_i2l))  : wp d p Q pc L (.int x :: st) σ ↔ wp d p Q (pc + 1) (L) (.long x.toInt64 :: st) (σ) := (wp_op hp).trans (Iff.rfl)
theorem w_l2i {d : Nat} {p : List (Nat × gO)} {Q : Option Value → gS → Prop} {pc : Nat} {L : gL} {st : List Value} {σ : gS} {x : Int64} (hp : gFind p pc = some (o_l2i))  : wp d p Q pc L (.long x :: st) σ ↔ wp d p Q (pc + 1) (L) (.int x.toInt32 :: st) (σ) := (wp_op hp).trans (Iff.rfl)
theorem w_dupI {d : Nat} {p : List (Nat × gO)} {Q : Option Value → gS → Prop} {pc : Nat} {L : gL} {st : List Value} {σ : gS} {x : Int32} (hp : gFind p pc = some (o_dup))  : wp d p Q pc L (.int x :: st) σ ↔ wp d p Q (pc + 1) (L) (.int x :: .int x :: st) (σ) := (wp_op hp).trans (Iff.rfl)
theorem w_dupR {d : Nat} {p : List (Nat × gO)} {Q : Option Value → gS → Prop} {pc : Nat} {L : gL} {st : List Value} {σ : gS} {x : Nat} (hp : gFind p pc = some (o_dup))  : wp d p Q pc L (.ref x :: st) σ ↔ wp d p Q (pc + 1) (L) (.ref x :: .ref x :: st) (σ) := (wp_op hp).trans (Iff.rfl)
theorem w_dup2 {d : Nat} {p : List (Nat × gO)} {Q : Option Value → gS → Prop} {pc : Nat} {L : gL} {st : List Value} {σ : gS} {x : Int32} {y : Nat} (hp : gFind p pc = some (o_dup2))  : wp d p Q pc L (.int x :: .ref y :: st) σ ↔ wp d p Q (pc + 1) (L) (.int x :: .ref y :: .int x :: .ref y :: st) (σ) := (wp_op hp).trans (Iff.rfl)
theorem w_popI {d : Nat} {p : List (Nat × gO)} {Q : Option Value → gS → Prop} {pc : Nat} {L : gL} {st : List Value} {σ : gS} {x : Int32} (hp : gFind p pc = some (o_pop))  : wp d p Q pc L (.int x :: st) σ ↔ wp d p Q (pc + 1) (L) (st) (σ) := (wp_op hp).trans (Iff.rfl)
theorem w_popR {d : Nat} {p : List (Nat × gO)} {Q : Option Value → gS → Prop} {pc : Nat} {L : gL} {st : List Value} {σ : gS} {x : Nat} (hp : gFind p pc = some (o_pop))  : wp d p Q pc L (.ref x :: st) σ ↔ wp d p Q (pc + 1) (L) (st) (σ) := (wp_op hp).trans (Iff.rfl)
theorem w_if {d : Nat} {p : List (Nat × gO)} {Q : Option Value → gS → Prop} {pc : Nat} {L : gL} {st : List Value} {σ : gS} {f : Int32 → Bool} {tgt : Nat} {x : Int32} {C : Prop} (hp : gFind p pc = some (o_if f tgt)) (hC : f x = true ↔ C) : wp d p Q pc L (.int x :: st) σ ↔ (C → wp d p Q (tgt) (L) (st) (σ)) ∧ (¬ C → wp d p Q (pc + 3) (L) (st) (σ)) := (wp_op hp).trans (by unfold o_if; rw [← hC]; by_cases h : f x = true <;> simp [h, wk])
theorem w_icmp {d : Nat} {p : List (Nat × gO)} {Q : Option Value → gS → Prop} {pc : Nat} {L : gL} {st : List Value} {σ : gS} {f : Int32 → Int32 → Bool} {tgt : Nat} {x y : Int32} {C : Prop} (hp : gFind p pc = some (o_icmp f tgt)) (hC : f x y = true ↔ C) : wp d p Q pc L (.int y :: .int x :: st) σ ↔ (C → wp d p Q (tgt) (L) (st) (σ)) ∧ (¬ C → wp d p Q (pc + 3) (L) (st) (σ)) := (wp_op hp).trans (by unfold o_icmp; rw [← hC]; by_cases h : f x y = true <;> simp [h, wk])
theorem w_goto {d : Nat} {p : List (Nat × gO)} {Q : Option Value → gS → Prop} {pc : Nat} {L : gL} {st : List Value} {σ : gS} {tgt : Nat} (hp : gFind p pc = some (o_goto tgt))  : wp d p Q pc L st σ ↔ wp d p Q (tgt) (L) (st) (σ) := (wp_op hp).trans (Iff.rfl)
theorem w_tsw {d : Nat} {p : List (Nat × gO)} {Q : Option Value → gS → Prop} {pc : Nat} {L : gL} {st : List Value} {σ : gS} {lo hi : Int} {tg : List Nat} {df : Nat} {x : Int32} (hp : gFind p pc = some (o_tsw lo hi tg df)) : wp d p Q pc L (.int x :: st) σ ↔ (x.toInt < lo ∨ hi < x.toInt → wp d p Q (df) (L) (st) (σ)) ∧ (¬ (x.toInt < lo ∨ hi < x.toInt) → ∃ q, tg[(x.toInt - lo).toNat]? = some q ∧ wp d p Q (q) (L) (st) (σ)) := (wp_op hp).trans (by
  unfold o_tsw
  by_cases h : x.toInt < lo ∨ hi < x.toInt
  · simp [h, wk]
  · simp only [h, if_false, false_imp_iff, not_false_iff, true_imp_iff, true_and]
    cases tg[(x.toInt - lo).toNat]? <;> simp [wk])
theorem w_ifnullR {d : Nat} {p : List (Nat × gO)} {Q : Option Value → gS → Prop} {pc : Nat} {L : gL} {st : List Value} {σ : gS} {tgt x : Nat} (hp : gFind p pc = some (o_ifnull tgt))  : wp d p Q pc L (.ref x :: st) σ ↔ wp d p Q (pc + 3) (L) (st) (σ) := (wp_op hp).trans (Iff.rfl)
theorem w_ifnullN {d : Nat} {p : List (Nat × gO)} {Q : Option Value → gS → Prop} {pc : Nat} {L : gL} {st : List Value} {σ : gS} {tgt : Nat} (hp : gFind p pc = some (o_ifnull tgt))  : wp d p Q pc L (.null :: st) σ ↔ wp d p Q (tgt) (L) (st) (σ) := (wp_op hp).trans (Iff.rfl)
theorem w_ifnonnullR {d : Nat} {p : List (Nat × gO)} {Q : Option Value → gS → Prop} {pc : Nat} {L : gL} {st : List Value} {σ : gS} {tgt x : Nat} (hp : gFind p pc = some (o_ifnonnull tgt))  : wp d p Q pc L (.ref x :: st) σ ↔ wp d p Q (tgt) (L) (st) (σ) := (wp_op hp).trans (Iff.rfl)
theorem w_ifnonnullN {d : Nat} {p : List (Nat × gO)} {Q : Option Value → gS → Prop} {pc : Nat} {L : gL} {st : List Value} {σ : gS} {tgt : Nat} (hp : gFind p pc = some (o_ifnonnull tgt))  : wp d p Q pc L (.null :: st) σ ↔ wp d p Q (pc + 3) (L) (st) (σ) := (wp_op hp).trans (Iff.rfl)
theorem w_getI {d : Nat} {p : List (Nat × gO)} {Q : Option Value → gS → Prop} {pc : Nat} {L : gL} {st : List Value} {σ : gS} {c k a : Nat} (hp : gFind p pc = some (o_getI c k))  : wp d p Q pc L (.ref a :: st) σ ↔ gK σ a = c + 1 ∧ wp d p Q (pc + 3) (L) (.int (gI σ a k) :: st) (σ) := (wp_op hp).trans (wk_if)
theorem w_getJ {d : Nat} {p : List (Nat × gO)} {Q : Option Value → gS → Prop} {pc : Nat} {L : gL} {st : List Value} {σ : gS} {c k a : Nat} (hp : gFind p pc = some (o_getJ c k))  : wp d p Q pc L (.ref a :: st) σ ↔ gK σ a = c + 1 ∧ wp d p Q (pc + 3) (L) (.long (gJ σ a k) :: st) (σ) := (wp_op hp).trans (wk_if)
theorem w_getR {d : Nat} {p : List (Nat × gO)} {Q : Option Value → gS → Prop} {pc : Nat} {L : gL} {st : List Value} {σ : gS} {c k a : Nat} (hp : gFind p pc = some (o_getR c k))  : wp d p Q pc L (.ref a :: st) σ ↔ gK σ a = c + 1 ∧ ∃ q, gR σ a k = some q ∧ wp d p Q (pc + 3) (L) (.ref q :: st) (σ) := (wp_op hp).trans (wk_if.trans (and_congr Iff.rfl wk_opt))
theorem w_sval {d : Nat} {p : List (Nat × gO)} {Q : Option Value → gS → Prop} {pc : Nat} {L : gL} {st : List Value} {σ : gS} {a j : Nat} (hp : gFind p pc = some (o_sval)) (hF : gFs σ a = some j) : wp d p Q pc L (.ref a :: st) σ ↔ wp d p Q (pc + 3) (L) (.ref (gT σ (16 + j)) :: st) (σ) := (wp_op hp).trans (by show wk d p Q pc L σ (match gFs σ a with | some j => some (.inl (pc + 3, L, .ref (gT σ (16 + j)) :: st, σ)) | none => none) ↔ _; rw [hF]; exact Iff.rfl)
theorem w_scod {d : Nat} {p : List (Nat × gO)} {Q : Option Value → gS → Prop} {pc : Nat} {L : gL} {st : List Value} {σ : gS} {a j : Nat} (hp : gFind p pc = some (o_scod)) (hF : gFs σ a = some j) : wp d p Q pc L (.ref a :: st) σ ↔ wp d p Q (pc + 3) (L) (.int 0 :: st) (σ) := (wp_op hp).trans (by show wk d p Q pc L σ (match gFs σ a with | some _ => some (.inl (pc + 3, L, .int 0 :: st, σ)) | none => none) ↔ _; rw [hF]; exact Iff.rfl)
theorem w_putI {d : Nat} {p : List (Nat × gO)} {Q : Option Value → gS → Prop} {pc : Nat} {L : gL} {st : List Value} {σ : gS} {c k a : Nat} {x : Int32} (hp : gFind p pc = some (o_putI c k))  : wp d p Q pc L (.int x :: .ref a :: st) σ ↔ gK σ a = c + 1 ∧ wp d p Q (pc + 3) (L) (st) (sI σ a k x) := (wp_op hp).trans (wk_if)
theorem w_putZ {d : Nat} {p : List (Nat × gO)} {Q : Option Value → gS → Prop} {pc : Nat} {L : gL} {st : List Value} {σ : gS} {c k a : Nat} {x : Int32} (hp : gFind p pc = some (o_putZ c k))  : wp d p Q pc L (.int x :: .ref a :: st) σ ↔ (gK σ a = c + 1 ∧ (x = 0 ∨ x = 1)) ∧ wp d p Q (pc + 3) (L) (st) (sI σ a k x) := (wp_op hp).trans (wk_if)
theorem w_putJ {d : Nat} {p : List (Nat × gO)} {Q : Option Value → gS → Prop} {pc : Nat} {L : gL} {st : List Value} {σ : gS} {c k a : Nat} {x : Int64} (hp : gFind p pc = some (o_putJ c k))  : wp d p Q pc L (.long x :: .ref a :: st) σ ↔ gK σ a = c + 1 ∧ wp d p Q (pc + 3) (L) (st) (sJ σ a k x) := (wp_op hp).trans (wk_if)
theorem w_putR {d : Nat} {p : List (Nat × gO)} {Q : Option Value → gS → Prop} {pc : Nat} {L : gL} {st : List Value} {σ : gS} {c k a x : Nat} (hp : gFind p pc = some (o_putR c k))  : wp d p Q pc L (.ref x :: .ref a :: st) σ ↔ gK σ a = c + 1 ∧ wp d p Q (pc + 3) (L) (st) (sR σ a k (some x)) := (wp_op hp).trans (wk_if)
theorem w_iald {d : Nat} {p : List (Nat × gO)} {Q : Option Value → gS → Prop} {pc : Nat} {L : gL} {st : List Value} {σ : gS} {a : Nat} {i : Int32}  (hp : gFind p pc = some (o_iald))  : wp d p Q pc L (.int i :: .ref a :: st) σ ↔ ((gK σ a = 21 ∨ gK σ a = 26) ∧ ¬ i < 0 ∧ i.toNatClampNeg < gN σ a) ∧ wp d p Q (pc + 1) (L) (.int (gI σ a i.toNatClampNeg) :: st) (σ) := (wp_op hp).trans (wk_if)
theorem w_bald {d : Nat} {p : List (Nat × gO)} {Q : Option Value → gS → Prop} {pc : Nat} {L : gL} {st : List Value} {σ : gS} {a : Nat} {i : Int32} (hp : gFind p pc = some (o_bald)) (hK : gK σ a = 20 ∨ gK σ a = 23) : wp d p Q pc L (.int i :: .ref a :: st) σ ↔ (¬ i < 0 ∧ i.toNatClampNeg < gN σ a) ∧ wp d p Q (pc + 1) (L) (.int (gI σ a i.toNatClampNeg) :: st) (σ) := (wp_op hp).trans (by
  show wk d p Q pc L σ (if (gK σ a = 20 ∨ gK σ a = 23) ∧ ¬ i < 0 ∧ i.toNatClampNeg < gN σ a then _ else (match gFw σ a with | some j => if gK σ a = 0 ∧ ¬ i < 0 ∧ i.toNatClampNeg < gSl j then _ else none | none => none)) ↔ _
  have hz : ¬ gK σ a = 0 := by omega
  by_cases h : ¬ i < 0 ∧ i.toNatClampNeg < gN σ a
  · rw [if_pos ⟨hK, h⟩]; exact ⟨fun z => ⟨h, z⟩, fun z => z.2⟩
  · rw [if_neg (fun z => h z.2)]
    refine ⟨fun z => ?_, fun z => absurd z.1 h⟩
    cases hG : gFw σ a with
    | none => rw [hG] at z; exact False.elim z
    | some j =>
      rw [hG] at z
      have z2 : wk d p Q pc L σ (if gK σ a = 0 ∧ ¬ i < 0 ∧ i.toNatClampNeg < gSl j then some (.inl (pc + 1, L, .int (gSb j i.toNatClampNeg) :: st, σ)) else none) := z
      rw [if_neg (fun h => hz h.1)] at z2
      exact False.elim z2)
theorem w_baldS {d : Nat} {p : List (Nat × gO)} {Q : Option Value → gS → Prop} {pc : Nat} {L : gL} {st : List Value} {σ : gS} {a j : Nat} {i : Int32} (hp : gFind p pc = some (o_bald)) (hK : gK σ a = 0) (hF : gFw σ a = some j) : wp d p Q pc L (.int i :: .ref a :: st) σ ↔ (¬ i < 0 ∧ i.toNatClampNeg < gSl j) ∧ wp d p Q (pc + 1) (L) (.int (gSb j i.toNatClampNeg) :: st) (σ) := (wp_op hp).trans (by
  show wk d p Q pc L σ (if (gK σ a = 20 ∨ gK σ a = 23) ∧ ¬ i < 0 ∧ i.toNatClampNeg < gN σ a then some (.inl (pc + 1, L, .int (gI σ a i.toNatClampNeg) :: st, σ)) else (match gFw σ a with | some j => if gK σ a = 0 ∧ ¬ i < 0 ∧ i.toNatClampNeg < gSl j then some (.inl (pc + 1, L, .int (gSb j i.toNatClampNeg) :: st, σ)) else none | none => none)) ↔ _
  rw [if_neg (fun z => by omega), hF]
  exact wk_if.trans (and_congr ⟨fun z => z.2, fun z => ⟨hK, z⟩⟩ Iff.rfl))
theorem w_lald {d : Nat} {p : List (Nat × gO)} {Q : Option Value → gS → Prop} {pc : Nat} {L : gL} {st : List Value} {σ : gS} {a : Nat} {i : Int32}  (hp : gFind p pc = some (o_lald))  : wp d p Q pc L (.int i :: .ref a :: st) σ ↔ ((gK σ a = 22) ∧ ¬ i < 0 ∧ i.toNatClampNeg < gN σ a) ∧ wp d p Q (pc + 1) (L) (.long (gJ σ a i.toNatClampNeg) :: st) (σ) := (wp_op hp).trans (wk_if)
theorem w_iast {d : Nat} {p : List (Nat × gO)} {Q : Option Value → gS → Prop} {pc : Nat} {L : gL} {st : List Value} {σ : gS} {a : Nat} {i : Int32} {x : Int32} (hp : gFind p pc = some (o_iast))  : wp d p Q pc L (.int x :: .int i :: .ref a :: st) σ ↔ ((gK σ a = 21) ∧ ¬ i < 0 ∧ i.toNatClampNeg < gN σ a) ∧ wp d p Q (pc + 1) (L) (st) (sI σ a i.toNatClampNeg x) := (wp_op hp).trans (wk_if)
theorem w_last {d : Nat} {p : List (Nat × gO)} {Q : Option Value → gS → Prop} {pc : Nat} {L : gL} {st : List Value} {σ : gS} {a : Nat} {i : Int32} {x : Int64} (hp : gFind p pc = some (o_last))  : wp d p Q pc L (.long x :: .int i :: .ref a :: st) σ ↔ ((gK σ a = 22) ∧ ¬ i < 0 ∧ i.toNatClampNeg < gN σ a) ∧ wp d p Q (pc + 1) (L) (st) (sJ σ a i.toNatClampNeg x) := (wp_op hp).trans (wk_if)
theorem w_aald {d : Nat} {p : List (Nat × gO)} {Q : Option Value → gS → Prop} {pc : Nat} {L : gL} {st : List Value} {σ : gS} {a : Nat} {i : Int32} (hp : gFind p pc = some (o_aald))  : wp d p Q pc L (.int i :: .ref a :: st) σ ↔ ((gK σ a = 24 ∨ gK σ a = 25) ∧ ¬ i < 0 ∧ i.toNatClampNeg < gN σ a) ∧ (∀ q, gR σ a i.toNatClampNeg = some q → wp d p Q (pc + 1) (L) (.ref q :: st) (σ)) ∧ (gR σ a i.toNatClampNeg = none → wp d p Q (pc + 1) (L) (.null :: st) (σ)) := (wp_op hp).trans (wk_if.trans (and_congr Iff.rfl wk_opt2))
theorem w_bastB {d : Nat} {p : List (Nat × gO)} {Q : Option Value → gS → Prop} {pc : Nat} {L : gL} {st : List Value} {σ : gS} {a : Nat} {i x : Int32} (hp : gFind p pc = some (o_bast)) (hK : gK σ a = 20) : wp d p Q pc L (.int x :: .int i :: .ref a :: st) σ ↔ (¬ i < 0 ∧ i.toNatClampNeg < gN σ a) ∧ wp d p Q (pc + 1) (L) (st) (sI σ a i.toNatClampNeg x.toInt8.toInt32) := (wp_op hp).trans (by
  show wk d p Q pc L σ (if gK σ a = 20 ∧ ¬ i < 0 ∧ i.toNatClampNeg < gN σ a then _ else if gK σ a = 23 ∧ ¬ i < 0 ∧ i.toNatClampNeg < gN σ a then _ else none) ↔ _
  by_cases h : ¬ i < 0 ∧ i.toNatClampNeg < gN σ a
  · rw [if_pos ⟨hK, h⟩]; exact ⟨fun z => ⟨h, z⟩, fun z => z.2⟩
  · rw [if_neg (fun z => h z.2), if_neg (fun z => h z.2)]; exact ⟨fun z => z.elim, fun z => absurd z.1 h⟩)
theorem w_bastZ {d : Nat} {p : List (Nat × gO)} {Q : Option Value → gS → Prop} {pc : Nat} {L : gL} {st : List Value} {σ : gS} {a : Nat} {i x : Int32} (hp : gFind p pc = some (o_bast)) (hK : gK σ a = 23) : wp d p Q pc L (.int x :: .int i :: .ref a :: st) σ ↔ (¬ i < 0 ∧ i.toNatClampNeg < gN σ a) ∧ wp d p Q (pc + 1) (L) (st) (sI σ a i.toNatClampNeg (vp_nar .boolean x)) := (wp_op hp).trans (by
  show wk d p Q pc L σ (if gK σ a = 20 ∧ ¬ i < 0 ∧ i.toNatClampNeg < gN σ a then _ else if gK σ a = 23 ∧ ¬ i < 0 ∧ i.toNatClampNeg < gN σ a then _ else none) ↔ _
  rw [if_neg (fun z => by omega)]
  by_cases h : ¬ i < 0 ∧ i.toNatClampNeg < gN σ a
  · rw [if_pos ⟨hK, h⟩]; exact ⟨fun z => ⟨h, z⟩, fun z => z.2⟩
  · rw [if_neg (fun z => h z.2)]; exact ⟨fun z => z.elim, fun z => absurd z.1 h⟩)
theorem w_aastR {d : Nat} {p : List (Nat × gO)} {Q : Option Value → gS → Prop} {pc : Nat} {L : gL} {st : List Value} {σ : gS} {a x : Nat} {i : Int32} (hp : gFind p pc = some (o_aast))  : wp d p Q pc L (.ref x :: .int i :: .ref a :: st) σ ↔ (((gK σ a = 24 ∧ gK σ x = 4) ∨ (gK σ a = 25 ∧ gK σ x = 11)) ∧ ¬ i < 0 ∧ i.toNatClampNeg < gN σ a) ∧ wp d p Q (pc + 1) (L) (st) (sR σ a i.toNatClampNeg (some x)) := (wp_op hp).trans (wk_if)
theorem w_aastN {d : Nat} {p : List (Nat × gO)} {Q : Option Value → gS → Prop} {pc : Nat} {L : gL} {st : List Value} {σ : gS} {a : Nat} {i : Int32} (hp : gFind p pc = some (o_aast))  : wp d p Q pc L (.null :: .int i :: .ref a :: st) σ ↔ ((gK σ a = 24 ∨ gK σ a = 25) ∧ ¬ i < 0 ∧ i.toNatClampNeg < gN σ a) ∧ wp d p Q (pc + 1) (L) (st) (sR σ a i.toNatClampNeg none) := (wp_op hp).trans (wk_if)
theorem w_alen {d : Nat} {p : List (Nat × gO)} {Q : Option Value → gS → Prop} {pc : Nat} {L : gL} {st : List Value} {σ : gS} {a : Nat} (hp : gFind p pc = some (o_alen)) (hK : 20 ≤ gK σ a ∧ gK σ a < 27) : wp d p Q pc L (.ref a :: st) σ ↔ wp d p Q (pc + 1) (L) (.int (Int32.ofNat (gN σ a)) :: st) (σ) := (wp_op hp).trans (by show wk d p Q pc L σ (if 20 ≤ gK σ a ∧ gK σ a < 27 then some (.inl (pc + 1, L, .int (Int32.ofNat (gN σ a)) :: st, σ)) else _) ↔ _; rw [if_pos hK]; exact Iff.rfl)
theorem w_alenS {d : Nat} {p : List (Nat × gO)} {Q : Option Value → gS → Prop} {pc : Nat} {L : gL} {st : List Value} {σ : gS} {a j : Nat} (hp : gFind p pc = some (o_alen)) (hK : gK σ a = 0) (hF : gFw σ a = some j) : wp d p Q pc L (.ref a :: st) σ ↔ wp d p Q (pc + 1) (L) (.int (Int32.ofNat (gSl j)) :: st) (σ) := (wp_op hp).trans (by show wk d p Q pc L σ (if 20 ≤ gK σ a ∧ gK σ a < 27 then _ else (match gFw σ a with | some j => some (.inl (pc + 1, L, .int (Int32.ofNat (gSl j)) :: st, σ)) | none => none)) ↔ _; rw [if_neg (fun z => by omega), hF]; exact Iff.rfl)
theorem w_newa {d : Nat} {p : List (Nat × gO)} {Q : Option Value → gS → Prop} {pc : Nat} {L : gL} {st : List Value} {σ : gS} {k : Nat} {n : Int32} (hp : gFind p pc = some (o_newa k))  : wp d p Q pc L (.int n :: st) σ ↔ (¬ n < 0 ∧ n.toNatClampNeg ≤ 1000000) ∧ wp d p Q (pc + 2) (L) (.ref (gn σ) :: st) (sNw σ k n.toNatClampNeg n.toNatClampNeg) := (wp_op hp).trans (wk_if)
theorem w_newq {d : Nat} {p : List (Nat × gO)} {Q : Option Value → gS → Prop} {pc : Nat} {L : gL} {st : List Value} {σ : gS} {k : Nat} {n : Int32} (hp : gFind p pc = some (o_newq k))  : wp d p Q pc L (.int n :: st) σ ↔ (¬ n < 0 ∧ n.toNatClampNeg ≤ 1000000) ∧ wp d p Q (pc + 3) (L) (.ref (gn σ) :: st) (sNw σ k n.toNatClampNeg n.toNatClampNeg) := (wp_op hp).trans (wk_if)
theorem w_new {d : Nat} {p : List (Nat × gO)} {Q : Option Value → gS → Prop} {pc : Nat} {L : gL} {st : List Value} {σ : gS} {c w0 : Nat} (hp : gFind p pc = some (o_new c w0))  : wp d p Q pc L st σ ↔ wp d p Q (pc + 3) (L) (.ref (gn σ) :: st) (sNw σ (c + 1) 0 w0) := (wp_op hp).trans (Iff.rfl)
theorem w_fmt0 {d : Nat} {p : List (Nat × gO)} {Q : Option Value → gS → Prop} {pc : Nat} {L : gL} {st : List Value} {σ : gS}  (hp : gFind p pc = some (o_fmt)) (hT : gT σ 15 = 0) : wp d p Q pc L st σ ↔ wp d p Q (pc + 3) (L) (.null :: st) (σ) := (wp_op hp).trans (by unfold o_fmt; rw [hT]; exact Iff.rfl)
theorem w_fmt1 {d : Nat} {p : List (Nat × gO)} {Q : Option Value → gS → Prop} {pc : Nat} {L : gL} {st : List Value} {σ : gS} {t : Nat} (hp : gFind p pc = some (o_fmt)) (hT : gT σ 15 = t + 1) : wp d p Q pc L st σ ↔ wp d p Q (pc + 3) (L) (.ref t :: st) (σ) := (wp_op hp).trans (by unfold o_fmt; rw [hT]; exact Iff.rfl)
theorem w_clone {d : Nat} {p : List (Nat × gO)} {Q : Option Value → gS → Prop} {pc : Nat} {L : gL} {st : List Value} {σ : gS} {a : Nat} (hp : gFind p pc = some (o_clone))  : wp d p Q pc L (.ref a :: st) σ ↔ (gK σ a = 21 ∧ st.length ≤ 4) ∧ wp d p Q (pc + 3) (L) (.ref (gn σ) :: st) (sIr (sNw σ 21 (gN σ a) (gN σ a)) (gn σ) (gI σ a)) := (wp_op hp).trans (wk_if)
theorem w_cast {d : Nat} {p : List (Nat × gO)} {Q : Option Value → gS → Prop} {pc : Nat} {L : gL} {st : List Value} {σ : gS} {a : Nat} (hp : gFind p pc = some (o_cast))  : wp d p Q pc L (.ref a :: st) σ ↔ gK σ a = 21 ∧ wp d p Q (pc + 3) (L) (.ref a :: st) (σ) := (wp_op hp).trans (wk_if)
theorem w_copy {d : Nat} {p : List (Nat × gO)} {Q : Option Value → gS → Prop} {pc : Nat} {L : gL} {st : List Value} {σ : gS} {a a0 : Nat} {n dp sp : Int32} (hp : gFind p pc = some (o_copy))  : wp d p Q pc L (.int n :: .int dp :: .ref a :: .int sp :: .ref a0 :: st) σ ↔ ((gK σ a0 = 21 ∧ gK σ a = 21 ∧ st.length ≤ 4) ∧ (¬ sp < 0 ∧ ¬ dp < 0 ∧ ¬ n < 0) ∧ sp.toNatClampNeg + n.toNatClampNeg ≤ gN σ a0 ∧ dp.toNatClampNeg + n.toNatClampNeg ≤ gN σ a) ∧ wp d p Q (pc + 3) (L) (st) (sIr σ a (va_cpy (gI σ a0) (gI σ a) sp.toNatClampNeg dp.toNatClampNeg n.toNatClampNeg)) := (wp_op hp).trans (wk_if)
theorem w_obj {d : Nat} {p : List (Nat × gO)} {Q : Option Value → gS → Prop} {pc : Nat} {L : gL} {st : List Value} {σ : gS} {a : Nat} (hp : gFind p pc = some (o_obj))  : wp d p Q pc L (.ref a :: st) σ ↔ st.length ≤ 4 ∧ wp d p Q (pc + 3) (L) (st) (σ) := (wp_op hp).trans (wk_if)
theorem w_callS {d : Nat} {p : List (Nat × gO)} {Q : Option Value → gS → Prop} {pc : Nat} {L : gL} {st : List Value} {σ : gS} {j n : Nat} {As rest : List Value} (hp : gFind p pc = some (o_callS j n)) (h1 : n ≤ st.length) (h2 : (st.take n).reverse = As) (h3 : st.drop n = rest) : wp d p Q pc L st σ ↔ rest.length ≤ 4 ∧ wc d j As σ (fun r τ => wp d p Q (pc + 3) L (r.toList ++ rest) τ) := (wp_op hp).trans (by subst h2; subst h3; unfold o_callS; by_cases h : (st.drop n).length ≤ 4 <;> simp only [h, h1, and_self, and_true, and_false, true_and, false_and, if_true, if_false, wk])
theorem w_callI {d : Nat} {p : List (Nat × gO)} {Q : Option Value → gS → Prop} {pc : Nat} {L : gL} {st : List Value} {σ : gS} {j n a : Nat} {As rest : List Value} (hp : gFind p pc = some (o_callI j n)) (h1 : n ≤ st.length) (h2 : (st.take n).reverse = As) (h3 : st.drop n = .ref a :: rest) : wp d p Q pc L st σ ↔ rest.length ≤ 4 ∧ wc d j (.ref a :: As) σ (fun r τ => wp d p Q (pc + 3) L (r.toList ++ rest) τ) := (wp_op hp).trans (by subst h2; unfold o_callI; rw [h3]; by_cases h : rest.length ≤ 4 <;> simp only [h, h1, and_self, and_true, and_false, true_and, false_and, if_true, if_false, wk])
theorem w_callV {d : Nat} {p : List (Nat × gO)} {Q : Option Value → gS → Prop} {pc : Nat} {L : gL} {st : List Value} {σ : gS} {j n c a : Nat} {As rest : List Value} (hp : gFind p pc = some (o_callV j n c)) (h1 : n ≤ st.length) (h2 : (st.take n).reverse = As) (h3 : st.drop n = .ref a :: rest) : wp d p Q pc L st σ ↔ (gK σ a = c + 1 ∧ rest.length ≤ 4) ∧ wc d j (.ref a :: As) σ (fun r τ => wp d p Q (pc + 3) L (r.toList ++ rest) τ) := (wp_op hp).trans (by subst h2; unfold o_callV; rw [h3]; by_cases h : gK σ a = c + 1 ∧ rest.length ≤ 4 <;> simp only [h, h1, and_self, and_true, and_false, true_and, false_and, if_true, if_false, wk])
theorem w_callT {d : Nat} {p : List (Nat × gO)} {Q : Option Value → gS → Prop} {pc : Nat} {L : gL} {st : List Value} {σ : gS} {j n a : Nat} {As rest : List Value} (hp : gFind p pc = some (o_callT j n)) (h1 : n ≤ st.length) (h2 : (st.take n).reverse = As) (h3 : st.drop n = .ref a :: rest) : wp d p Q pc L st σ ↔ ((gFs σ a).isSome = true ∧ rest.length ≤ 4) ∧ wc d j (.ref a :: As) σ (fun r τ => wp d p Q (pc + 3) L (r.toList ++ rest) τ) := (wp_op hp).trans (by subst h2; unfold o_callT; rw [h3]; by_cases h : (gFs σ a).isSome = true ∧ rest.length ≤ 4 <;> simp only [h, h1, and_self, and_true, and_false, true_and, false_and, if_true, if_false, wk])
theorem w_ret {d : Nat} {p : List (Nat × gO)} {Q : Option Value → gS → Prop} {pc : Nat} {L : gL} {σ : gS} (hp : gFind p pc = some o_ret) : wp d p Q pc L [] σ ↔ Q none σ := (wp_op hp).trans Iff.rfl
theorem w_iret {d : Nat} {p : List (Nat × gO)} {Q : Option Value → gS → Prop} {pc : Nat} {L : gL} {σ : gS} {v : Int32} (hp : gFind p pc = some o_iret) : wp d p Q pc L [.int v] σ ↔ Q (some (.int v)) σ := (wp_op hp).trans Iff.rfl
theorem w_lret {d : Nat} {p : List (Nat × gO)} {Q : Option Value → gS → Prop} {pc : Nat} {L : gL} {σ : gS} {v : Int64} (hp : gFind p pc = some o_lret) : wp d p Q pc L [.long v] σ ↔ Q (some (.long v)) σ := (wp_op hp).trans Iff.rfl
theorem w_zret {d : Nat} {p : List (Nat × gO)} {Q : Option Value → gS → Prop} {pc : Nat} {L : gL} {σ : gS} {v : Int32} (hp : gFind p pc = some o_zret) : wp d p Q pc L [.int v] σ ↔ (v = 0 ∨ v = 1) ∧ Q (some (.int v)) σ := (wp_op hp).trans (by unfold o_zret; by_cases h : v = 0 ∨ v = 1 <;> simp only [h, if_true, if_false, wk, true_and, false_and])
theorem w_tret {d : Nat} {p : List (Nat × gO)} {Q : Option Value → gS → Prop} {pc : Nat} {L : gL} {σ : gS} {v : Int32} {ty : FieldType} (hp : gFind p pc = some (o_tret ty)) : wp d p Q pc L [.int v] σ ↔ narrow ty (.int v) = .int v ∧ Q (some (.int v)) σ := (wp_op hp).trans (by unfold o_tret; by_cases h : narrow ty (.int v) = .int v <;> simp only [h, if_true, if_false, wk, true_and, false_and])
theorem w_aretR {d : Nat} {p : List (Nat × gO)} {Q : Option Value → gS → Prop} {pc : Nat} {L : gL} {σ : gS} {v : Nat} (hp : gFind p pc = some o_aret) : wp d p Q pc L [.ref v] σ ↔ Q (some (.ref v)) σ := (wp_op hp).trans Iff.rfl
theorem w_aretN {d : Nat} {p : List (Nat × gO)} {Q : Option Value → gS → Prop} {pc : Nat} {L : gL} {σ : gS} (hp : gFind p pc = some o_aret) : wp d p Q pc L [.null] σ ↔ Q (some .null) σ := (wp_op hp).trans Iff.rfl
