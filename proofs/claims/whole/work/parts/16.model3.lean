-- the reference: challenge
def opB (τ : rS) (x y : Int32) : Nat → Nat → Bool
  | 0, _ => false
  | c + 1, j => decide (τ 8 26 (nI j) < 2 ∧ (τ 8 22 (nI j) = x ∨ τ 8 23 (nI j) = x ∨ τ 8 22 (nI j) = y ∨ τ 8 23 (nI j) = y)) || opB τ x y c (j + 1)
abbrev mchB (τ : rS) (x y : Int32) (mm c : Nat) : Prop := ¬ τ 8 16 0 = 0 ∧ mnB τ x ∧ mnB τ y ∧ ¬ τ 8 21 0 = 40 ∧ ¬ beF τ x 0 mm 0 < 0 ∧ mfB τ y 0 0 (τ 8 15 0 - 1) mm ∧ ¬ opB τ x y c 0 = true
def sCha (τ : rS) (x y p : Int32) : rS := up (up (up (up (up (up (up (up (up τ 8 22 (τ 8 21 0) x) 8 23 (τ 8 21 0) y) 8 24 (τ 8 21 0) p) 8 25 (τ 8 21 0) (τ 8 17 0)) 8 26 (τ 8 21 0) 0) 8 27 (τ 8 21 0) (τ 8 17 0 + τ 8 5 2)) 8 28 (τ 8 21 0) 0) 8 29 (τ 8 21 0) 0) 8 21 0 (τ 8 21 0 + 1)
theorem beF_rng {σ : rS} {m base : Int32} : ∀ c j, j + c ≤ 24 → -1 ≤ beF σ m base c j ∧ beF σ m base c j < 24 := by
  intro c
  induction c with
  | zero => intro j _; exact ⟨by show (-1 : Int32) ≤ -1; decide, by show (-1 : Int32) < 24; decide⟩
  | succ c ih =>
    intro j hj
    obtain ⟨f1, f2, f3, f4⟩ := nI_facts (j := j) 24 (show j < 24 by omega) (Nat.le_refl _) (by decide) rfl
    have e24 : nI 24 = 24 := rfl
    rw [beF]
    split
    · grind
    · exact ih (j + 1) (by omega)
theorem c_X6_challenge {x y : Int32} {τ : rS} {n mm c : Nat} {σ : rS} (hz : up σ 8 2 0 0 = τ) (hn : τ 8 10 0 = nI n) (hn2 : n ≤ 12) (hpl : τ 8 6 0 = nI mm) (hmm : mm ≤ 24) (hc : τ 8 21 0 = nI c) (hc2 : c ≤ 40) : Ct mX6_challenge [.inr (8, 0), .inl x, .inl y] σ (some (.inl (if mchB τ x y mm c then (if ¬ τ 8 19 (24 * y + beF τ x 0 mm 0) = 0 then -3 else τ 8 21 0) else -1))) (if mchB τ x y mm c ∧ τ 8 19 (24 * y + beF τ x 0 mm 0) = 0 then sCha τ x y (beF τ x 0 mm 0) else τ) := by
  refine C_of_E rfl rfl (Nat.le_of_ble_eq_true rfl) ?_
  have f9 := nI_le12 hn2
  have f8 := nI_le40 hc2
  have f7 : 0 ≤ nI c := nI_pos' (by omega)
  have hbr := beF_rng (σ := τ) (m := x) (base := 0) mm 0 (by omega)
  have loop : (¬ τ 8 16 0 = 0 ∧ mnB τ x ∧ mnB τ y ∧ ¬ τ 8 21 0 = 40 ∧ ¬ beF τ x 0 mm 0 < 0 ∧ mfB τ y 0 0 (τ 8 15 0 - 1) mm) → ∀ k j, j + k = c → (opB τ x y c 0 = opB τ x y k j) → E mX6_challenge 71 [.inr (8, 0), .inl x, .inl y, .inl (beF τ x 0 mm 0), .inl (nI j)] [] τ (some (.inl (if mchB τ x y mm c then (if ¬ τ 8 19 (24 * y + beF τ x 0 mm 0) = 0 then -3 else τ 8 21 0) else -1))) (if mchB τ x y mm c ∧ τ 8 19 (24 * y + beF τ x 0 mm 0) = 0 then sCha τ x y (beF τ x 0 mm 0) else τ) := by
    intro hA k
    induction k with
    | zero =>
      intro j hj hop
      have hjn : j = c := by omega
      subst hjn
      have hop2 : opB τ x y j 0 = false := hop
      refine e_iload dX6_challenge_71 rfl ?_
      refine e_aload_n dX6_challenge_73 rfl ?_
      refine e_getI kX6 (by first | assumption | exact ⟨by decide, rfl⟩) (by decide) fX6_165 rfl dX6_challenge_74 ?_
      refine e_icmp_ge (tgt := 141) dX6_challenge_77 (by decide) (fun h77 => ?_) (fun h77 => ?_)
      rotate_left
      · exfalso
        grind
      refine e_aload_n dX6_challenge_141 rfl ?_
      refine e_getA kX6 (by first | assumption | exact ⟨by decide, rfl⟩) (by decide) fX6_44 rfl dX6_challenge_142 ?_
      refine e_bipush (v := 24) dX6_challenge_145 (by decide) ?_
      refine e_iload_n dX6_challenge_147 rfl ?_
      refine e_imul dX6_challenge_148 ?_
      refine e_iload_n dX6_challenge_149 rfl ?_
      refine e_iadd dX6_challenge_150 ?_
      refine e_zald (ci := 6) (by first | assumption | exact ⟨by decide, rfl⟩) rfl (vin 288 (by decide) (by grind)) dX6_challenge_151 ?_
      refine e_if_eq (tgt := 158) dX6_challenge_152 (by decide) (fun h152 => ?_) (fun h152 => ?_)
      ·
        refine e_aload_n dX6_challenge_158 rfl ?_
        refine e_getA kX6 (by first | assumption | exact ⟨by decide, rfl⟩) (by decide) fX6_48 rfl dX6_challenge_159 ?_
        refine e_aload_n dX6_challenge_162 rfl ?_
        refine e_getI kX6 (by first | assumption | exact ⟨by decide, rfl⟩) (by decide) fX6_165 rfl dX6_challenge_163 ?_
        refine e_iload_n dX6_challenge_166 rfl ?_
        refine e_iast (ci := 6) (by first | assumption | exact ⟨by decide, rfl⟩) rfl (vin 40 (by decide) (by grind)) dX6_challenge_167 ?_
        refine e_aload_n dX6_challenge_168 rfl ?_
        refine e_getA kX6 (by first | assumption | exact ⟨by decide, rfl⟩) (by decide) fX6_51 rfl dX6_challenge_169 ?_
        refine e_aload_n dX6_challenge_172 rfl ?_
        refine e_getI kX6 (by first | assumption | exact ⟨by decide, rfl⟩) (by decide) fX6_165 rfl dX6_challenge_173 ?_
        refine e_iload_n dX6_challenge_176 rfl ?_
        refine e_iast (ci := 6) (by first | assumption | exact ⟨by decide, rfl⟩) rfl (vin 40 (by decide) (by simp [up]; grind)) dX6_challenge_177 ?_
        refine e_aload_n dX6_challenge_178 rfl ?_
        refine e_getA kX6 (by first | assumption | exact ⟨by decide, rfl⟩) (by decide) fX6_54 rfl dX6_challenge_179 ?_
        refine e_aload_n dX6_challenge_182 rfl ?_
        refine e_getI kX6 (by first | assumption | exact ⟨by decide, rfl⟩) (by decide) fX6_165 rfl dX6_challenge_183 ?_
        refine e_iload_n dX6_challenge_186 rfl ?_
        refine e_iast (ci := 6) (by first | assumption | exact ⟨by decide, rfl⟩) rfl (vin 40 (by decide) (by simp [up]; grind)) dX6_challenge_187 ?_
        refine e_aload_n dX6_challenge_188 rfl ?_
        refine e_getA kX6 (by first | assumption | exact ⟨by decide, rfl⟩) (by decide) fX6_57 rfl dX6_challenge_189 ?_
        refine e_aload_n dX6_challenge_192 rfl ?_
        refine e_getI kX6 (by first | assumption | exact ⟨by decide, rfl⟩) (by decide) fX6_165 rfl dX6_challenge_193 ?_
        refine e_aload_n dX6_challenge_196 rfl ?_
        refine e_getI kX6 (by first | assumption | exact ⟨by decide, rfl⟩) (by decide) fX6_162 rfl dX6_challenge_197 ?_
        refine e_iast (ci := 6) (by first | assumption | exact ⟨by decide, rfl⟩) rfl (vin 40 (by decide) (by simp [up]; grind)) dX6_challenge_200 ?_
        refine e_aload_n dX6_challenge_201 rfl ?_
        refine e_getA kX6 (by first | assumption | exact ⟨by decide, rfl⟩) (by decide) fX6_60 rfl dX6_challenge_202 ?_
        refine e_aload_n dX6_challenge_205 rfl ?_
        refine e_getI kX6 (by first | assumption | exact ⟨by decide, rfl⟩) (by decide) fX6_165 rfl dX6_challenge_206 ?_
        refine e_iconst (v := 0) dX6_challenge_209 (by decide) ?_
        refine e_iast (ci := 6) (by first | assumption | exact ⟨by decide, rfl⟩) rfl (vin 40 (by decide) (by simp [up]; grind)) dX6_challenge_210 ?_
        refine e_aload_n dX6_challenge_211 rfl ?_
        refine e_getA kX6 (by first | assumption | exact ⟨by decide, rfl⟩) (by decide) fX6_63 rfl dX6_challenge_212 ?_
        refine e_aload_n dX6_challenge_215 rfl ?_
        refine e_getI kX6 (by first | assumption | exact ⟨by decide, rfl⟩) (by decide) fX6_165 rfl dX6_challenge_216 ?_
        refine e_aload_n dX6_challenge_219 rfl ?_
        refine e_getI kX6 (by first | assumption | exact ⟨by decide, rfl⟩) (by decide) fX6_162 rfl dX6_challenge_220 ?_
        refine e_aload_n dX6_challenge_223 rfl ?_
        refine e_getA kX6 (by first | assumption | exact ⟨by decide, rfl⟩) (by decide) fX6_19 rfl dX6_challenge_224 ?_
        refine e_iconst (v := 2) dX6_challenge_227 (by decide) ?_
        refine e_iald (ci := 6) (by first | assumption | exact ⟨by decide, rfl⟩) rfl (vin 8 (by decide) (by decide)) dX6_challenge_228 ?_
        refine e_iadd dX6_challenge_229 ?_
        refine e_iast (ci := 6) (by first | assumption | exact ⟨by decide, rfl⟩) rfl (vin 40 (by decide) (by simp [up]; grind)) dX6_challenge_230 ?_
        refine e_aload_n dX6_challenge_231 rfl ?_
        refine e_getA kX6 (by first | assumption | exact ⟨by decide, rfl⟩) (by decide) fX6_66 rfl dX6_challenge_232 ?_
        refine e_aload_n dX6_challenge_235 rfl ?_
        refine e_getI kX6 (by first | assumption | exact ⟨by decide, rfl⟩) (by decide) fX6_165 rfl dX6_challenge_236 ?_
        refine e_iconst (v := 0) dX6_challenge_239 (by decide) ?_
        refine e_zast (ci := 6) (by first | assumption | exact ⟨by decide, rfl⟩) rfl (vin 40 (by decide) (by simp [up]; grind)) (by first | exact bI_or | simp) dX6_challenge_240 ?_
        refine e_aload_n dX6_challenge_241 rfl ?_
        refine e_getA kX6 (by first | assumption | exact ⟨by decide, rfl⟩) (by decide) fX6_69 rfl dX6_challenge_242 ?_
        refine e_aload_n dX6_challenge_245 rfl ?_
        refine e_getI kX6 (by first | assumption | exact ⟨by decide, rfl⟩) (by decide) fX6_165 rfl dX6_challenge_246 ?_
        refine e_iconst (v := 0) dX6_challenge_249 (by decide) ?_
        refine e_zast (ci := 6) (by first | assumption | exact ⟨by decide, rfl⟩) rfl (vin 40 (by decide) (by simp [up]; grind)) (by first | exact bI_or | simp) dX6_challenge_250 ?_
        refine e_aload_n dX6_challenge_251 rfl ?_
        refine e_dup dX6_challenge_252 ?_
        refine e_getI kX6 (by first | assumption | exact ⟨by decide, rfl⟩) (by decide) fX6_165 rfl dX6_challenge_253 ?_
        refine e_iconst (v := 1) dX6_challenge_256 (by decide) ?_
        refine e_iadd dX6_challenge_257 ?_
        refine e_putI kX6 (by first | assumption | exact ⟨by decide, rfl⟩) (by decide) fX6_165 rfl rfl rfl dX6_challenge_258 ?_
        refine e_aload_n dX6_challenge_261 rfl ?_
        refine e_getI kX6 (by first | assumption | exact ⟨by decide, rfl⟩) (by decide) fX6_165 rfl dX6_challenge_262 ?_
        refine e_iconst (v := 1) dX6_challenge_265 (by decide) ?_
        refine e_isub dX6_challenge_266 ?_
        exact e_ireq rfl rfl dX6_challenge_267 (by first | (simp [up]; grind) | grind) (by first | rw [if_neg (by grind)] | (rw [if_pos (by grind)]; simp [sCha, up]))
      ·
        refine e_bipush (v := -3) dX6_challenge_155 (by decide) ?_
        exact e_ireq rfl rfl dX6_challenge_157 (by first | (simp [up]; grind) | grind) (by first | rw [if_neg (by grind)] | (rw [if_pos (by grind)]; simp [sCha, up]))
    | succ k ih =>
      intro j hj hop
      obtain ⟨g1, g2, g3, g4⟩ := nI_facts (j := j) 40 (show j < c by omega) hc2 (by decide) rfl
      have e1 : opB τ x y (k + 1) j = (decide (τ 8 26 (nI j) < 2 ∧ (τ 8 22 (nI j) = x ∨ τ 8 23 (nI j) = x ∨ τ 8 22 (nI j) = y ∨ τ 8 23 (nI j) = y)) || opB τ x y k (j + 1)) := rfl
      refine e_iload dX6_challenge_71 rfl ?_
      refine e_aload_n dX6_challenge_73 rfl ?_
      refine e_getI kX6 (by first | assumption | exact ⟨by decide, rfl⟩) (by decide) fX6_165 rfl dX6_challenge_74 ?_
      refine e_icmp_ge (tgt := 141) dX6_challenge_77 (by decide) (fun h77 => ?_) (fun h77 => ?_)
      · exfalso
        grind
      refine e_aload_n dX6_challenge_80 rfl ?_
      refine e_iload dX6_challenge_81 rfl ?_
      refine e_V1 oX6_isOpen lX6_182 ⟨Nat.le_of_ble_eq_true rfl, Nat.le_of_ble_eq_true rfl⟩ dX6_challenge_83 (by first | assumption | exact ⟨by decide, rfl⟩) (Nat.le_of_ble_eq_true rfl) (c_X6_isOpen (by grind)) ?_
      refine e_if_eqB (tgt := 135) dX6_challenge_86 (by decide) (fun h86 => ?_) (fun h86 => ?_)
      ·
        refine e_inc (1) (by decide) dX6_challenge_135 rfl (by decide) (Nat.le_of_ble_eq_true rfl) ?_
        refine e_goto (tgt := 71) dX6_challenge_138 (by decide) ?_
        refine e_to (ih (j + 1) (by omega) (by rw [hop, e1, decide_eq_false (by grind), Bool.false_or])) (by first | rfl | (simp [lset]; done) | (simp [lset]; grind)) rfl
      ·
        refine e_aload_n dX6_challenge_89 rfl ?_
        refine e_getA kX6 (by first | assumption | exact ⟨by decide, rfl⟩) (by decide) fX6_48 rfl dX6_challenge_90 ?_
        refine e_iload dX6_challenge_93 rfl ?_
        refine e_iald (ci := 6) (by first | assumption | exact ⟨by decide, rfl⟩) rfl (vin 40 (by decide) (by grind)) dX6_challenge_95 ?_
        refine e_iload_n dX6_challenge_96 rfl ?_
        refine e_icmp_eq (tgt := 133) dX6_challenge_97 (by decide) (fun h97 => ?_) (fun h97 => ?_)
        ·
          have hop1 : opB τ x y c 0 = true := by rw [hop, e1, decide_eq_true (by grind)]; rfl
          refine e_iconst (v := -1) dX6_challenge_133 (by decide) ?_
          exact e_ireq rfl rfl dX6_challenge_134 (by rw [if_neg (by grind)]) (by rw [if_neg (by grind)])
        ·
          refine e_aload_n dX6_challenge_100 rfl ?_
          refine e_getA kX6 (by first | assumption | exact ⟨by decide, rfl⟩) (by decide) fX6_51 rfl dX6_challenge_101 ?_
          refine e_iload dX6_challenge_104 rfl ?_
          refine e_iald (ci := 6) (by first | assumption | exact ⟨by decide, rfl⟩) rfl (vin 40 (by decide) (by grind)) dX6_challenge_106 ?_
          refine e_iload_n dX6_challenge_107 rfl ?_
          refine e_icmp_eq (tgt := 133) dX6_challenge_108 (by decide) (fun h108 => ?_) (fun h108 => ?_)
          ·
            have hop1 : opB τ x y c 0 = true := by rw [hop, e1, decide_eq_true (by grind)]; rfl
            refine e_iconst (v := -1) dX6_challenge_133 (by decide) ?_
            exact e_ireq rfl rfl dX6_challenge_134 (by rw [if_neg (by grind)]) (by rw [if_neg (by grind)])
          ·
            refine e_aload_n dX6_challenge_111 rfl ?_
            refine e_getA kX6 (by first | assumption | exact ⟨by decide, rfl⟩) (by decide) fX6_48 rfl dX6_challenge_112 ?_
            refine e_iload dX6_challenge_115 rfl ?_
            refine e_iald (ci := 6) (by first | assumption | exact ⟨by decide, rfl⟩) rfl (vin 40 (by decide) (by grind)) dX6_challenge_117 ?_
            refine e_iload_n dX6_challenge_118 rfl ?_
            refine e_icmp_eq (tgt := 133) dX6_challenge_119 (by decide) (fun h119 => ?_) (fun h119 => ?_)
            ·
              have hop1 : opB τ x y c 0 = true := by rw [hop, e1, decide_eq_true (by grind)]; rfl
              refine e_iconst (v := -1) dX6_challenge_133 (by decide) ?_
              exact e_ireq rfl rfl dX6_challenge_134 (by rw [if_neg (by grind)]) (by rw [if_neg (by grind)])
            ·
              refine e_aload_n dX6_challenge_122 rfl ?_
              refine e_getA kX6 (by first | assumption | exact ⟨by decide, rfl⟩) (by decide) fX6_51 rfl dX6_challenge_123 ?_
              refine e_iload dX6_challenge_126 rfl ?_
              refine e_iald (ci := 6) (by first | assumption | exact ⟨by decide, rfl⟩) rfl (vin 40 (by decide) (by grind)) dX6_challenge_128 ?_
              refine e_iload_n dX6_challenge_129 rfl ?_
              refine e_icmp_ne (tgt := 135) dX6_challenge_130 (by decide) (fun h130 => ?_) (fun h130 => ?_)
              ·
                refine e_inc (1) (by decide) dX6_challenge_135 rfl (by decide) (Nat.le_of_ble_eq_true rfl) ?_
                refine e_goto (tgt := 71) dX6_challenge_138 (by decide) ?_
                refine e_to (ih (j + 1) (by omega) (by rw [hop, e1, decide_eq_false (by grind), Bool.false_or])) (by first | rfl | (simp [lset]; done) | (simp [lset]; grind)) rfl
              ·
                have hop1 : opB τ x y c 0 = true := by rw [hop, e1, decide_eq_true (by grind)]; rfl
                refine e_iconst (v := -1) dX6_challenge_133 (by decide) ?_
                exact e_ireq rfl rfl dX6_challenge_134 (by rw [if_neg (by grind)]) (by rw [if_neg (by grind)])
  refine e_aload_n dX6_challenge_0 rfl ?_
  refine e_iconst (v := 0) dX6_challenge_1 (by decide) ?_
  refine e_putI kX6 (by first | assumption | exact ⟨by decide, rfl⟩) (by decide) fX6_75 rfl rfl rfl dX6_challenge_2 ?_
  rw [hz]
  refine e_aload_n dX6_challenge_5 rfl ?_
  refine e_getI kX6 (by first | assumption | exact ⟨by decide, rfl⟩) (by decide) fX6_132 rfl dX6_challenge_6 ?_
  refine e_if_eq (tgt := 37) dX6_challenge_9 (by decide) (fun h9 => ?_) (fun h9 => ?_)
  ·
    refine e_iconst (v := -1) dX6_challenge_37 (by decide) ?_
    exact e_ireq rfl rfl dX6_challenge_38 (by rw [if_neg (by grind)]) (by rw [if_neg (by grind)])
  ·
    refine e_aload_n dX6_challenge_12 rfl ?_
    refine e_iload_n dX6_challenge_13 rfl ?_
    refine e_V1 oX6_isMan lX6_145 ⟨Nat.le_of_ble_eq_true rfl, Nat.le_of_ble_eq_true rfl⟩ dX6_challenge_14 (by first | assumption | exact ⟨by decide, rfl⟩) (Nat.le_of_ble_eq_true rfl) (c_X6_isMan) ?_
    refine e_if_eqB (tgt := 37) dX6_challenge_17 (by decide) (fun h17 => ?_) (fun h17 => ?_)
    ·
      refine e_iconst (v := -1) dX6_challenge_37 (by decide) ?_
      exact e_ireq rfl rfl dX6_challenge_38 (by rw [if_neg (by grind)]) (by rw [if_neg (by grind)])
    ·
      refine e_aload_n dX6_challenge_20 rfl ?_
      refine e_iload_n dX6_challenge_21 rfl ?_
      refine e_V1 oX6_isMan lX6_145 ⟨Nat.le_of_ble_eq_true rfl, Nat.le_of_ble_eq_true rfl⟩ dX6_challenge_22 (by first | assumption | exact ⟨by decide, rfl⟩) (Nat.le_of_ble_eq_true rfl) (c_X6_isMan) ?_
      refine e_if_eqB (tgt := 37) dX6_challenge_25 (by decide) (fun h25 => ?_) (fun h25 => ?_)
      ·
        refine e_iconst (v := -1) dX6_challenge_37 (by decide) ?_
        exact e_ireq rfl rfl dX6_challenge_38 (by rw [if_neg (by grind)]) (by rw [if_neg (by grind)])
      ·
        refine e_aload_n dX6_challenge_28 rfl ?_
        refine e_getI kX6 (by first | assumption | exact ⟨by decide, rfl⟩) (by decide) fX6_165 rfl dX6_challenge_29 ?_
        refine e_bipush (v := 40) dX6_challenge_32 (by decide) ?_
        refine e_icmp_ne (tgt := 39) dX6_challenge_34 (by decide) (fun h34 => ?_) (fun h34 => ?_)
        ·
          refine e_aload_n dX6_challenge_39 rfl ?_
          refine e_iload_n dX6_challenge_40 rfl ?_
          refine e_iconst (v := 0) dX6_challenge_41 (by decide) ?_
          refine e_V2 oX6_bears lX6_148 ⟨Nat.le_of_ble_eq_true rfl, Nat.le_of_ble_eq_true rfl⟩ dX6_challenge_42 (by first | assumption | exact ⟨by decide, rfl⟩) (Nat.le_of_ble_eq_true rfl) (c_X6_bears hpl hmm (by decide)) ?_
          refine e_istore_n dX6_challenge_45 (by decide) (Nat.le_of_ble_eq_true rfl) ?_
          refine e_iload_n dX6_challenge_46 rfl ?_
          refine e_if_lt (tgt := 66) dX6_challenge_47 (by decide) (fun h47 => ?_) (fun h47 => ?_)
          ·
            refine e_iconst (v := -1) dX6_challenge_66 (by decide) ?_
            exact e_ireq rfl rfl dX6_challenge_67 (by rw [if_neg (by grind)]) (by rw [if_neg (by grind)])
          ·
            refine e_aload_n dX6_challenge_50 rfl ?_
            refine e_iload_n dX6_challenge_51 rfl ?_
            refine e_iconst (v := 0) dX6_challenge_52 (by decide) ?_
            refine e_iconst (v := 0) dX6_challenge_53 (by decide) ?_
            refine e_aload_n dX6_challenge_54 rfl ?_
            refine e_getI kX6 (by first | assumption | exact ⟨by decide, rfl⟩) (by decide) fX6_155 rfl dX6_challenge_55 ?_
            refine e_iconst (v := 1) dX6_challenge_58 (by decide) ?_
            refine e_isub dX6_challenge_59 ?_
            refine e_V4 oX6_isFit lX6_158 ⟨Nat.le_of_ble_eq_true rfl, Nat.le_of_ble_eq_true rfl⟩ dX6_challenge_60 (by first | assumption | exact ⟨by decide, rfl⟩) (Nat.le_of_ble_eq_true rfl) (c_X6_isFit hpl hmm (by decide) (by decide) (by grind)) ?_
            refine e_if_neB (tgt := 68) dX6_challenge_63 (by decide) (fun h63 => ?_) (fun h63 => ?_)
            ·
              refine e_iconst (v := 0) dX6_challenge_68 (by decide) ?_
              refine e_istore dX6_challenge_69 (by decide) (Nat.le_of_ble_eq_true rfl) ?_
              exact e_to (loop (by grind) c 0 (by omega) rfl) (by first | rfl | (simp [lset]; done) | (simp [lset]; grind)) rfl
            ·
              refine e_iconst (v := -1) dX6_challenge_66 (by decide) ?_
              exact e_ireq rfl rfl dX6_challenge_67 (by rw [if_neg (by grind)]) (by rw [if_neg (by grind)])
        ·
          refine e_iconst (v := -1) dX6_challenge_37 (by decide) ?_
          exact e_ireq rfl rfl dX6_challenge_38 (by rw [if_neg (by grind)]) (by rw [if_neg (by grind)])
