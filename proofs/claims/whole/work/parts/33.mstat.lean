-- the reference's statutes
def npM (j : Nat) : Nat → rS → rS := itS (fun _ τ => up (up τ 8 7 (τ 8 6 0) (nI j)) 8 6 0 (τ 8 6 0 + 1))
theorem npM_6 {j : Nat} {σ : rS} : ∀ i, npM j i σ 8 6 0 = σ 8 6 0 + nI i := by
  intro i
  induction i with
  | zero => show σ 8 6 0 = σ 8 6 0 + 0; grind
  | succ i ih =>
    show up (up (npM j i σ) 8 7 (npM j i σ 8 6 0) (nI j)) 8 6 0 (npM j i σ 8 6 0 + 1) 8 6 0 = _
    rw [up_self, ih, nI_succ]
    grind
theorem npM_fr {j : Nat} {σ : rS} {o' k' : Nat} {i' : Int32} (h : ¬ (o' = 8 ∧ (k' = 6 ∨ k' = 7))) : ∀ i, npM j i σ o' k' i' = σ o' k' i' := by
  intro i
  induction i with
  | zero => rfl
  | succ i ih =>
    show up (up (npM j i σ) 8 7 (npM j i σ 8 6 0) (nI j)) 8 6 0 (npM j i σ 8 6 0 + 1) o' k' i' = _
    generalize npM j i σ = s at ih ⊢
    simp only [up]; grind
def cpM (j : Nat) (τ : rS) : rS := up (up τ 8 3 (nI j) (τ 8 3 (6 + nI j))) 8 4 (nI j) (τ 8 4 (6 + nI j))
def plM (sh : Nat → Nat) : Nat → rS → rS := itS (fun j τ => npM j (sh j) (cpM j τ))
theorem cpM_fr {j : Nat} {σ : rS} {o' k' : Nat} {i' : Int32} (h : ¬ (o' = 8 ∧ (k' = 3 ∨ k' = 4)) ∨ ¬ i' = nI j) : cpM j σ o' k' i' = σ o' k' i' := by
  unfold cpM; simp only [up]; grind
theorem plM_6 {sh : Nat → Nat} {σ : rS} (h : σ 8 6 0 = 0) : ∀ j, plM sh j σ 8 6 0 = nI (suS sh j) := by
  intro j
  induction j with
  | zero => exact h
  | succ j ih =>
    show npM j (sh j) (cpM j (plM sh j σ)) 8 6 0 = _
    rw [npM_6, cpM_fr (Or.inl (by decide)), ih, nI_add]
    rfl
theorem plM_fr {sh : Nat → Nat} {σ : rS} {o' k' : Nat} {i' : Int32} (h : ¬ (o' = 8 ∧ (k' = 3 ∨ k' = 4 ∨ k' = 6 ∨ k' = 7))) : ∀ j, plM sh j σ o' k' i' = σ o' k' i' := by
  intro j
  induction j with
  | zero => rfl
  | succ j ih => exact (npM_fr (by grind) (sh j)).trans ((cpM_fr (Or.inl (by grind))).trans ih)
theorem plM_hi {sh : Nat → Nat} {σ : rS} {k' : Nat} {b : Int32} (hk : k' = 3 ∨ k' = 4) (hb : 6 ≤ b) : ∀ j, j ≤ 6 → plM sh j σ 8 k' b = σ 8 k' b := by
  intro j
  induction j with
  | zero => intro _; rfl
  | succ j ih =>
    intro hj
    have hn : nI j < 6 := nI_lt (b := 6) (by omega) (by decide)
    exact (npM_fr (by grind) (sh j)).trans ((cpM_fr (Or.inr (by grind))).trans (ih (by omega)))
def ruM : Nat → rS → rS := itS (fun k τ => up τ 8 5 (nI k) (if τ 8 5 (4 + nI k) < 0 then 0 else τ 8 5 (4 + nI k)))
theorem ruM_fr {σ : rS} {o' k' : Nat} {i' : Int32} (h : ¬ (o' = 8 ∧ k' = 5)) : ∀ j, ruM j σ o' k' i' = σ o' k' i' := by
  intro j
  induction j with
  | zero => rfl
  | succ j ih =>
    show up (ruM j σ) 8 5 (nI j) _ o' k' i' = _
    generalize ruM j σ = s at ih ⊢
    simp only [up]; grind
abbrev smN6 (σ : rS) : Nat → Nat := fun j => (σ 8 4 (6 + nI j)).toNatClampNeg
/-- what the statutes are made of, behind the lines -/
abbrev fnM (σ : rS) (m : rM4) : rS := ruM 4 (plM (smN6 σ) 6 (up (wt σ m) 8 6 0 0))
theorem st_end {σ : rS} {m : rM4} {n : Int32} (hsh : shM σ) : E mX6_statutes 142 [.inr (8, 0), .inl n] [] (wt σ m) (some (.inl (fnM σ m 8 6 0))) (fnM σ m) := by
  have hsx : ∀ j, j < 6 → σ 8 4 (6 + nI j) = nI (smN6 σ j) ∧ smN6 σ j ≤ 4 := by
    intro j hj
    have f1 : nI j < 6 := nI_lt (b := 6) hj (by decide)
    have f0 : 0 ≤ nI j := nI_pos' (by omega)
    have h1 := hsh (6 + nI j) (by grind) (by grind)
    refine ⟨(nI_cl (by grind)).symm, ?_⟩
    have h5 := cl_lt24 (i := σ 8 4 (6 + nI j)) (N := 5) 5 (by decide) ⟨h1.1, by grind⟩
    show (σ 8 4 (6 + nI j)).toNatClampNeg ≤ 4
    omega
  clear hsh
  have l3 : ∀ k, k ≤ 4 → E mX6_statutes 231 [.inr (8, 0), .inl n, .inl (nI k)] [] (ruM k (plM (smN6 σ) 6 (up (wt σ m) 8 6 0 0))) (some (.inl (fnM σ m 8 6 0))) (fnM σ m) := by
    clear hsx
    refine dn_ind 4 _ ?_ (fun k hk ih => ?_)
    · have e4 : nI 4 = 4 := rfl
      refine e_iload_n dX6_statutes_231 rfl ?_
      refine e_iconst (v := 4) dX6_statutes_232 (by decide) ?_
      refine e_icmp_ge (tgt := 271) dX6_statutes_233 (by decide) (fun h233 => ?_) (fun h233 => ?_)
      rotate_left
      · exfalso
        grind
      refine e_aload_n dX6_statutes_271 rfl ?_
      refine e_getI kX6 (by first | assumption | exact ⟨by decide, rfl⟩) (by decide) fX6_139 rfl dX6_statutes_272 ?_
      exact e_ireq rfl rfl dX6_statutes_275 (by first | rfl | grind) rfl
    · obtain ⟨f1, f2, f3, f4⟩ := nI_facts 4 hk (Nat.le_refl _) (by decide) rfl
      have e4 : nI 4 = 4 := rfl
      change E mX6_statutes 231 [.inr (8, 0), .inl n, .inl (nI (k + 1))] [] (up (ruM k (plM (smN6 σ) 6 (up (wt σ m) 8 6 0 0))) 8 5 (nI k) (if ruM k (plM (smN6 σ) 6 (up (wt σ m) 8 6 0 0)) 8 5 (4 + nI k) < 0 then 0 else ruM k (plM (smN6 σ) 6 (up (wt σ m) 8 6 0 0)) 8 5 (4 + nI k))) _ _ at ih
      generalize ruM k (plM (smN6 σ) 6 (up (wt σ m) 8 6 0 0)) = s at ih ⊢
      refine e_iload_n dX6_statutes_231 rfl ?_
      refine e_iconst (v := 4) dX6_statutes_232 (by decide) ?_
      refine e_icmp_ge (tgt := 271) dX6_statutes_233 (by decide) (fun h233 => ?_) (fun h233 => ?_)
      · exfalso
        grind
      refine e_aload_n dX6_statutes_236 rfl ?_
      refine e_getA kX6 (by first | assumption | exact ⟨by decide, rfl⟩) (by decide) fX6_19 rfl dX6_statutes_237 ?_
      refine e_iload_n dX6_statutes_240 rfl ?_
      refine e_aload_n dX6_statutes_241 rfl ?_
      refine e_getA kX6 (by first | assumption | exact ⟨by decide, rfl⟩) (by decide) fX6_19 rfl dX6_statutes_242 ?_
      refine e_iconst (v := 4) dX6_statutes_245 (by decide) ?_
      refine e_iload_n dX6_statutes_246 rfl ?_
      refine e_iadd dX6_statutes_247 ?_
      refine e_iald (ci := 6) (by first | assumption | exact ⟨by decide, rfl⟩) rfl (vin 8 (by decide) (by grind)) dX6_statutes_248 ?_
      refine e_if_ge (tgt := 256) dX6_statutes_249 (by decide) (fun h249 => ?_) (fun h249 => ?_)
      ·
        refine e_aload_n dX6_statutes_256 rfl ?_
        refine e_getA kX6 (by first | assumption | exact ⟨by decide, rfl⟩) (by decide) fX6_19 rfl dX6_statutes_257 ?_
        refine e_iconst (v := 4) dX6_statutes_260 (by decide) ?_
        refine e_iload_n dX6_statutes_261 rfl ?_
        refine e_iadd dX6_statutes_262 ?_
        refine e_iald (ci := 6) (by first | assumption | exact ⟨by decide, rfl⟩) rfl (vin 8 (by decide) (by grind)) dX6_statutes_263 ?_
        refine e_iast (ci := 6) (by first | assumption | exact ⟨by decide, rfl⟩) rfl (vin 8 (by decide) (by grind)) dX6_statutes_264 ?_
        refine e_inc (1) (by decide) dX6_statutes_265 rfl (by decide) (Nat.le_of_ble_eq_true rfl) ?_
        refine e_goto (tgt := 231) dX6_statutes_268 (by decide) ?_
        first | rw [if_pos (by grind)] at ih | rw [if_neg (by grind)] at ih
        exact e_to ih (by simp [lset, f4]) rfl
      ·
        refine e_iconst (v := 0) dX6_statutes_252 (by decide) ?_
        refine e_goto (tgt := 264) dX6_statutes_253 (by decide) ?_
        refine e_iast (ci := 6) (by first | assumption | exact ⟨by decide, rfl⟩) rfl (vin 8 (by decide) (by grind)) dX6_statutes_264 ?_
        refine e_inc (1) (by decide) dX6_statutes_265 rfl (by decide) (Nat.le_of_ble_eq_true rfl) ?_
        refine e_goto (tgt := 231) dX6_statutes_268 (by decide) ?_
        first | rw [if_pos (by grind)] at ih | rw [if_neg (by grind)] at ih
        exact e_to ih (by simp [lset, f4]) rfl
  have outer : ∀ j, j ≤ 6 → E mX6_statutes 149 [.inr (8, 0), .inl n, .inl (nI j)] [] (plM (smN6 σ) j (up (wt σ m) 8 6 0 0)) (some (.inl (fnM σ m 8 6 0))) (fnM σ m) := by
    refine dn_ind 6 _ ?_ (fun j hj ih => ?_)
    · have e6 : nI 6 = 6 := rfl
      have l30 := l3 0 (Nat.zero_le _)
      clear l3 hsx
      refine e_iload_n dX6_statutes_149 rfl ?_
      refine e_bipush (v := 6) dX6_statutes_150 (by decide) ?_
      refine e_icmp_ge (tgt := 229) dX6_statutes_152 (by decide) (fun h152 => ?_) (fun h152 => ?_)
      rotate_left
      · exfalso
        grind
      refine e_iconst (v := 0) dX6_statutes_229 (by decide) ?_
      refine e_istore_n dX6_statutes_230 (by decide) (Nat.le_of_ble_eq_true rfl) ?_
      exact e_to l30 rfl rfl
    · obtain ⟨f1, f2, f3, f4⟩ := nI_facts 6 hj (Nat.le_refl _) (by decide) rfl
      have e6 : nI 6 = 6 := rfl
      have hp := plM_6 (sh := smN6 σ) (σ := up (wt σ m) 8 6 0 0) up_self j
      have hs4 : plM (smN6 σ) j (up (wt σ m) 8 6 0 0) 8 4 (6 + nI j) = nI (smN6 σ j) := (plM_hi (Or.inr rfl) (by grind) j (by omega)).trans ((up_k (by decide)).trans ((wt_fr (by decide)).trans (hsx j hj).1))
      have hle := (hsx j hj).2
      have hsu := suS_le (sh := smN6 σ) j (fun i hi => (hsx i (by omega)).2)
      change E mX6_statutes 149 [.inr (8, 0), .inl n, .inl (nI (j + 1))] [] (npM j (smN6 σ j) (cpM j (plM (smN6 σ) j (up (wt σ m) 8 6 0 0)))) _ _ at ih
      generalize plM (smN6 σ) j (up (wt σ m) 8 6 0 0) = s at ih hp hs4 ⊢
      generalize smN6 σ j = S at ih hs4 hle
      generalize fnM σ m = Z at ih ⊢
      clear l3 hsx
      have c4 : cpM j s 8 4 (nI j) = nI S := by unfold cpM; rw [up_self]; exact hs4
      have c6 : cpM j s 8 6 0 = nI (suS (smN6 σ) j) := (cpM_fr (Or.inl (by decide))).trans hp
      have inner : ∀ i, i ≤ S → E mX6_statutes 187 [.inr (8, 0), .inl n, .inl (nI j), .inl (nI i)] [] (npM j i (cpM j s)) (some (.inl (Z 8 6 0))) Z := by
        refine dn_ind S _ ?_ (fun i hi ih2 => ?_)
        · have hs2 : npM j S (cpM j s) 8 4 (nI j) = nI S := (npM_fr (by decide) _).trans c4
          refine e_iload_n dX6_statutes_187 rfl ?_
          refine e_aload_n dX6_statutes_188 rfl ?_
          refine e_getA kX6 (by first | assumption | exact ⟨by decide, rfl⟩) (by decide) fX6_16 rfl dX6_statutes_189 ?_
          refine e_iload_n dX6_statutes_192 rfl ?_
          refine e_iald (ci := 6) (by first | assumption | exact ⟨by decide, rfl⟩) rfl (vin 12 (by decide) (by grind)) dX6_statutes_193 ?_
          refine e_icmp_ge (tgt := 223) dX6_statutes_194 (by decide) (fun h194 => ?_) (fun h194 => ?_)
          rotate_left
          · exfalso
            grind
          refine e_inc (1) (by decide) dX6_statutes_223 rfl (by decide) (Nat.le_of_ble_eq_true rfl) ?_
          refine e_goto (tgt := 149) dX6_statutes_226 (by decide) ?_
          exact e_to ih (by first | rfl | (simp [lset]; done) | (simp [lset]; grind)) rfl
        · have hs2 : npM j i (cpM j s) 8 4 (nI j) = nI S := (npM_fr (by decide) _).trans c4
          have hp2 : npM j i (cpM j s) 8 6 0 = nI (suS (smN6 σ) j + i) := by rw [npM_6, c6, nI_add]
          have g1 : nI i < nI S := nI_lt hi (by omega)
          have g2 : nI (suS (smN6 σ) j + i) < 24 := nI_lt (b := 24) (by omega) (by decide)
          have g3 : 0 ≤ nI (suS (smN6 σ) j + i) := nI_pos' (by omega)
          have g4 : nI (i + 1) = nI i + 1 := nI_succ i
          refine e_iload_n dX6_statutes_187 rfl ?_
          refine e_aload_n dX6_statutes_188 rfl ?_
          refine e_getA kX6 (by first | assumption | exact ⟨by decide, rfl⟩) (by decide) fX6_16 rfl dX6_statutes_189 ?_
          refine e_iload_n dX6_statutes_192 rfl ?_
          refine e_iald (ci := 6) (by first | assumption | exact ⟨by decide, rfl⟩) rfl (vin 12 (by decide) (by grind)) dX6_statutes_193 ?_
          refine e_icmp_ge (tgt := 223) dX6_statutes_194 (by decide) (fun h194 => ?_) (fun h194 => ?_)
          · exfalso
            grind
          refine e_aload_n dX6_statutes_197 rfl ?_
          refine e_getA kX6 (by first | assumption | exact ⟨by decide, rfl⟩) (by decide) fX6_22 rfl dX6_statutes_198 ?_
          refine e_aload_n dX6_statutes_201 rfl ?_
          refine e_getI kX6 (by first | assumption | exact ⟨by decide, rfl⟩) (by decide) fX6_139 rfl dX6_statutes_202 ?_
          refine e_iload_n dX6_statutes_205 rfl ?_
          refine e_iast (ci := 6) (by first | assumption | exact ⟨by decide, rfl⟩) rfl (vin 24 (by decide) (by grind)) dX6_statutes_206 ?_
          refine e_aload_n dX6_statutes_207 rfl ?_
          refine e_dup dX6_statutes_208 ?_
          refine e_getI kX6 (by first | assumption | exact ⟨by decide, rfl⟩) (by decide) fX6_139 rfl dX6_statutes_209 ?_
          refine e_iconst (v := 1) dX6_statutes_212 (by decide) ?_
          refine e_iadd dX6_statutes_213 ?_
          refine e_putI kX6 (by first | assumption | exact ⟨by decide, rfl⟩) (by decide) fX6_139 rfl rfl rfl dX6_statutes_214 ?_
          refine e_inc (1) (by decide) dX6_statutes_217 rfl (by decide) (Nat.le_of_ble_eq_true rfl) ?_
          refine e_goto (tgt := 187) dX6_statutes_220 (by decide) ?_
          exact e_to ih2 (by first | rfl | (simp [lset]; done) | (simp [lset]; grind)) (by show _ = up (up (npM j i (cpM j s)) 8 7 (npM j i (cpM j s) 8 6 0) (nI j)) 8 6 0 (npM j i (cpM j s) 8 6 0 + 1); simp [up])
      have in0 := inner 0 (Nat.zero_le _)
      clear inner
      refine e_iload_n dX6_statutes_149 rfl ?_
      refine e_bipush (v := 6) dX6_statutes_150 (by decide) ?_
      refine e_icmp_ge (tgt := 229) dX6_statutes_152 (by decide) (fun h152 => ?_) (fun h152 => ?_)
      · exfalso
        grind
      refine e_aload_n dX6_statutes_155 rfl ?_
      refine e_getA kX6 (by first | assumption | exact ⟨by decide, rfl⟩) (by decide) fX6_13 rfl dX6_statutes_156 ?_
      refine e_iload_n dX6_statutes_159 rfl ?_
      refine e_aload_n dX6_statutes_160 rfl ?_
      refine e_getA kX6 (by first | assumption | exact ⟨by decide, rfl⟩) (by decide) fX6_13 rfl dX6_statutes_161 ?_
      refine e_bipush (v := 6) dX6_statutes_164 (by decide) ?_
      refine e_iload_n dX6_statutes_166 rfl ?_
      refine e_iadd dX6_statutes_167 ?_
      refine e_iald (ci := 6) (by first | assumption | exact ⟨by decide, rfl⟩) rfl (vin 12 (by decide) (by grind)) dX6_statutes_168 ?_
      refine e_iast (ci := 6) (by first | assumption | exact ⟨by decide, rfl⟩) rfl (vin 12 (by decide) (by grind)) dX6_statutes_169 ?_
      refine e_aload_n dX6_statutes_170 rfl ?_
      refine e_getA kX6 (by first | assumption | exact ⟨by decide, rfl⟩) (by decide) fX6_16 rfl dX6_statutes_171 ?_
      refine e_iload_n dX6_statutes_174 rfl ?_
      refine e_aload_n dX6_statutes_175 rfl ?_
      refine e_getA kX6 (by first | assumption | exact ⟨by decide, rfl⟩) (by decide) fX6_16 rfl dX6_statutes_176 ?_
      refine e_bipush (v := 6) dX6_statutes_179 (by decide) ?_
      refine e_iload_n dX6_statutes_181 rfl ?_
      refine e_iadd dX6_statutes_182 ?_
      refine e_iald (ci := 6) (by first | assumption | exact ⟨by decide, rfl⟩) rfl (vin 12 (by decide) (by grind)) dX6_statutes_183 ?_
      refine e_iast (ci := 6) (by first | assumption | exact ⟨by decide, rfl⟩) rfl (vin 12 (by decide) (by grind)) dX6_statutes_184 ?_
      refine e_iconst (v := 0) dX6_statutes_185 (by decide) ?_
      refine e_istore_n dX6_statutes_186 (by decide) (Nat.le_of_ble_eq_true rfl) ?_
      exact e_to in0 (by simp [lset]; rfl) (by show _ = cpM j s; unfold cpM; simp [up])
  have o0 := outer 0 (Nat.zero_le _)
  clear outer l3 hsx
  refine e_aload_n dX6_statutes_142 rfl ?_
  refine e_iconst (v := 0) dX6_statutes_143 (by decide) ?_
  refine e_putI kX6 (by first | assumption | exact ⟨by decide, rfl⟩) (by decide) fX6_139 rfl rfl rfl dX6_statutes_144 ?_
  refine e_iconst (v := 0) dX6_statutes_147 (by decide) ?_
  refine e_istore_n dX6_statutes_148 (by decide) (Nat.le_of_ble_eq_true rfl) ?_
  exact e_to o0 rfl rfl
