-- the reference: ahead
def cmStep (j : Nat) (τ : rS) : rS := up (up τ 8 11 (12 + nI j) (τ 8 11 (nI j))) 8 13 (12 + nI j) (τ 8 13 (nI j))
def cbStep (j : Nat) (τ : rS) : rS := up τ 8 18 (24 + nI j) (τ 8 18 (nI j))
def gvStep (j : Nat) (τ : rS) : rS := if τ 8 26 (nI j) < 2 ∧ goB τ (nI j) then up τ 8 18 (24 + τ 8 24 (nI j)) (τ 8 23 (nI j)) else τ
theorem cm_fr {σ : rS} {o' k' : Nat} {i' : Int32} (h : ¬ (o' = 8 ∧ (k' = 11 ∨ k' = 13))) : ∀ j, itS cmStep j σ o' k' i' = σ o' k' i' := by
  intro j
  induction j with
  | zero => rfl
  | succ j ih =>
    show cmStep j (itS cmStep j σ) o' k' i' = _
    generalize itS cmStep j σ = s at ih ⊢
    unfold cmStep
    simp only [up]; grind
theorem cb_fr {σ : rS} {o' k' : Nat} {i' : Int32} (h : ¬ (o' = 8 ∧ k' = 18)) : ∀ j, itS cbStep j σ o' k' i' = σ o' k' i' := by
  intro j
  induction j with
  | zero => rfl
  | succ j ih =>
    show cbStep j (itS cbStep j σ) o' k' i' = _
    generalize itS cbStep j σ = s at ih ⊢
    unfold cbStep
    simp only [up]; grind
theorem gv_fr {σ : rS} {o' k' : Nat} {i' : Int32} (h : ¬ (o' = 8 ∧ k' = 18)) : ∀ j, itS gvStep j σ o' k' i' = σ o' k' i' := by
  intro j
  induction j with
  | zero => rfl
  | succ j ih =>
    show gvStep j (itS gvStep j σ) o' k' i' = _
    generalize itS gvStep j σ = s at ih ⊢
    unfold gvStep
    split
    · simp only [up]; grind
    · exact ih
theorem cb_rng {σ : rS} (h : MIr σ) : ∀ j, j ≤ 24 → MIr (itS cbStep j σ) := by
  intro j
  induction j with
  | zero => intro _; exact h
  | succ j ih =>
    intro hj
    have ih := ih (by omega)
    show MIr (cbStep j (itS cbStep j σ))
    generalize itS cbStep j σ = s at ih ⊢
    obtain ⟨f1, f2, f3, f4⟩ := nI_facts (j := j) 24 (show j < 24 by omega) (Nat.le_refl _) (by decide) rfl
    have e24 : nI 24 = 24 := rfl
    intro p h1 h2
    have h3 := ih p h1 h2
    have h4 := ih (nI j) f1 (by grind)
    clear ih
    unfold cbStep
    simp only [up]
    grind
theorem gv_rng {σ : rS} {c : Nat} (h : MIr σ) (hg : MIg σ c) (hc : c ≤ 40) : ∀ j, j ≤ c → MIr (itS gvStep j σ) := by
  intro j
  induction j with
  | zero => intro _; exact h
  | succ j ih =>
    intro hj
    have ih := ih (by omega)
    have hgj : rgB (itS gvStep j σ) (nI j) := by
      unfold rgB
      rw [gv_fr (by decide), gv_fr (by decide), gv_fr (by decide)]
      exact hg _ (nI_pos' (by omega)) (nI_lt (by omega) (by omega))
    show MIr (gvStep j (itS gvStep j σ))
    generalize itS gvStep j σ = s at ih hgj ⊢
    intro p h1 h2
    have h3 := ih p h1 h2
    clear ih
    obtain ⟨q1, q2, q3, q4, q5, q6⟩ := hgj
    unfold gvStep
    split
    · simp only [up]; grind
    · exact h3
/-- the reference's world where the years ahead begin -/
abbrev am0 (τ : rS) (mm c : Nat) : rS := if ¬ τ 8 16 0 = 0 then (enG 12 24 (τ 8 15 0 - 1) (itS gvStep c (itS cbStep mm (itS cmStep 12 τ))) mm).2 else itS cmStep 12 τ
def amStep (yb : Int32) (n mm i : Nat) (s : Int32 × rS) : Int32 × rS := ((f2F 12 24 (yb + nI i) n mm s.2 mm).1, (enG 12 24 (yb + nI i) (f2F 12 24 (yb + nI i) n mm s.2 mm).2 mm).2)
abbrev amG (yb : Int32) (n mm : Nat) (τ0 : rS) (i : Nat) : Int32 × rS := itP (amStep yb n mm) i (0, τ0)
theorem am_fr {yb : Int32} {n mm : Nat} {σ : rS} {o' k' : Nat} {i' : Int32} (h : ¬ (o' = 8 ∧ (k' = 11 ∨ k' = 13 ∨ k' = 18))) : ∀ j, (amG yb n mm σ j).2 o' k' i' = σ o' k' i' := by
  intro j
  induction j with
  | zero => rfl
  | succ j ih =>
    show (amStep yb n mm j (amG yb n mm σ j)).2 o' k' i' = _
    generalize amG yb n mm σ j = s at ih ⊢
    show (enG 12 24 (yb + nI j) (f2F 12 24 (yb + nI j) n mm s.2 mm).2 mm).2 o' k' i' = _
    rw [enG_fr (by grind), f2F_fr (by grind)]
    exact ih
theorem am_rng {yb : Int32} {n mm : Nat} {σ : rS} (hn : n ≤ 12) (h : MIr σ) : ∀ j, MIr (amG yb n mm σ j).2 := by
  intro j
  induction j with
  | zero => exact h
  | succ j ih =>
    show MIr (amStep yb n mm j (amG yb n mm σ j)).2
    generalize amG yb n mm σ j = s at ih ⊢
    intro p h1 h2
    show -1 ≤ (enG 12 24 (yb + nI j) (f2F 12 24 (yb + nI j) n mm s.2 mm).2 mm).2 8 18 p ∧ (enG 12 24 (yb + nI j) (f2F 12 24 (yb + nI j) n mm s.2 mm).2 mm).2 8 18 p < 12
    rw [enG_fr (by decide)]
    exact f2F_rng hn ih mm p h1 h2
theorem MIu.of {σ τ : rS} {mm : Nat} (h : MIu σ mm) (h7 : ∀ i, τ 8 7 i = σ 8 7 i) (h4 : ∀ i, τ 8 4 i = σ 8 4 i) : MIu τ mm := by
  intro p h1 h2
  rw [h7, h4]
  exact h p h1 h2
theorem c_X6_ahead {k : Int32} {τ : rS} {n mm c K : Nat} {σ : rS} (hz : up σ 8 2 0 0 = τ) (hM : MI τ n mm c) (hk : 0 ≤ k ∧ k ≤ 20 → k = nI K ∧ K ≤ 20) : Ct mX6_ahead [.inr (8, 0), .inl k] σ (some (.inl (if 0 ≤ k ∧ k ≤ 20 then (amG (τ 8 15 0) n mm (am0 τ mm c) (K + 1)).1 else -1))) (if 0 ≤ k ∧ k ≤ 20 then (amG (τ 8 15 0) n mm (am0 τ mm c) (K + 1)).2 else τ) := by
  refine C_of_E rfl rfl (Nat.le_of_ble_eq_true rfl) ?_
  obtain ⟨hn, hn2, hpl, hmm, hc, hc2, hu, hr, hg⟩ := hM
  have main : ∀ T : rS, T 8 15 0 = τ 8 15 0 → T 8 10 0 = nI n → T 8 6 0 = nI mm → MIu T mm → MIr T → (0 ≤ k ∧ k ≤ 20) → E mX6_ahead 170 [.inr (8, 0), .inl k, .inl 0, .inl 0] [] T (some (.inl (amG (τ 8 15 0) n mm T (K + 1)).1)) (amG (τ 8 15 0) n mm T (K + 1)).2 := by
    intro T t15 t10 t6 tu tr hkk
    obtain ⟨hkK, hK⟩ := hk hkk
    have loop : ∀ j, j ≤ K + 1 → E mX6_ahead 170 [.inr (8, 0), .inl k, .inl (amG (τ 8 15 0) n mm T j).1, .inl (nI j)] [] (amG (τ 8 15 0) n mm T j).2 (some (.inl (amG (τ 8 15 0) n mm T (K + 1)).1)) (amG (τ 8 15 0) n mm T (K + 1)).2 := by
      refine dn_ind (K + 1) _ ?_ (fun j hj ih => ?_)
      · have hx : nI K < nI (K + 1) := nI_lt (by omega) (by omega)
        refine e_iload_n dX6_ahead_170 rfl ?_
        refine e_iload_n dX6_ahead_171 rfl ?_
        refine e_icmp_gt (tgt := 212) dX6_ahead_172 (by decide) (fun h172 => ?_) (fun h172 => ?_)
        rotate_left
        · exfalso
          grind
        refine e_iload_n dX6_ahead_212 rfl ?_
        exact e_ireq rfl rfl dX6_ahead_213 (by first | rfl | grind) rfl
      · have hx : nI j ≤ nI K := nI_le (by omega) (by omega)
        have f4 : nI (j + 1) = nI j + 1 := nI_succ j
        have g15 : (amG (τ 8 15 0) n mm T j).2 8 15 0 = τ 8 15 0 := (am_fr (by decide) j).trans t15
        have g10 : (amG (τ 8 15 0) n mm T j).2 8 10 0 = nI n := (am_fr (by decide) j).trans t10
        have g6 : (amG (τ 8 15 0) n mm T j).2 8 6 0 = nI mm := (am_fr (by decide) j).trans t6
        have gu : MIu (amG (τ 8 15 0) n mm T j).2 mm := tu.of (fun i => am_fr (by decide) j) (fun i => am_fr (by decide) j)
        have gr : MIr (amG (τ 8 15 0) n mm T j).2 := am_rng hn2 tr j
        change E mX6_ahead 170 [.inr (8, 0), .inl k, .inl (amStep (τ 8 15 0) n mm j (amG (τ 8 15 0) n mm T j)).1, .inl (nI (j + 1))] [] (amStep (τ 8 15 0) n mm j (amG (τ 8 15 0) n mm T j)).2 _ _ at ih
        generalize amG (τ 8 15 0) n mm T j = s at ih g15 g10 g6 gu gr ⊢
        have w15 : (f2F 12 24 (τ 8 15 0 + nI j) n mm s.2 mm).2 8 15 0 = τ 8 15 0 := (f2F_fr (by decide) mm).trans g15
        have w6 : (f2F 12 24 (τ 8 15 0 + nI j) n mm s.2 mm).2 8 6 0 = nI mm := (f2F_fr (by decide) mm).trans g6
        have wu : MIu (f2F 12 24 (τ 8 15 0 + nI j) n mm s.2 mm).2 mm := gu.of (fun i => f2F_fr (by decide) mm) (fun i => f2F_fr (by decide) mm)
        have wr : MIr (f2F 12 24 (τ 8 15 0 + nI j) n mm s.2 mm).2 := f2F_rng hn2 gr mm
        refine e_iload_n dX6_ahead_170 rfl ?_
        refine e_iload_n dX6_ahead_171 rfl ?_
        refine e_icmp_gt (tgt := 212) dX6_ahead_172 (by decide) (fun h172 => ?_) (fun h172 => ?_)
        · exfalso
          grind
        refine e_aload_n dX6_ahead_175 rfl ?_
        refine e_bipush (v := 12) dX6_ahead_176 (by decide) ?_
        refine e_bipush (v := 24) dX6_ahead_178 (by decide) ?_
        refine e_aload_n dX6_ahead_180 rfl ?_
        refine e_getI kX6 (by first | assumption | exact ⟨by decide, rfl⟩) (by decide) fX6_155 rfl dX6_ahead_181 ?_
        rw [g15]
        refine e_iload_n dX6_ahead_184 rfl ?_
        refine e_iadd dX6_ahead_185 ?_
        refine e_V3 oX6_fill lX6_168 ⟨Nat.le_of_ble_eq_true rfl, Nat.le_of_ble_eq_true rfl⟩ dX6_ahead_186 (by first | assumption | exact ⟨by decide, rfl⟩) (Nat.le_of_ble_eq_true rfl) (c_X6_fill (n := n) (mm := mm) g10 hn2 g6 hmm (by decide) (by decide)) ?_
        refine e_istore_n dX6_ahead_189 (by decide) (Nat.le_of_ble_eq_true rfl) ?_
        refine e_aload_n dX6_ahead_190 rfl ?_
        refine e_bipush (v := 12) dX6_ahead_191 (by decide) ?_
        refine e_bipush (v := 24) dX6_ahead_193 (by decide) ?_
        refine e_aload_n dX6_ahead_195 rfl ?_
        refine e_getI kX6 (by first | assumption | exact ⟨by decide, rfl⟩) (by decide) fX6_155 rfl dX6_ahead_196 ?_
        rw [w15]
        refine e_iload_n dX6_ahead_199 rfl ?_
        refine e_iadd dX6_ahead_200 ?_
        refine e_V3 oX6_ends lX6_188 ⟨Nat.le_of_ble_eq_true rfl, Nat.le_of_ble_eq_true rfl⟩ dX6_ahead_201 (by first | assumption | exact ⟨by decide, rfl⟩) (Nat.le_of_ble_eq_true rfl) (c_X6_ends (mm := mm) w6 hmm (by decide) (by decide) wu wr) ?_
        refine e_istore dX6_ahead_204 (by decide) (Nat.le_of_ble_eq_true rfl) ?_
        refine e_inc (1) (by decide) dX6_ahead_206 rfl (by decide) (Nat.le_of_ble_eq_true rfl) ?_
        refine e_goto (tgt := 170) dX6_ahead_209 (by decide) ?_
        exact e_to ih (by simp [lset, amStep]; grind) rfl
    exact loop 0 (Nat.zero_le _)
  have a1 : ∀ o' k' i', ¬ (o' = 8 ∧ (k' = 11 ∨ k' = 13)) → itS cmStep 12 τ o' k' i' = τ o' k' i' := fun o' k' i' h => cm_fr h 12
  have ru : MIu (itS cmStep 12 τ) mm := hu.of (fun i => a1 _ _ _ (by decide)) (fun i => a1 _ _ _ (by decide))
  have rr : MIr (itS cmStep 12 τ) := fun p h1 h2 => by rw [a1 _ _ _ (by decide)]; exact hr p h1 h2
  have rg : MIg (itS cmStep 12 τ) c := fun p h1 h2 => by unfold rgB; rw [a1 _ _ _ (by decide), a1 _ _ _ (by decide), a1 _ _ _ (by decide)]; exact hg p h1 h2
  have r21 : itS cmStep 12 τ 8 21 0 = nI c := (a1 _ _ _ (by decide)).trans hc
  have r6 : itS cmStep 12 τ 8 6 0 = nI mm := (a1 _ _ _ (by decide)).trans hpl
  have r10 : itS cmStep 12 τ 8 10 0 = nI n := (a1 _ _ _ (by decide)).trans hn
  have r15 : itS cmStep 12 τ 8 15 0 = τ 8 15 0 := a1 _ _ _ (by decide)
  have r16 : itS cmStep 12 τ 8 16 0 = τ 8 16 0 := a1 _ _ _ (by decide)
  clear a1
  have l3 : (0 ≤ k ∧ k ≤ 20) → ¬ τ 8 16 0 = 0 → ∀ j, j ≤ c → E mX6_ahead 101 [.inr (8, 0), .inl k, .inl (nI j)] [] (itS gvStep j (itS cbStep mm (itS cmStep 12 τ))) (some (.inl (amG (τ 8 15 0) n mm (am0 τ mm c) (K + 1)).1)) (amG (τ 8 15 0) n mm (am0 τ mm c) (K + 1)).2 := by
    intro hkk h16
    have ru2 : MIu (itS cbStep mm (itS cmStep 12 τ)) mm := ru.of (fun i => cb_fr (by decide) mm) (fun i => cb_fr (by decide) mm)
    have rr2 : MIr (itS cbStep mm (itS cmStep 12 τ)) := cb_rng rr mm hmm
    have rg2 : MIg (itS cbStep mm (itS cmStep 12 τ)) c := fun p h1 h2 => by unfold rgB; rw [cb_fr (by decide), cb_fr (by decide), cb_fr (by decide)]; exact rg p h1 h2
    have s21 : itS cbStep mm (itS cmStep 12 τ) 8 21 0 = nI c := (cb_fr (by decide) mm).trans r21
    have s6 : itS cbStep mm (itS cmStep 12 τ) 8 6 0 = nI mm := (cb_fr (by decide) mm).trans r6
    have s10 : itS cbStep mm (itS cmStep 12 τ) 8 10 0 = nI n := (cb_fr (by decide) mm).trans r10
    have s15 : itS cbStep mm (itS cmStep 12 τ) 8 15 0 = τ 8 15 0 := (cb_fr (by decide) mm).trans r15
    have e0 : am0 τ mm c = (enG 12 24 (τ 8 15 0 - 1) (itS gvStep c (itS cbStep mm (itS cmStep 12 τ))) mm).2 := if_pos h16
    rw [e0]
    generalize itS cbStep mm (itS cmStep 12 τ) = V at ru2 rr2 rg2 s21 s6 s10 s15 ⊢
    refine dn_ind c _ ?_ (fun j hj ih => ?_)
    · have v21 : itS gvStep c V 8 21 0 = nI c := (gv_fr (by decide) c).trans s21
      have v6 : itS gvStep c V 8 6 0 = nI mm := (gv_fr (by decide) c).trans s6
      have v10 : itS gvStep c V 8 10 0 = nI n := (gv_fr (by decide) c).trans s10
      have v15 : itS gvStep c V 8 15 0 = τ 8 15 0 := (gv_fr (by decide) c).trans s15
      have vu : MIu (itS gvStep c V) mm := ru2.of (fun i => gv_fr (by decide) c) (fun i => gv_fr (by decide) c)
      have vr : MIr (itS gvStep c V) := gv_rng rr2 rg2 hc2 c (Nat.le_refl _)
      generalize itS gvStep c V = U at v21 v6 v10 v15 vu vr ⊢
      have fin := main (enG 12 24 (τ 8 15 0 - 1) U mm).2 ((enG_fr (by decide) mm).trans v15) ((enG_fr (by decide) mm).trans v10) ((enG_fr (by decide) mm).trans v6) (vu.of (fun i => enG_fr (by decide) mm) (fun i => enG_fr (by decide) mm)) (fun p h1 h2 => by rw [enG_fr (by decide)]; exact vr p h1 h2) hkk
      refine e_iload_n dX6_ahead_101 rfl ?_
      refine e_aload_n dX6_ahead_102 rfl ?_
      refine e_getI kX6 (by first | assumption | exact ⟨by decide, rfl⟩) (by decide) fX6_165 rfl dX6_ahead_103 ?_
      refine e_icmp_ge (tgt := 151) dX6_ahead_106 (by decide) (fun h106 => ?_) (fun h106 => ?_)
      rotate_left
      · exfalso
        grind
      refine e_aload_n dX6_ahead_151 rfl ?_
      refine e_bipush (v := 12) dX6_ahead_152 (by decide) ?_
      refine e_bipush (v := 24) dX6_ahead_154 (by decide) ?_
      refine e_aload_n dX6_ahead_156 rfl ?_
      refine e_getI kX6 (by first | assumption | exact ⟨by decide, rfl⟩) (by decide) fX6_155 rfl dX6_ahead_157 ?_
      rw [v15]
      refine e_iconst (v := 1) dX6_ahead_160 (by decide) ?_
      refine e_isub dX6_ahead_161 ?_
      refine e_V3 oX6_ends lX6_188 ⟨Nat.le_of_ble_eq_true rfl, Nat.le_of_ble_eq_true rfl⟩ dX6_ahead_162 (by first | assumption | exact ⟨by decide, rfl⟩) (Nat.le_of_ble_eq_true rfl) (c_X6_ends (mm := mm) v6 hmm (by decide) (by decide) vu vr) ?_
      refine e_istore_n dX6_ahead_165 (by decide) (Nat.le_of_ble_eq_true rfl) ?_
      refine e_iconst (v := 0) dX6_ahead_166 (by decide) ?_
      refine e_istore_n dX6_ahead_167 (by decide) (Nat.le_of_ble_eq_true rfl) ?_
      refine e_iconst (v := 0) dX6_ahead_168 (by decide) ?_
      refine e_istore_n dX6_ahead_169 (by decide) (Nat.le_of_ble_eq_true rfl) ?_
      exact e_to fin (by first | rfl | (simp [lset]; done) | (simp [lset]; grind)) rfl
    · obtain ⟨f1, f2, f3, f4⟩ := nI_facts 40 hj hc2 (by decide) rfl
      have v21 : itS gvStep j V 8 21 0 = nI c := (gv_fr (by decide) j).trans s21
      have hgj : rgB (itS gvStep j V) (nI j) := by
        unfold rgB
        rw [gv_fr (by decide), gv_fr (by decide), gv_fr (by decide)]
        exact rg2 _ f1 f2
      change E mX6_ahead 101 [.inr (8, 0), .inl k, .inl (nI (j + 1))] [] (gvStep j (itS gvStep j V)) _ _ at ih
      generalize itS gvStep j V = s at ih v21 hgj ⊢
      clear main
      refine e_iload_n dX6_ahead_101 rfl ?_
      refine e_aload_n dX6_ahead_102 rfl ?_
      refine e_getI kX6 (by first | assumption | exact ⟨by decide, rfl⟩) (by decide) fX6_165 rfl dX6_ahead_103 ?_
      refine e_icmp_ge (tgt := 151) dX6_ahead_106 (by decide) (fun h106 => ?_) (fun h106 => ?_)
      · exfalso
        grind
      refine e_aload_n dX6_ahead_109 rfl ?_
      refine e_iload_n dX6_ahead_110 rfl ?_
      refine e_V1 oX6_isOpen lX6_182 ⟨Nat.le_of_ble_eq_true rfl, Nat.le_of_ble_eq_true rfl⟩ dX6_ahead_111 (by first | assumption | exact ⟨by decide, rfl⟩) (Nat.le_of_ble_eq_true rfl) (c_X6_isOpen (by grind)) ?_
      refine e_if_eqB (tgt := 145) dX6_ahead_114 (by decide) (fun h114 => ?_) (fun h114 => ?_)
      ·
        refine e_inc (1) (by decide) dX6_ahead_145 rfl (by decide) (Nat.le_of_ble_eq_true rfl) ?_
        refine e_goto (tgt := 101) dX6_ahead_148 (by decide) ?_
        unfold gvStep at ih
        first | rw [if_pos (by grind)] at ih | rw [if_neg (by grind)] at ih
        exact e_to ih (by first | rfl | (simp [lset]; done) | (simp [lset]; grind)) rfl
      ·
        refine e_aload_n dX6_ahead_117 rfl ?_
        refine e_iload_n dX6_ahead_118 rfl ?_
        refine e_V1 oX6_goesOver lX6_175 ⟨Nat.le_of_ble_eq_true rfl, Nat.le_of_ble_eq_true rfl⟩ dX6_ahead_119 (by first | assumption | exact ⟨by decide, rfl⟩) (Nat.le_of_ble_eq_true rfl) (c_X6_goesOver (by grind) hgj) ?_
        refine e_if_eqB (tgt := 145) dX6_ahead_122 (by decide) (fun h122 => ?_) (fun h122 => ?_)
        ·
          refine e_inc (1) (by decide) dX6_ahead_145 rfl (by decide) (Nat.le_of_ble_eq_true rfl) ?_
          refine e_goto (tgt := 101) dX6_ahead_148 (by decide) ?_
          unfold gvStep at ih
          first | rw [if_pos (by grind)] at ih | rw [if_neg (by grind)] at ih
          exact e_to ih (by first | rfl | (simp [lset]; done) | (simp [lset]; grind)) rfl
        ·
          refine e_aload_n dX6_ahead_125 rfl ?_
          refine e_getA kX6 (by first | assumption | exact ⟨by decide, rfl⟩) (by decide) fX6_41 rfl dX6_ahead_126 ?_
          refine e_bipush (v := 24) dX6_ahead_129 (by decide) ?_
          refine e_aload_n dX6_ahead_131 rfl ?_
          refine e_getA kX6 (by first | assumption | exact ⟨by decide, rfl⟩) (by decide) fX6_54 rfl dX6_ahead_132 ?_
          refine e_iload_n dX6_ahead_135 rfl ?_
          refine e_iald (ci := 6) (by first | assumption | exact ⟨by decide, rfl⟩) rfl (vin 40 (by decide) (by grind)) dX6_ahead_136 ?_
          refine e_iadd dX6_ahead_137 ?_
          refine e_aload_n dX6_ahead_138 rfl ?_
          refine e_getA kX6 (by first | assumption | exact ⟨by decide, rfl⟩) (by decide) fX6_51 rfl dX6_ahead_139 ?_
          refine e_iload_n dX6_ahead_142 rfl ?_
          refine e_iald (ci := 6) (by first | assumption | exact ⟨by decide, rfl⟩) rfl (vin 40 (by decide) (by grind)) dX6_ahead_143 ?_
          refine e_iast (ci := 6) (by first | assumption | exact ⟨by decide, rfl⟩) rfl (vin 48 (by decide) (by grind)) dX6_ahead_144 ?_
          refine e_inc (1) (by decide) dX6_ahead_145 rfl (by decide) (Nat.le_of_ble_eq_true rfl) ?_
          refine e_goto (tgt := 101) dX6_ahead_148 (by decide) ?_
          unfold gvStep at ih
          first | rw [if_pos (by grind)] at ih | rw [if_neg (by grind)] at ih
          exact e_to ih (by first | rfl | (simp [lset]; done) | (simp [lset]; grind)) rfl
  have l2 : (0 ≤ k ∧ k ≤ 20) → ¬ τ 8 16 0 = 0 → ∀ j, j ≤ mm → E mX6_ahead 70 [.inr (8, 0), .inl k, .inl (nI j)] [] (itS cbStep j (itS cmStep 12 τ)) (some (.inl (amG (τ 8 15 0) n mm (am0 τ mm c) (K + 1)).1)) (amG (τ 8 15 0) n mm (am0 τ mm c) (K + 1)).2 := by
    intro hkk h16
    refine dn_ind mm _ ?_ (fun j hj ih => ?_)
    · have v6 : itS cbStep mm (itS cmStep 12 τ) 8 6 0 = nI mm := (cb_fr (by decide) mm).trans r6
      refine e_iload_n dX6_ahead_70 rfl ?_
      refine e_aload_n dX6_ahead_71 rfl ?_
      refine e_getI kX6 (by first | assumption | exact ⟨by decide, rfl⟩) (by decide) fX6_139 rfl dX6_ahead_72 ?_
      refine e_icmp_ge (tgt := 99) dX6_ahead_75 (by decide) (fun h75 => ?_) (fun h75 => ?_)
      rotate_left
      · exfalso
        grind
      refine e_iconst (v := 0) dX6_ahead_99 (by decide) ?_
      refine e_istore_n dX6_ahead_100 (by decide) (Nat.le_of_ble_eq_true rfl) ?_
      exact e_to (l3 hkk h16 0 (Nat.zero_le _)) (by first | rfl | (simp [lset]; done) | (simp [lset]; grind)) rfl
    · obtain ⟨f1, f2, f3, f4⟩ := nI_facts 24 hj hmm (by decide) rfl
      have v6 : itS cbStep j (itS cmStep 12 τ) 8 6 0 = nI mm := (cb_fr (by decide) j).trans r6
      clear main l3
      refine e_iload_n dX6_ahead_70 rfl ?_
      refine e_aload_n dX6_ahead_71 rfl ?_
      refine e_getI kX6 (by first | assumption | exact ⟨by decide, rfl⟩) (by decide) fX6_139 rfl dX6_ahead_72 ?_
      refine e_icmp_ge (tgt := 99) dX6_ahead_75 (by decide) (fun h75 => ?_) (fun h75 => ?_)
      · exfalso
        grind
      refine e_aload_n dX6_ahead_78 rfl ?_
      refine e_getA kX6 (by first | assumption | exact ⟨by decide, rfl⟩) (by decide) fX6_41 rfl dX6_ahead_79 ?_
      refine e_bipush (v := 24) dX6_ahead_82 (by decide) ?_
      refine e_iload_n dX6_ahead_84 rfl ?_
      refine e_iadd dX6_ahead_85 ?_
      refine e_aload_n dX6_ahead_86 rfl ?_
      refine e_getA kX6 (by first | assumption | exact ⟨by decide, rfl⟩) (by decide) fX6_41 rfl dX6_ahead_87 ?_
      refine e_iload_n dX6_ahead_90 rfl ?_
      refine e_iald (ci := 6) (by first | assumption | exact ⟨by decide, rfl⟩) rfl (vin 48 (by decide) (by grind)) dX6_ahead_91 ?_
      refine e_iast (ci := 6) (by first | assumption | exact ⟨by decide, rfl⟩) rfl (vin 48 (by decide) (by grind)) dX6_ahead_92 ?_
      refine e_inc (1) (by decide) dX6_ahead_93 rfl (by decide) (Nat.le_of_ble_eq_true rfl) ?_
      refine e_goto (tgt := 70) dX6_ahead_96 (by decide) ?_
      exact e_to ih (by first | rfl | (simp [lset]; done) | (simp [lset]; grind)) rfl
  have fin0 : (0 ≤ k ∧ k ≤ 20) → τ 8 16 0 = 0 → E mX6_ahead 170 [.inr (8, 0), .inl k, .inl 0, .inl 0] [] (itS cmStep 12 τ) (some (.inl (amG (τ 8 15 0) n mm (am0 τ mm c) (K + 1)).1)) (amG (τ 8 15 0) n mm (am0 τ mm c) (K + 1)).2 := by
    intro hkk h16
    have e0 : am0 τ mm c = itS cmStep 12 τ := if_neg (fun h => h h16)
    rw [e0]
    exact main _ r15 r10 r6 ru rr hkk
  have l1 : (0 ≤ k ∧ k ≤ 20) → ∀ j, j ≤ 12 → E mX6_ahead 19 [.inr (8, 0), .inl k, .inl (nI j)] [] (itS cmStep j τ) (some (.inl (amG (τ 8 15 0) n mm (am0 τ mm c) (K + 1)).1)) (amG (τ 8 15 0) n mm (am0 τ mm c) (K + 1)).2 := by
    intro hkk
    refine dn_ind 12 _ ?_ (fun j hj ih => ?_)
    · have e12 : nI 12 = 12 := rfl
      refine e_iload_n dX6_ahead_19 rfl ?_
      refine e_bipush (v := 12) dX6_ahead_20 (by decide) ?_
      refine e_icmp_ge (tgt := 61) dX6_ahead_22 (by decide) (fun h22 => ?_) (fun h22 => ?_)
      rotate_left
      · exfalso
        grind
      refine e_aload_n dX6_ahead_61 rfl ?_
      refine e_getI kX6 (by first | assumption | exact ⟨by decide, rfl⟩) (by decide) fX6_132 rfl dX6_ahead_62 ?_
      rw [r16]
      refine e_if_eq (tgt := 166) dX6_ahead_65 (by decide) (fun h65 => ?_) (fun h65 => ?_)
      ·
        refine e_iconst (v := 0) dX6_ahead_166 (by decide) ?_
        refine e_istore_n dX6_ahead_167 (by decide) (Nat.le_of_ble_eq_true rfl) ?_
        refine e_iconst (v := 0) dX6_ahead_168 (by decide) ?_
        refine e_istore_n dX6_ahead_169 (by decide) (Nat.le_of_ble_eq_true rfl) ?_
        exact e_to (fin0 hkk (by assumption)) (by first | rfl | (simp [lset]; done) | (simp [lset]; grind)) rfl
      ·
        refine e_iconst (v := 0) dX6_ahead_68 (by decide) ?_
        refine e_istore_n dX6_ahead_69 (by decide) (Nat.le_of_ble_eq_true rfl) ?_
        exact e_to (l2 hkk (by assumption) 0 (Nat.zero_le _)) (by first | rfl | (simp [lset]; done) | (simp [lset]; grind)) rfl
    · obtain ⟨f1, f2, f3, f4⟩ := nI_facts 12 hj (Nat.le_refl _) (by decide) rfl
      have e12 : nI 12 = 12 := rfl
      clear main l3 l2 fin0
      refine e_iload_n dX6_ahead_19 rfl ?_
      refine e_bipush (v := 12) dX6_ahead_20 (by decide) ?_
      refine e_icmp_ge (tgt := 61) dX6_ahead_22 (by decide) (fun h22 => ?_) (fun h22 => ?_)
      · exfalso
        grind
      refine e_aload_n dX6_ahead_25 rfl ?_
      refine e_getA kX6 (by first | assumption | exact ⟨by decide, rfl⟩) (by decide) fX6_29 rfl dX6_ahead_26 ?_
      refine e_bipush (v := 12) dX6_ahead_29 (by decide) ?_
      refine e_iload_n dX6_ahead_31 rfl ?_
      refine e_iadd dX6_ahead_32 ?_
      refine e_aload_n dX6_ahead_33 rfl ?_
      refine e_getA kX6 (by first | assumption | exact ⟨by decide, rfl⟩) (by decide) fX6_29 rfl dX6_ahead_34 ?_
      refine e_iload_n dX6_ahead_37 rfl ?_
      refine e_iald (ci := 6) (by first | assumption | exact ⟨by decide, rfl⟩) rfl (vin 24 (by decide) (by grind)) dX6_ahead_38 ?_
      refine e_iast (ci := 6) (by first | assumption | exact ⟨by decide, rfl⟩) rfl (vin 24 (by decide) (by grind)) dX6_ahead_39 ?_
      refine e_aload_n dX6_ahead_40 rfl ?_
      refine e_getA kX6 (by first | assumption | exact ⟨by decide, rfl⟩) (by decide) fX6_35 rfl dX6_ahead_41 ?_
      refine e_bipush (v := 12) dX6_ahead_44 (by decide) ?_
      refine e_iload_n dX6_ahead_46 rfl ?_
      refine e_iadd dX6_ahead_47 ?_
      refine e_aload_n dX6_ahead_48 rfl ?_
      refine e_getA kX6 (by first | assumption | exact ⟨by decide, rfl⟩) (by decide) fX6_35 rfl dX6_ahead_49 ?_
      refine e_iload_n dX6_ahead_52 rfl ?_
      refine e_iald (ci := 6) (by first | assumption | exact ⟨by decide, rfl⟩) rfl (vin 24 (by decide) (by grind)) dX6_ahead_53 ?_
      refine e_iast (ci := 6) (by first | assumption | exact ⟨by decide, rfl⟩) rfl (vin 24 (by decide) (by grind)) dX6_ahead_54 ?_
      refine e_inc (1) (by decide) dX6_ahead_55 rfl (by decide) (Nat.le_of_ble_eq_true rfl) ?_
      refine e_goto (tgt := 19) dX6_ahead_58 (by decide) ?_
      exact e_to ih (by first | rfl | (simp [lset]; done) | (simp [lset]; grind)) (by show _ = cmStep j (itS cmStep j τ); generalize itS cmStep j τ = s; simp [cmStep, up])
  refine e_aload_n dX6_ahead_0 rfl ?_
  refine e_iconst (v := 0) dX6_ahead_1 (by decide) ?_
  refine e_putI kX6 (by first | assumption | exact ⟨by decide, rfl⟩) (by decide) fX6_75 rfl rfl rfl dX6_ahead_2 ?_
  rw [hz]
  refine e_iload_n dX6_ahead_5 rfl ?_
  refine e_if_lt (tgt := 15) dX6_ahead_6 (by decide) (fun h6 => ?_) (fun h6 => ?_)
  ·
    refine e_iconst (v := -1) dX6_ahead_15 (by decide) ?_
    exact e_ireq rfl rfl dX6_ahead_16 (by rw [if_neg (by grind)]) (by rw [if_neg (by grind)])
  ·
    refine e_iload_n dX6_ahead_9 rfl ?_
    refine e_bipush (v := 20) dX6_ahead_10 (by decide) ?_
    refine e_icmp_le (tgt := 17) dX6_ahead_12 (by decide) (fun h12 => ?_) (fun h12 => ?_)
    ·
      refine e_iconst (v := 0) dX6_ahead_17 (by decide) ?_
      refine e_istore_n dX6_ahead_18 (by decide) (Nat.le_of_ble_eq_true rfl) ?_
      rw [if_pos (by grind), if_pos (by grind)]
      exact e_to (l1 (by grind) 0 (Nat.zero_le _)) (by first | rfl | (simp [lset]; done) | (simp [lset]; grind)) rfl
    ·
      refine e_iconst (v := -1) dX6_ahead_15 (by decide) ?_
      exact e_ireq rfl rfl dX6_ahead_16 (by rw [if_neg (by grind)]) (by rw [if_neg (by grind)])
