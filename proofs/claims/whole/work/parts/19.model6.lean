-- the reference: begin, end, ahead, feed
theorem f2F_rng {σ : rS} {coins row year : Int32} {n mm : Nat} (hn : n ≤ 12) (h : MIr σ) : ∀ j, MIr (f2F coins row year n mm σ j).2 := by
  have h1 : ∀ j, MIr (f1M row j σ) := by
    intro j
    induction j with
    | zero => exact h
    | succ j ih =>
      intro p h1 h2
      have h3 := ih p h1 h2
      show -1 ≤ up (f1M row j σ) 8 18 (row + nI j) (-1) 8 18 p ∧ up (f1M row j σ) 8 18 (row + nI j) (-1) 8 18 p < 12
      simp only [up]
      split
      · exact ⟨by decide, by decide⟩
      · exact h3
  intro j
  induction j with
  | zero => exact h1 mm
  | succ j ih =>
    show MIr (f2Step coins row year n mm j (f2F coins row year n mm σ j)).2
    generalize f2F coins row year n mm σ j = s at ih ⊢
    intro p g1 g2
    have g3 := ih p g1 g2
    show -1 ≤ up s.2 8 18 (row + nI j) (biF s.2 coins row year mm n) 8 18 p ∧ up s.2 8 18 (row + nI j) (biF s.2 coins row year mm n) 8 18 p < 12
    simp only [up]
    split
    · exact biF_rng n hn
    · exact g3
def bo0 : Nat → rS → rS := itS (fun j τ => up τ 8 19 (nI j) 0)
theorem bo0_fr {σ : rS} {o' k' : Nat} {i' : Int32} (h : ¬ (o' = 8 ∧ k' = 19)) : ∀ j, bo0 j σ o' k' i' = σ o' k' i' := by
  intro j
  induction j with
  | zero => rfl
  | succ j ih => show up (bo0 j σ) 8 19 (nI j) 0 o' k' i' = _; simp only [up]; grind
def brStep (j : Nat) (τ : rS) : rS := if 0 ≤ τ 8 18 (nI j) then up τ 8 19 (24 * τ 8 18 (nI j) + nI j) 1 else τ
theorem br_fr {σ : rS} {o' k' : Nat} {i' : Int32} (h : ¬ (o' = 8 ∧ k' = 19)) : ∀ j, itS brStep j σ o' k' i' = σ o' k' i' := by
  intro j
  induction j with
  | zero => rfl
  | succ j ih =>
    show brStep j (itS brStep j σ) o' k' i' = _
    generalize itS brStep j σ = s at ih ⊢
    unfold brStep
    split
    · simp only [up]; grind
    · exact ih
abbrev mbB (τ : rS) : Prop := τ 8 16 0 = 0 ∧ ¬ τ 8 15 0 = 40
def mB0 (τ : rS) : rS := up (up (up (up τ 8 16 0 1) 8 15 0 (τ 8 15 0 + 1)) 8 17 0 0) 8 21 0 0
theorem mB0_fr {τ : rS} {o' k' : Nat} {i' : Int32} (h : ¬ (o' = 8 ∧ (k' = 16 ∨ k' = 15 ∨ k' = 17 ∨ k' = 21))) : mB0 τ o' k' i' = τ o' k' i' := by
  unfold mB0; simp only [up]; grind
abbrev mB1 (τ : rS) (n mm : Nat) : Int32 × rS := f2F 0 0 (τ 8 15 0 + 1 - 1) n mm (mB0 τ) mm
abbrev mB2 (τ : rS) (n mm : Nat) : rS := bo0 288 (mB1 τ n mm).2
theorem c_X6_begin {τ : rS} {n mm : Nat} {σ : rS} (hz : up σ 8 2 0 0 = τ) (hn : τ 8 10 0 = nI n) (hn2 : n ≤ 12) (hpl : τ 8 6 0 = nI mm) (hmm : mm ≤ 24) (hr : MIr τ) : Ct mX6_begin [.inr (8, 0)] σ (some (.inl (if mbB τ then (mB1 τ n mm).1 else -1))) (if mbB τ then itS brStep mm (mB2 τ n mm) else τ) := by
  refine C_of_E rfl rfl (Nat.le_of_ble_eq_true rfl) ?_
  have f9 := nI_le24 hmm
  have hr2 : MIr (mB1 τ n mm).2 := f2F_rng hn2 (fun p h1 h2 => by rw [mB0_fr (by decide)]; exact hr p h1 h2) mm
  have q18 : ∀ i, (mB1 τ n mm).2 8 6 i = τ 8 6 i := fun i => (f2F_fr (by decide) mm).trans (mB0_fr (by decide))
  have l2 : ∀ j, j ≤ mm → E mX6_begin 85 [.inr (8, 0), .inl (mB1 τ n mm).1, .inl (nI j)] [] (itS brStep j (mB2 τ n mm)) (some (.inl (mB1 τ n mm).1)) (itS brStep mm (mB2 τ n mm)) := by
    refine dn_ind mm _ ?_ (fun j hj ih => ?_)
    · have hp : itS brStep mm (mB2 τ n mm) 8 6 0 = nI mm := (br_fr (by decide) mm).trans ((bo0_fr (by decide) 288).trans ((q18 0).trans hpl))
      refine e_iload_n dX6_begin_85 rfl ?_
      refine e_aload_n dX6_begin_86 rfl ?_
      refine e_getI kX6 (by first | assumption | exact ⟨by decide, rfl⟩) (by decide) fX6_139 rfl dX6_begin_87 ?_
      refine e_icmp_ge (tgt := 125) dX6_begin_90 (by decide) (fun h90 => ?_) (fun h90 => ?_)
      rotate_left
      · exfalso
        grind
      refine e_iload_n dX6_begin_125 rfl ?_
      exact e_ireq rfl rfl dX6_begin_126 (by first | rfl | grind) rfl
    · have hp : itS brStep j (mB2 τ n mm) 8 6 0 = nI mm := (br_fr (by decide) j).trans ((bo0_fr (by decide) 288).trans ((q18 0).trans hpl))
      obtain ⟨f1, f2, f3, f4⟩ := nI_facts 24 hj hmm (by decide) rfl
      have hb : -1 ≤ itS brStep j (mB2 τ n mm) 8 18 (nI j) ∧ itS brStep j (mB2 τ n mm) 8 18 (nI j) < 12 := by
        rw [br_fr (by decide)]
        unfold mB2
        rw [bo0_fr (by decide)]
        exact hr2 _ f1 (by grind)
      change E mX6_begin 85 [.inr (8, 0), .inl (mB1 τ n mm).1, .inl (nI (j + 1))] [] (brStep j (itS brStep j (mB2 τ n mm))) _ _ at ih
      generalize itS brStep j (mB2 τ n mm) = s at ih hp hb ⊢
      clear q18 hr2 hr
      refine e_iload_n dX6_begin_85 rfl ?_
      refine e_aload_n dX6_begin_86 rfl ?_
      refine e_getI kX6 (by first | assumption | exact ⟨by decide, rfl⟩) (by decide) fX6_139 rfl dX6_begin_87 ?_
      refine e_icmp_ge (tgt := 125) dX6_begin_90 (by decide) (fun h90 => ?_) (fun h90 => ?_)
      · exfalso
        grind
      refine e_aload_n dX6_begin_93 rfl ?_
      refine e_getA kX6 (by first | assumption | exact ⟨by decide, rfl⟩) (by decide) fX6_41 rfl dX6_begin_94 ?_
      refine e_iload_n dX6_begin_97 rfl ?_
      refine e_iald (ci := 6) (by first | assumption | exact ⟨by decide, rfl⟩) rfl (vin 48 (by decide) (by grind)) dX6_begin_98 ?_
      refine e_if_lt (tgt := 119) dX6_begin_99 (by decide) (fun h99 => ?_) (fun h99 => ?_)
      ·
        refine e_inc (1) (by decide) dX6_begin_119 rfl (by decide) (Nat.le_of_ble_eq_true rfl) ?_
        refine e_goto (tgt := 85) dX6_begin_122 (by decide) ?_
        unfold brStep at ih
        first | rw [if_pos (by grind)] at ih | rw [if_neg (by grind)] at ih
        exact e_to ih (by first | rfl | (simp [lset]; done) | (simp [lset]; grind)) rfl
      ·
        refine e_aload_n dX6_begin_102 rfl ?_
        refine e_getA kX6 (by first | assumption | exact ⟨by decide, rfl⟩) (by decide) fX6_44 rfl dX6_begin_103 ?_
        refine e_bipush (v := 24) dX6_begin_106 (by decide) ?_
        refine e_aload_n dX6_begin_108 rfl ?_
        refine e_getA kX6 (by first | assumption | exact ⟨by decide, rfl⟩) (by decide) fX6_41 rfl dX6_begin_109 ?_
        refine e_iload_n dX6_begin_112 rfl ?_
        refine e_iald (ci := 6) (by first | assumption | exact ⟨by decide, rfl⟩) rfl (vin 48 (by decide) (by grind)) dX6_begin_113 ?_
        refine e_imul dX6_begin_114 ?_
        refine e_iload_n dX6_begin_115 rfl ?_
        refine e_iadd dX6_begin_116 ?_
        refine e_iconst (v := 1) dX6_begin_117 (by decide) ?_
        refine e_zast (ci := 6) (by first | assumption | exact ⟨by decide, rfl⟩) rfl (vin 288 (by decide) (by grind)) (by first | exact bI_or | simp) dX6_begin_118 ?_
        refine e_inc (1) (by decide) dX6_begin_119 rfl (by decide) (Nat.le_of_ble_eq_true rfl) ?_
        refine e_goto (tgt := 85) dX6_begin_122 (by decide) ?_
        unfold brStep at ih
        first | rw [if_pos (by grind)] at ih | rw [if_neg (by grind)] at ih
        exact e_to ih (by first | rfl | (simp [lset]; done) | (simp [lset]; grind)) rfl
  have l1 : ∀ j, j ≤ 288 → E mX6_begin 63 [.inr (8, 0), .inl (mB1 τ n mm).1, .inl (nI j)] [] (bo0 j (mB1 τ n mm).2) (some (.inl (mB1 τ n mm).1)) (itS brStep mm (mB2 τ n mm)) := by
    refine dn_ind 288 _ ?_ (fun j hj ih => ?_)
    · have e288 : nI 288 = 288 := rfl
      refine e_iload_n dX6_begin_63 rfl ?_
      refine e_sipush (v := 288) dX6_begin_64 (by decide) ?_
      refine e_icmp_ge (tgt := 83) dX6_begin_67 (by decide) (fun h67 => ?_) (fun h67 => ?_)
      rotate_left
      · exfalso
        grind
      refine e_iconst (v := 0) dX6_begin_83 (by decide) ?_
      refine e_istore_n dX6_begin_84 (by decide) (Nat.le_of_ble_eq_true rfl) ?_
      exact e_to (l2 0 (Nat.zero_le _)) (by first | rfl | (simp [lset]; done) | (simp [lset]; grind)) rfl
    · obtain ⟨f1, f2, f3, f4⟩ := nI_facts 288 hj (Nat.le_refl _) (by decide) rfl
      have e288 : nI 288 = 288 := rfl
      clear q18 hr2 hr l2
      refine e_iload_n dX6_begin_63 rfl ?_
      refine e_sipush (v := 288) dX6_begin_64 (by decide) ?_
      refine e_icmp_ge (tgt := 83) dX6_begin_67 (by decide) (fun h67 => ?_) (fun h67 => ?_)
      · exfalso
        grind
      refine e_aload_n dX6_begin_70 rfl ?_
      refine e_getA kX6 (by first | assumption | exact ⟨by decide, rfl⟩) (by decide) fX6_44 rfl dX6_begin_71 ?_
      refine e_iload_n dX6_begin_74 rfl ?_
      refine e_iconst (v := 0) dX6_begin_75 (by decide) ?_
      refine e_zast (ci := 6) (by first | assumption | exact ⟨by decide, rfl⟩) rfl (vin 288 (by decide) (by grind)) (by first | exact bI_or | simp) dX6_begin_76 ?_
      refine e_inc (1) (by decide) dX6_begin_77 rfl (by decide) (Nat.le_of_ble_eq_true rfl) ?_
      refine e_goto (tgt := 63) dX6_begin_80 (by decide) ?_
      exact e_to ih (by first | rfl | (simp [lset]; done) | (simp [lset]; grind)) rfl
  clear q18 hr2
  refine e_aload_n dX6_begin_0 rfl ?_
  refine e_iconst (v := 0) dX6_begin_1 (by decide) ?_
  refine e_putI kX6 (by first | assumption | exact ⟨by decide, rfl⟩) (by decide) fX6_75 rfl rfl rfl dX6_begin_2 ?_
  rw [hz]
  refine e_aload_n dX6_begin_5 rfl ?_
  refine e_getI kX6 (by first | assumption | exact ⟨by decide, rfl⟩) (by decide) fX6_132 rfl dX6_begin_6 ?_
  refine e_if_ne (tgt := 21) dX6_begin_9 (by decide) (fun h9 => ?_) (fun h9 => ?_)
  ·
    refine e_iconst (v := -1) dX6_begin_21 (by decide) ?_
    exact e_ireq rfl rfl dX6_begin_22 (by rw [if_neg (by grind)]) (by rw [if_neg (by grind)])
  ·
    refine e_aload_n dX6_begin_12 rfl ?_
    refine e_getI kX6 (by first | assumption | exact ⟨by decide, rfl⟩) (by decide) fX6_155 rfl dX6_begin_13 ?_
    refine e_bipush (v := 40) dX6_begin_16 (by decide) ?_
    refine e_icmp_ne (tgt := 23) dX6_begin_18 (by decide) (fun h18 => ?_) (fun h18 => ?_)
    ·
      refine e_aload_n dX6_begin_23 rfl ?_
      refine e_iconst (v := 1) dX6_begin_24 (by decide) ?_
      refine e_putZ kX6 (by first | assumption | exact ⟨by decide, rfl⟩) (by decide) fX6_132 rfl rfl rfl (by first | exact bI_or | simp) dX6_begin_25 ?_
      refine e_aload_n dX6_begin_28 rfl ?_
      refine e_dup dX6_begin_29 ?_
      refine e_getI kX6 (by first | assumption | exact ⟨by decide, rfl⟩) (by decide) fX6_155 rfl dX6_begin_30 ?_
      refine e_iconst (v := 1) dX6_begin_33 (by decide) ?_
      refine e_iadd dX6_begin_34 ?_
      refine e_putI kX6 (by first | assumption | exact ⟨by decide, rfl⟩) (by decide) fX6_155 rfl rfl rfl dX6_begin_35 ?_
      refine e_aload_n dX6_begin_38 rfl ?_
      refine e_iconst (v := 0) dX6_begin_39 (by decide) ?_
      refine e_putI kX6 (by first | assumption | exact ⟨by decide, rfl⟩) (by decide) fX6_162 rfl rfl rfl dX6_begin_40 ?_
      refine e_aload_n dX6_begin_43 rfl ?_
      refine e_iconst (v := 0) dX6_begin_44 (by decide) ?_
      refine e_putI kX6 (by first | assumption | exact ⟨by decide, rfl⟩) (by decide) fX6_165 rfl rfl rfl dX6_begin_45 ?_
      rw [up_k (by decide)]
      change E _ _ _ _ (mB0 τ) _ _
      refine e_aload_n dX6_begin_48 rfl ?_
      refine e_iconst (v := 0) dX6_begin_49 (by decide) ?_
      refine e_iconst (v := 0) dX6_begin_50 (by decide) ?_
      refine e_aload_n dX6_begin_51 rfl ?_
      refine e_getI kX6 (by first | assumption | exact ⟨by decide, rfl⟩) (by decide) fX6_155 rfl dX6_begin_52 ?_
      rw [show mB0 τ 8 15 0 = τ 8 15 0 + 1 from by simp [mB0, up]]
      refine e_iconst (v := 1) dX6_begin_55 (by decide) ?_
      refine e_isub dX6_begin_56 ?_
      refine e_V3 oX6_fill lX6_168 ⟨Nat.le_of_ble_eq_true rfl, Nat.le_of_ble_eq_true rfl⟩ dX6_begin_57 (by first | assumption | exact ⟨by decide, rfl⟩) (Nat.le_of_ble_eq_true rfl) (c_X6_fill (n := n) (mm := mm) (by rw [mB0_fr (by decide)]; exact hn) hn2 (by rw [mB0_fr (by decide)]; exact hpl) hmm (by decide) (by decide)) ?_
      refine e_istore_n dX6_begin_60 (by decide) (Nat.le_of_ble_eq_true rfl) ?_
      refine e_iconst (v := 0) dX6_begin_61 (by decide) ?_
      refine e_istore_n dX6_begin_62 (by decide) (Nat.le_of_ble_eq_true rfl) ?_
      rw [if_pos (by grind), if_pos (by grind)]
      exact e_to (l1 0 (Nat.zero_le _)) (by first | rfl | (simp [lset]; done) | (simp [lset]; grind)) rfl
    ·
      refine e_iconst (v := -1) dX6_begin_21 (by decide) ?_
      exact e_ireq rfl rfl dX6_begin_22 (by rw [if_neg (by grind)]) (by rw [if_neg (by grind)])
-- end
theorem jgM_rng {σ : rS} {k : Int32} (h : MIr σ) (hg : rgB σ k) : MIr (jgM σ k) := by
  intro p h1 h2
  have h3 := h p h1 h2
  obtain ⟨q1, q2, q3, q4, q5, q6⟩ := hg
  clear h
  unfold jgM sOv
  split
  · simp only [up]; grind
  · simp only [up]; grind
theorem eg_rng {σ : rS} {c : Nat} (h : MIr σ) (hg : MIg σ c) (hc : c ≤ 40) : ∀ j, j ≤ c → MIr (itS egStep j σ) := by
  intro j
  induction j with
  | zero => intro _; exact h
  | succ j ih =>
    intro hj
    have ih := ih (by omega)
    have hgj : rgB (itS egStep j σ) (nI j) := by
      unfold rgB
      rw [eg_fr (by decide), eg_fr (by decide), eg_fr (by decide)]
      exact hg _ (nI_pos' (by omega)) (nI_lt (by omega) (by omega))
    show MIr (egStep j (itS egStep j σ))
    generalize itS egStep j σ = s at ih hgj ⊢
    unfold egStep
    split
    · exact jgM_rng ih hgj
    · exact ih
def ysStep (j : Nat) (τ : rS) : rS := if 0 ≤ τ 8 18 (nI j) then up τ 8 14 (τ 8 18 (nI j)) (τ 8 14 (τ 8 18 (nI j)) + 1) else τ
theorem ys_fr {σ : rS} {o' k' : Nat} {i' : Int32} (h : ¬ (o' = 8 ∧ k' = 14)) : ∀ j, itS ysStep j σ o' k' i' = σ o' k' i' := by
  intro j
  induction j with
  | zero => rfl
  | succ j ih =>
    show ysStep j (itS ysStep j σ) o' k' i' = _
    generalize itS ysStep j σ = s at ih ⊢
    unfold ysStep
    split
    · simp only [up]; grind
    · exact ih
abbrev mE1 (τ : rS) (mm c : Nat) : rS := itS ysStep mm (itS egStep c τ)
abbrev mE2 (τ : rS) (mm c : Nat) : Int32 × rS := enG 0 0 (τ 8 15 0 - 1) (mE1 τ mm c) mm
abbrev mE3 (τ : rS) (mm c : Nat) : rS := up (up (mE2 τ mm c).2 8 20 0 (τ 8 20 0 + (mE2 τ mm c).1)) 8 16 0 0
theorem c_X6_end {τ : rS} {n mm c : Nat} {σ : rS} (hz : up σ 8 2 0 0 = τ) (hM : MI τ n mm c) : Ct mX6_end [.inr (8, 0)] σ (some (.inl (if ¬ τ 8 16 0 = 0 then (mE2 τ mm c).1 else -1))) (if ¬ τ 8 16 0 = 0 then mE3 τ mm c else τ) := by
  refine C_of_E rfl rfl (Nat.le_of_ble_eq_true rfl) ?_
  obtain ⟨hn, hn2, hpl, hmm, hc, hc2, hu, hr, hg⟩ := hM
  have hr1 : MIr (itS egStep c τ) := eg_rng hr hg hc2 c (Nat.le_refl _)
  have l2 : ∀ j, j ≤ mm → E mX6_end 45 [.inr (8, 0), .inl (nI j)] [] (itS ysStep j (itS egStep c τ)) (some (.inl (mE2 τ mm c).1)) (mE3 τ mm c) := by
    refine dn_ind mm _ ?_ (fun j hj ih => ?_)
    · have hp : itS ysStep mm (itS egStep c τ) 8 6 0 = nI mm := (ys_fr (by decide) mm).trans ((eg_fr (by decide) c).trans hpl)
      have hu2 : MIu (mE1 τ mm c) mm := by
        intro p h1 h2
        have e7 : ∀ i, mE1 τ mm c 8 7 i = τ 8 7 i := fun i => (ys_fr (by decide) mm).trans (eg_fr (by decide) c)
        have e4 : ∀ i, mE1 τ mm c 8 4 i = τ 8 4 i := fun i => (ys_fr (by decide) mm).trans (eg_fr (by decide) c)
        rw [e7, e4]
        exact hu p h1 h2
      have hr2 : MIr (mE1 τ mm c) := fun p h1 h2 => by unfold mE1; rw [ys_fr (by decide)]; exact hr1 p h1 h2
      have e15 : itS ysStep mm (itS egStep c τ) 8 15 0 = τ 8 15 0 := (ys_fr (by decide) mm).trans (eg_fr (by decide) c)
      have e20 : (mE2 τ mm c).2 8 20 0 = τ 8 20 0 := (enG_fr (by decide) mm).trans ((ys_fr (by decide) mm).trans (eg_fr (by decide) c))
      refine e_iload_n dX6_end_45 rfl ?_
      refine e_aload_n dX6_end_46 rfl ?_
      refine e_getI kX6 (by first | assumption | exact ⟨by decide, rfl⟩) (by decide) fX6_139 rfl dX6_end_47 ?_
      refine e_icmp_ge (tgt := 83) dX6_end_50 (by decide) (fun h50 => ?_) (fun h50 => ?_)
      rotate_left
      · exfalso
        grind
      refine e_aload_n dX6_end_83 rfl ?_
      refine e_iconst (v := 0) dX6_end_84 (by decide) ?_
      refine e_iconst (v := 0) dX6_end_85 (by decide) ?_
      refine e_aload_n dX6_end_86 rfl ?_
      refine e_getI kX6 (by first | assumption | exact ⟨by decide, rfl⟩) (by decide) fX6_155 rfl dX6_end_87 ?_
      rw [e15]
      refine e_iconst (v := 1) dX6_end_90 (by decide) ?_
      refine e_isub dX6_end_91 ?_
      refine e_V3 oX6_ends lX6_188 ⟨Nat.le_of_ble_eq_true rfl, Nat.le_of_ble_eq_true rfl⟩ dX6_end_92 (by first | assumption | exact ⟨by decide, rfl⟩) (Nat.le_of_ble_eq_true rfl) (c_X6_ends (mm := mm) hp hmm (by decide) (by decide) hu2 hr2) ?_
      refine e_istore_n dX6_end_95 (by decide) (Nat.le_of_ble_eq_true rfl) ?_
      refine e_aload_n dX6_end_96 rfl ?_
      refine e_dup dX6_end_97 ?_
      refine e_getI kX6 (by first | assumption | exact ⟨by decide, rfl⟩) (by decide) fX6_191 rfl dX6_end_98 ?_
      rw [e20]
      refine e_iload_n dX6_end_101 rfl ?_
      refine e_iadd dX6_end_102 ?_
      refine e_putI kX6 (by first | assumption | exact ⟨by decide, rfl⟩) (by decide) fX6_191 rfl rfl rfl dX6_end_103 ?_
      refine e_aload_n dX6_end_106 rfl ?_
      refine e_iconst (v := 0) dX6_end_107 (by decide) ?_
      refine e_putZ kX6 (by first | assumption | exact ⟨by decide, rfl⟩) (by decide) fX6_132 rfl rfl rfl (by first | exact bI_or | simp) dX6_end_108 ?_
      refine e_iload_n dX6_end_111 rfl ?_
      exact e_ireq rfl rfl dX6_end_112 (by first | rfl | grind) rfl
    · have hp : itS ysStep j (itS egStep c τ) 8 6 0 = nI mm := (ys_fr (by decide) j).trans ((eg_fr (by decide) c).trans hpl)
      obtain ⟨f1, f2, f3, f4⟩ := nI_facts 24 hj hmm (by decide) rfl
      have hb : -1 ≤ itS ysStep j (itS egStep c τ) 8 18 (nI j) ∧ itS ysStep j (itS egStep c τ) 8 18 (nI j) < 12 := by
        rw [ys_fr (by decide)]
        exact hr1 _ f1 (by grind)
      change E mX6_end 45 [.inr (8, 0), .inl (nI (j + 1))] [] (ysStep j (itS ysStep j (itS egStep c τ))) _ _ at ih
      generalize itS ysStep j (itS egStep c τ) = s at ih hp hb ⊢
      refine e_iload_n dX6_end_45 rfl ?_
      refine e_aload_n dX6_end_46 rfl ?_
      refine e_getI kX6 (by first | assumption | exact ⟨by decide, rfl⟩) (by decide) fX6_139 rfl dX6_end_47 ?_
      refine e_icmp_ge (tgt := 83) dX6_end_50 (by decide) (fun h50 => ?_) (fun h50 => ?_)
      · exfalso
        grind
      refine e_aload_n dX6_end_53 rfl ?_
      refine e_getA kX6 (by first | assumption | exact ⟨by decide, rfl⟩) (by decide) fX6_41 rfl dX6_end_54 ?_
      refine e_iload_n dX6_end_57 rfl ?_
      refine e_iald (ci := 6) (by first | assumption | exact ⟨by decide, rfl⟩) rfl (vin 48 (by decide) (by grind)) dX6_end_58 ?_
      refine e_if_lt (tgt := 77) dX6_end_59 (by decide) (fun h59 => ?_) (fun h59 => ?_)
      ·
        refine e_inc (1) (by decide) dX6_end_77 rfl (by decide) (Nat.le_of_ble_eq_true rfl) ?_
        refine e_goto (tgt := 45) dX6_end_80 (by decide) ?_
        unfold ysStep at ih
        first | rw [if_pos (by grind)] at ih | rw [if_neg (by grind)] at ih
        exact e_to ih (by first | rfl | (simp [lset]; done) | (simp [lset]; grind)) rfl
      ·
        refine e_aload_n dX6_end_62 rfl ?_
        refine e_getA kX6 (by first | assumption | exact ⟨by decide, rfl⟩) (by decide) fX6_38 rfl dX6_end_63 ?_
        refine e_aload_n dX6_end_66 rfl ?_
        refine e_getA kX6 (by first | assumption | exact ⟨by decide, rfl⟩) (by decide) fX6_41 rfl dX6_end_67 ?_
        refine e_iload_n dX6_end_70 rfl ?_
        refine e_iald (ci := 6) (by first | assumption | exact ⟨by decide, rfl⟩) rfl (vin 48 (by decide) (by grind)) dX6_end_71 ?_
        refine e_dup2 dX6_end_72 ?_
        refine e_iald (ci := 6) (by first | assumption | exact ⟨by decide, rfl⟩) rfl (vin 12 (by decide) (by grind)) dX6_end_73 ?_
        refine e_iconst (v := 1) dX6_end_74 (by decide) ?_
        refine e_iadd dX6_end_75 ?_
        refine e_iast (ci := 6) (by first | assumption | exact ⟨by decide, rfl⟩) rfl (vin 12 (by decide) (by grind)) dX6_end_76 ?_
        refine e_inc (1) (by decide) dX6_end_77 rfl (by decide) (Nat.le_of_ble_eq_true rfl) ?_
        refine e_goto (tgt := 45) dX6_end_80 (by decide) ?_
        unfold ysStep at ih
        first | rw [if_pos (by grind)] at ih | rw [if_neg (by grind)] at ih
        exact e_to ih (by first | rfl | (simp [lset]; done) | (simp [lset]; grind)) rfl
  have l1 : ∀ j, j ≤ c → E mX6_end 16 [.inr (8, 0), .inl (nI j)] [] (itS egStep j τ) (some (.inl (mE2 τ mm c).1)) (mE3 τ mm c) := by
    refine dn_ind c _ ?_ (fun j hj ih => ?_)
    · have hp : itS egStep c τ 8 21 0 = nI c := (eg_fr (by decide) c).trans hc
      refine e_iload_n dX6_end_16 rfl ?_
      refine e_aload_n dX6_end_17 rfl ?_
      refine e_getI kX6 (by first | assumption | exact ⟨by decide, rfl⟩) (by decide) fX6_165 rfl dX6_end_18 ?_
      refine e_icmp_ge (tgt := 43) dX6_end_21 (by decide) (fun h21 => ?_) (fun h21 => ?_)
      rotate_left
      · exfalso
        grind
      refine e_iconst (v := 0) dX6_end_43 (by decide) ?_
      refine e_istore_n dX6_end_44 (by decide) (Nat.le_of_ble_eq_true rfl) ?_
      exact e_to (l2 0 (Nat.zero_le _)) (by first | rfl | (simp [lset]; done) | (simp [lset]; grind)) rfl
    · have hp : itS egStep j τ 8 21 0 = nI c := (eg_fr (by decide) j).trans hc
      obtain ⟨f1, f2, f3, f4⟩ := nI_facts 40 hj hc2 (by decide) rfl
      have hgj : rgB (itS egStep j τ) (nI j) := by
        unfold rgB
        rw [eg_fr (by decide), eg_fr (by decide), eg_fr (by decide)]
        exact hg _ f1 f2
      change E mX6_end 16 [.inr (8, 0), .inl (nI (j + 1))] [] (egStep j (itS egStep j τ)) _ _ at ih
      generalize itS egStep j τ = s at ih hp hgj ⊢
      clear l2
      refine e_iload_n dX6_end_16 rfl ?_
      refine e_aload_n dX6_end_17 rfl ?_
      refine e_getI kX6 (by first | assumption | exact ⟨by decide, rfl⟩) (by decide) fX6_165 rfl dX6_end_18 ?_
      refine e_icmp_ge (tgt := 43) dX6_end_21 (by decide) (fun h21 => ?_) (fun h21 => ?_)
      · exfalso
        grind
      refine e_aload_n dX6_end_24 rfl ?_
      refine e_iload_n dX6_end_25 rfl ?_
      refine e_V1 oX6_isOpen lX6_182 ⟨Nat.le_of_ble_eq_true rfl, Nat.le_of_ble_eq_true rfl⟩ dX6_end_26 (by first | assumption | exact ⟨by decide, rfl⟩) (Nat.le_of_ble_eq_true rfl) (c_X6_isOpen (by grind)) ?_
      refine e_if_eqB (tgt := 37) dX6_end_29 (by decide) (fun h29 => ?_) (fun h29 => ?_)
      ·
        refine e_inc (1) (by decide) dX6_end_37 rfl (by decide) (Nat.le_of_ble_eq_true rfl) ?_
        refine e_goto (tgt := 16) dX6_end_40 (by decide) ?_
        unfold egStep at ih
        first | rw [if_pos (by grind)] at ih | rw [if_neg (by grind)] at ih
        exact e_to ih (by first | rfl | (simp [lset]; done) | (simp [lset]; grind)) rfl
      ·
        refine e_aload_n dX6_end_32 rfl ?_
        refine e_iload_n dX6_end_33 rfl ?_
        refine e_V1v oX6_judge lX6_185 ⟨Nat.le_of_ble_eq_true rfl, Nat.le_of_ble_eq_true rfl⟩ dX6_end_34 (by first | assumption | exact ⟨by decide, rfl⟩) (Nat.le_of_ble_eq_true rfl) (c_X6_judge (by grind) hgj) ?_
        refine e_inc (1) (by decide) dX6_end_37 rfl (by decide) (Nat.le_of_ble_eq_true rfl) ?_
        refine e_goto (tgt := 16) dX6_end_40 (by decide) ?_
        unfold egStep at ih
        first | rw [if_pos (by grind)] at ih | rw [if_neg (by grind)] at ih
        exact e_to ih (by first | rfl | (simp [lset]; done) | (simp [lset]; grind)) rfl
  refine e_aload_n dX6_end_0 rfl ?_
  refine e_iconst (v := 0) dX6_end_1 (by decide) ?_
  refine e_putI kX6 (by first | assumption | exact ⟨by decide, rfl⟩) (by decide) fX6_75 rfl rfl rfl dX6_end_2 ?_
  rw [hz]
  refine e_aload_n dX6_end_5 rfl ?_
  refine e_getI kX6 (by first | assumption | exact ⟨by decide, rfl⟩) (by decide) fX6_132 rfl dX6_end_6 ?_
  refine e_if_ne (tgt := 14) dX6_end_9 (by decide) (fun h9 => ?_) (fun h9 => ?_)
  ·
    refine e_iconst (v := 0) dX6_end_14 (by decide) ?_
    refine e_istore_n dX6_end_15 (by decide) (Nat.le_of_ble_eq_true rfl) ?_
    rw [if_pos (by grind), if_pos (by grind)]
    exact e_to (l1 0 (Nat.zero_le _)) (by first | rfl | (simp [lset]; done) | (simp [lset]; grind)) rfl
  ·
    refine e_iconst (v := -1) dX6_end_12 (by decide) ?_
    exact e_ireq rfl rfl dX6_end_13 (by rw [if_neg (by grind)]) (by rw [if_neg (by grind)])
theorem e_st {M : rM} {pc : Nat} {ls st st2 : List rV} {σ σ' : rS} {r : Option rV} (h : st = st2) (k : E M pc ls st2 σ r σ') : E M pc ls st σ r σ' := by
  subst h
  exact k
def wSel (a b c d e : Int32) (j : Nat) : Int32 := if nI j < 4 then a else if nI j < 8 then b else if nI j < 12 then c else if nI j < 16 then d else e
def fdStep (a b c d e : Int32) (j : Nat) (τ : rS) : rS := up τ 8 0 (τ 8 1 0 + nI j) ((wSel a b c d e j >>> ((24 - 8 * (nI j - nI j / 4 * 4)) &&& 31)) &&& 255)
theorem fd_fr {a b c d e : Int32} {σ : rS} {o' k' : Nat} {i' : Int32} (h : ¬ (o' = 8 ∧ k' = 0)) : ∀ j, itS (fdStep a b c d e) j σ o' k' i' = σ o' k' i' := by
  intro j
  induction j with
  | zero => rfl
  | succ j ih =>
    show fdStep a b c d e j (itS (fdStep a b c d e) j σ) o' k' i' = _
    generalize itS (fdStep a b c d e) j σ = s at ih ⊢
    unfold fdStep
    simp only [up]; grind
theorem c_X6_feed {a b c d e : Int32} {τ : rS} {σ : rS} (hz : up σ 8 2 0 0 = τ) (hl : 0 ≤ τ 8 1 0 ∧ τ 8 1 0 ≤ 600) : Ct mX6_feed [.inr (8, 0), .inl a, .inl b, .inl c, .inl d, .inl e] σ (some (.inl (if τ 8 1 0 + 20 ≤ 600 then τ 8 1 0 + 20 else -1))) (if τ 8 1 0 + 20 ≤ 600 then up (itS (fdStep a b c d e) 20 τ) 8 1 0 (τ 8 1 0 + 20) else τ) := by
  refine C_of_E rfl rfl (Nat.le_of_ble_eq_true rfl) ?_
  have loop : τ 8 1 0 + 20 ≤ 600 → ∀ j, j ≤ 20 → E mX6_feed 23 [.inr (8, 0), .inl a, .inl b, .inl c, .inl d, .inl e, .inl (nI j)] [] (itS (fdStep a b c d e) j τ) (some (.inl (τ 8 1 0 + 20))) (up (itS (fdStep a b c d e) 20 τ) 8 1 0 (τ 8 1 0 + 20)) := by
    intro hB
    refine dn_ind 20 _ ?_ (fun j hj ih => ?_)
    · have e20 : nI 20 = 20 := rfl
      have h1 : itS (fdStep a b c d e) 20 τ 8 1 0 = τ 8 1 0 := fd_fr (by decide) 20
      refine e_iload dX6_feed_23 rfl ?_
      refine e_bipush (v := 20) dX6_feed_25 (by decide) ?_
      refine e_icmp_ge (tgt := 113) dX6_feed_27 (by decide) (fun h27 => ?_) (fun h27 => ?_)
      rotate_left
      · exfalso
        grind
      refine e_aload_n dX6_feed_113 rfl ?_
      refine e_dup dX6_feed_114 ?_
      refine e_getI kX6 (by first | assumption | exact ⟨by decide, rfl⟩) (by decide) fX6_78 rfl dX6_feed_115 ?_
      rw [h1]
      refine e_bipush (v := 20) dX6_feed_118 (by decide) ?_
      refine e_iadd dX6_feed_120 ?_
      refine e_putI kX6 (by first | assumption | exact ⟨by decide, rfl⟩) (by decide) fX6_78 rfl rfl rfl dX6_feed_121 ?_
      refine e_aload_n dX6_feed_124 rfl ?_
      refine e_getI kX6 (by first | assumption | exact ⟨by decide, rfl⟩) (by decide) fX6_78 rfl dX6_feed_125 ?_
      exact e_ireq rfl rfl dX6_feed_128 (by simp [up]) rfl
    · obtain ⟨f1, f2, f3, f4⟩ := nI_facts 20 hj (Nat.le_refl _) (by decide) rfl
      have e20 : nI 20 = 20 := rfl
      have h1 : itS (fdStep a b c d e) j τ 8 1 0 = τ 8 1 0 := fd_fr (by decide) j
      change E mX6_feed 23 [.inr (8, 0), .inl a, .inl b, .inl c, .inl d, .inl e, .inl (nI (j + 1))] [] (fdStep a b c d e j (itS (fdStep a b c d e) j τ)) _ _ at ih
      generalize itS (fdStep a b c d e) j τ = s at ih h1 ⊢
      have tail : E mX6_feed 76 [.inr (8, 0), .inl a, .inl b, .inl c, .inl d, .inl e, .inl (nI j)] [.inl (wSel a b c d e j)] s (some (.inl (τ 8 1 0 + 20))) (up (itS (fdStep a b c d e) 20 τ) 8 1 0 (τ 8 1 0 + 20)) := by
        refine e_istore dX6_feed_76 (by decide) (Nat.le_of_ble_eq_true rfl) ?_
        refine e_aload_n dX6_feed_78 rfl ?_
        refine e_getA kX6 (by first | assumption | exact ⟨by decide, rfl⟩) (by decide) fX6_7 rfl dX6_feed_79 ?_
        refine e_aload_n dX6_feed_82 rfl ?_
        refine e_getI kX6 (by first | assumption | exact ⟨by decide, rfl⟩) (by decide) fX6_78 rfl dX6_feed_83 ?_
        refine e_iload dX6_feed_86 rfl ?_
        refine e_iadd dX6_feed_88 ?_
        refine e_iload dX6_feed_89 rfl ?_
        refine e_bipush (v := 24) dX6_feed_91 (by decide) ?_
        refine e_bipush (v := 8) dX6_feed_93 (by decide) ?_
        refine e_iload dX6_feed_95 rfl ?_
        refine e_iconst (v := 4) dX6_feed_97 (by decide) ?_
        refine e_irem dX6_feed_98 (by decide) ?_
        refine e_imul dX6_feed_99 ?_
        refine e_isub dX6_feed_100 ?_
        refine e_ishr dX6_feed_101 ?_
        refine e_sipush (v := 255) dX6_feed_102 (by decide) ?_
        refine e_iand dX6_feed_105 ?_
        refine e_iast (ci := 6) (by first | assumption | exact ⟨by decide, rfl⟩) rfl (vin 600 (by decide) (by grind)) dX6_feed_106 ?_
        refine e_inc (1) (by decide) dX6_feed_107 rfl (by decide) (Nat.le_of_ble_eq_true rfl) ?_
        refine e_goto (tgt := 23) dX6_feed_110 (by decide) ?_
        exact e_to ih (by first | rfl | (simp [lset]; done) | (simp [lset]; grind)) rfl
      refine e_iload dX6_feed_23 rfl ?_
      refine e_bipush (v := 20) dX6_feed_25 (by decide) ?_
      refine e_icmp_ge (tgt := 113) dX6_feed_27 (by decide) (fun h27 => ?_) (fun h27 => ?_)
      · exfalso
        grind
      refine e_iload dX6_feed_30 rfl ?_
      refine e_iconst (v := 4) dX6_feed_32 (by decide) ?_
      refine e_icmp_ge (tgt := 40) dX6_feed_33 (by decide) (fun h33 => ?_) (fun h33 => ?_)
      ·
        refine e_iload dX6_feed_40 rfl ?_
        refine e_bipush (v := 8) dX6_feed_42 (by decide) ?_
        refine e_icmp_ge (tgt := 51) dX6_feed_44 (by decide) (fun h44 => ?_) (fun h44 => ?_)
        ·
          refine e_iload dX6_feed_51 rfl ?_
          refine e_bipush (v := 12) dX6_feed_53 (by decide) ?_
          refine e_icmp_ge (tgt := 62) dX6_feed_55 (by decide) (fun h55 => ?_) (fun h55 => ?_)
          ·
            refine e_iload dX6_feed_62 rfl ?_
            refine e_bipush (v := 16) dX6_feed_64 (by decide) ?_
            refine e_icmp_ge (tgt := 74) dX6_feed_66 (by decide) (fun h66 => ?_) (fun h66 => ?_)
            ·
              refine e_iload dX6_feed_74 rfl ?_
              exact e_st (by unfold wSel; grind) tail
            ·
              refine e_iload dX6_feed_69 rfl ?_
              refine e_goto (tgt := 76) dX6_feed_71 (by decide) ?_
              exact e_st (by unfold wSel; grind) tail
          ·
            refine e_iload_n dX6_feed_58 rfl ?_
            refine e_goto (tgt := 76) dX6_feed_59 (by decide) ?_
            exact e_st (by unfold wSel; grind) tail
        ·
          refine e_iload_n dX6_feed_47 rfl ?_
          refine e_goto (tgt := 76) dX6_feed_48 (by decide) ?_
          exact e_st (by unfold wSel; grind) tail
      ·
        refine e_iload_n dX6_feed_36 rfl ?_
        refine e_goto (tgt := 76) dX6_feed_37 (by decide) ?_
        exact e_st (by unfold wSel; grind) tail
  refine e_aload_n dX6_feed_0 rfl ?_
  refine e_iconst (v := 0) dX6_feed_1 (by decide) ?_
  refine e_putI kX6 (by first | assumption | exact ⟨by decide, rfl⟩) (by decide) fX6_75 rfl rfl rfl dX6_feed_2 ?_
  rw [hz]
  refine e_aload_n dX6_feed_5 rfl ?_
  refine e_getI kX6 (by first | assumption | exact ⟨by decide, rfl⟩) (by decide) fX6_78 rfl dX6_feed_6 ?_
  refine e_bipush (v := 20) dX6_feed_9 (by decide) ?_
  refine e_iadd dX6_feed_11 ?_
  refine e_sipush (v := 600) dX6_feed_12 (by decide) ?_
  refine e_icmp_le (tgt := 20) dX6_feed_15 (by decide) (fun h15 => ?_) (fun h15 => ?_)
  ·
    refine e_iconst (v := 0) dX6_feed_20 (by decide) ?_
    refine e_istore dX6_feed_21 (by decide) (Nat.le_of_ble_eq_true rfl) ?_
    rw [if_pos (by grind), if_pos (by grind)]
    exact e_to (loop (by grind) 0 (Nat.zero_le _)) (by first | rfl | (simp [lset]; done) | (simp [lset]; grind)) rfl
  ·
    refine e_iconst (v := -1) dX6_feed_18 (by decide) ?_
    exact e_ireq rfl rfl dX6_feed_19 (by rw [if_neg (by grind)]) (by rw [if_neg (by grind)])
