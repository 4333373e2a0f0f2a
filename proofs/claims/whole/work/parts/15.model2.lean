-- the reference: years, challenges
/-- how many places of the burden ahead are borne -/
def pbF (σ : rS) (p row : Int32) : Nat → Int32
  | 0 => 0
  | j + 1 => if σ 8 7 (nI j) = σ 8 7 p ∧ 0 ≤ σ 8 18 (row + nI j) then pbF σ p row j + 1 else pbF σ p row j
abbrev paM (σ : rS) (p row : Int32) (j : Nat) : Int32 := σ 8 3 (σ 8 7 p) / σ 8 4 (σ 8 7 p) + (if pbF σ p row j < σ 8 3 (σ 8 7 p) - σ 8 3 (σ 8 7 p) / σ 8 4 (σ 8 7 p) * σ 8 4 (σ 8 7 p) then 1 else 0)
theorem c_X6_pays {p row : Int32} {j0 : Nat} {σ : rS} (hp : p = nI j0) (hj0 : j0 < 24) (hb : 0 ≤ row ∧ row ≤ 24) (hu : 0 ≤ σ 8 7 p ∧ σ 8 7 p < 6 ∧ 1 ≤ σ 8 4 (σ 8 7 p)) : Ct mX6_pays [.inr (8, 0), .inl p, .inl row] σ (some (.inl (paM σ p row j0))) (σ) := by
  refine C_of_E rfl rfl (Nat.le_of_ble_eq_true rfl) ?_
  have hp2 : 0 ≤ p ∧ p < 24 := by subst hp; exact ⟨nI_pos' (by omega), nI_lt (b := 24) hj0 (by decide)⟩
  have loop : ∀ j, j ≤ j0 → E mX6_pays 13 [.inr (8, 0), .inl p, .inl row, .inl (σ 8 7 p), .inl (pbF σ p row j), .inl (nI j)] [] σ (some (.inl (paM σ p row j0))) σ := by
    refine dn_ind j0 _ ?_ (fun j hj ih => ?_)
    ·
      refine e_iload dX6_pays_13 rfl ?_
      refine e_iload_n dX6_pays_15 rfl ?_
      refine e_icmp_ge (tgt := 58) dX6_pays_16 (by decide) (fun h16 => ?_) (fun h16 => ?_)
      rotate_left
      · exfalso
        grind
      refine e_aload_n dX6_pays_58 rfl ?_
      refine e_getA kX6 (by first | assumption | exact ⟨by decide, rfl⟩) (by decide) fX6_13 rfl dX6_pays_59 ?_
      refine e_iload_n dX6_pays_62 rfl ?_
      refine e_iald (ci := 6) (by first | assumption | exact ⟨by decide, rfl⟩) rfl (vin 12 (by decide) (by grind)) dX6_pays_63 ?_
      refine e_aload_n dX6_pays_64 rfl ?_
      refine e_getA kX6 (by first | assumption | exact ⟨by decide, rfl⟩) (by decide) fX6_16 rfl dX6_pays_65 ?_
      refine e_iload_n dX6_pays_68 rfl ?_
      refine e_iald (ci := 6) (by first | assumption | exact ⟨by decide, rfl⟩) rfl (vin 12 (by decide) (by grind)) dX6_pays_69 ?_
      refine e_idiv dX6_pays_70 (by grind) ?_
      refine e_iload dX6_pays_71 rfl ?_
      refine e_aload_n dX6_pays_73 rfl ?_
      refine e_getA kX6 (by first | assumption | exact ⟨by decide, rfl⟩) (by decide) fX6_13 rfl dX6_pays_74 ?_
      refine e_iload_n dX6_pays_77 rfl ?_
      refine e_iald (ci := 6) (by first | assumption | exact ⟨by decide, rfl⟩) rfl (vin 12 (by decide) (by grind)) dX6_pays_78 ?_
      refine e_aload_n dX6_pays_79 rfl ?_
      refine e_getA kX6 (by first | assumption | exact ⟨by decide, rfl⟩) (by decide) fX6_16 rfl dX6_pays_80 ?_
      refine e_iload_n dX6_pays_83 rfl ?_
      refine e_iald (ci := 6) (by first | assumption | exact ⟨by decide, rfl⟩) rfl (vin 12 (by decide) (by grind)) dX6_pays_84 ?_
      refine e_irem dX6_pays_85 (by grind) ?_
      refine e_icmp_ge (tgt := 93) dX6_pays_86 (by decide) (fun h86 => ?_) (fun h86 => ?_)
      ·
        refine e_iconst (v := 0) dX6_pays_93 (by decide) ?_
        refine e_iadd dX6_pays_94 ?_
        exact e_ireq rfl rfl dX6_pays_95 (by grind) rfl
      ·
        refine e_iconst (v := 1) dX6_pays_89 (by decide) ?_
        refine e_goto (tgt := 94) dX6_pays_90 (by decide) ?_
        refine e_iadd dX6_pays_94 ?_
        exact e_ireq rfl rfl dX6_pays_95 (by grind) rfl
    · obtain ⟨f1, f2, f3, f4⟩ := nI_facts 24 hj (Nat.le_of_lt hj0) (by decide) rfl
      refine e_iload dX6_pays_13 rfl ?_
      refine e_iload_n dX6_pays_15 rfl ?_
      refine e_icmp_ge (tgt := 58) dX6_pays_16 (by decide) (fun h16 => ?_) (fun h16 => ?_)
      · exfalso
        grind
      refine e_iload dX6_pays_19 rfl ?_
      refine e_aload_n dX6_pays_21 rfl ?_
      refine e_getA kX6 (by first | assumption | exact ⟨by decide, rfl⟩) (by decide) fX6_22 rfl dX6_pays_22 ?_
      refine e_iload dX6_pays_25 rfl ?_
      refine e_iald (ci := 6) (by first | assumption | exact ⟨by decide, rfl⟩) rfl (vin 24 (by decide) (by grind)) dX6_pays_27 ?_
      refine e_iload_n dX6_pays_28 rfl ?_
      refine e_icmp_ne (tgt := 48) dX6_pays_29 (by decide) (fun h29 => ?_) (fun h29 => ?_)
      ·
        refine e_iconst (v := 0) dX6_pays_48 (by decide) ?_
        refine e_iadd dX6_pays_49 ?_
        refine e_istore dX6_pays_50 (by decide) (Nat.le_of_ble_eq_true rfl) ?_
        refine e_inc (1) (by decide) dX6_pays_52 rfl (by decide) (Nat.le_of_ble_eq_true rfl) ?_
        refine e_goto (tgt := 13) dX6_pays_55 (by decide) ?_
        exact e_to ih (by first | rfl | (simp [lset]; done) | (simp [lset]; grind [pbF])) rfl
      ·
        refine e_aload_n dX6_pays_32 rfl ?_
        refine e_getA kX6 (by first | assumption | exact ⟨by decide, rfl⟩) (by decide) fX6_41 rfl dX6_pays_33 ?_
        refine e_iload_n dX6_pays_36 rfl ?_
        refine e_iload dX6_pays_37 rfl ?_
        refine e_iadd dX6_pays_39 ?_
        refine e_iald (ci := 6) (by first | assumption | exact ⟨by decide, rfl⟩) rfl (vin 48 (by decide) (by grind)) dX6_pays_40 ?_
        refine e_if_lt (tgt := 48) dX6_pays_41 (by decide) (fun h41 => ?_) (fun h41 => ?_)
        ·
          refine e_iconst (v := 0) dX6_pays_48 (by decide) ?_
          refine e_iadd dX6_pays_49 ?_
          refine e_istore dX6_pays_50 (by decide) (Nat.le_of_ble_eq_true rfl) ?_
          refine e_inc (1) (by decide) dX6_pays_52 rfl (by decide) (Nat.le_of_ble_eq_true rfl) ?_
          refine e_goto (tgt := 13) dX6_pays_55 (by decide) ?_
          exact e_to ih (by first | rfl | (simp [lset]; done) | (simp [lset]; grind [pbF])) rfl
        ·
          refine e_iconst (v := 1) dX6_pays_44 (by decide) ?_
          refine e_goto (tgt := 49) dX6_pays_45 (by decide) ?_
          refine e_iadd dX6_pays_49 ?_
          refine e_istore dX6_pays_50 (by decide) (Nat.le_of_ble_eq_true rfl) ?_
          refine e_inc (1) (by decide) dX6_pays_52 rfl (by decide) (Nat.le_of_ble_eq_true rfl) ?_
          refine e_goto (tgt := 13) dX6_pays_55 (by decide) ?_
          exact e_to ih (by first | rfl | (simp [lset]; done) | (simp [lset]; grind [pbF])) rfl
  refine e_aload_n dX6_pays_0 rfl ?_
  refine e_getA kX6 (by first | assumption | exact ⟨by decide, rfl⟩) (by decide) fX6_22 rfl dX6_pays_1 ?_
  refine e_iload_n dX6_pays_4 rfl ?_
  refine e_iald (ci := 6) (by first | assumption | exact ⟨by decide, rfl⟩) rfl (vin 24 (by decide) (by grind)) dX6_pays_5 ?_
  refine e_istore_n dX6_pays_6 (by decide) (Nat.le_of_ble_eq_true rfl) ?_
  refine e_iconst (v := 0) dX6_pays_7 (by decide) ?_
  refine e_istore dX6_pays_8 (by decide) (Nat.le_of_ble_eq_true rfl) ?_
  refine e_iconst (v := 0) dX6_pays_10 (by decide) ?_
  refine e_istore dX6_pays_11 (by decide) (Nat.le_of_ble_eq_true rfl) ?_
  exact e_to (loop 0 (Nat.zero_le _)) (by first | rfl | (simp [lset]; done) | (simp [lset]; grind)) rfl
def enStep (coins row year : Int32) (j : Nat) (s : Int32 × rS) : Int32 × rS := if s.2 8 18 (row + nI j) < 0 then s else (s.1 + paM s.2 (nI j) row j, up (up s.2 8 11 (coins + s.2 8 18 (row + nI j)) (s.2 8 11 (coins + s.2 8 18 (row + nI j)) - paM s.2 (nI j) row j)) 8 13 (coins + s.2 8 18 (row + nI j)) (year + s.2 8 5 0 + 1))
abbrev enG (coins row year : Int32) (σ : rS) (j : Nat) : Int32 × rS := itP (enStep coins row year) j (0, σ)
theorem enG_fr {σ : rS} {coins row year : Int32} {o' k' : Nat} {i' : Int32} (h : ¬ (o' = 8 ∧ (k' = 11 ∨ k' = 13))) : ∀ j, (enG coins row year σ j).2 o' k' i' = σ o' k' i' := by
  intro j
  induction j with
  | zero => rfl
  | succ j ih =>
    show (enStep coins row year j (enG coins row year σ j)).2 o' k' i' = _
    generalize enG coins row year σ j = s at ih ⊢
    unfold enStep
    split
    · exact ih
    · simp only [up]; grind
theorem c_X6_ends {coins row year : Int32} {mm : Nat} {σ : rS} (hpl : σ 8 6 0 = nI mm) (hmm : mm ≤ 24) (hb : 0 ≤ row ∧ row ≤ 24) (hc : 0 ≤ coins ∧ coins ≤ 12) (hu : MIu σ mm) (hr : MIr σ) : Ct mX6_ends [.inr (8, 0), .inl coins, .inl row, .inl year] σ (some (.inl ((enG coins row year σ mm).1))) ((enG coins row year σ mm).2) := by
  refine C_of_E rfl rfl (Nat.le_of_ble_eq_true rfl) ?_
  have loop : ∀ j, j ≤ mm → E mX6_ends 6 [.inr (8, 0), .inl coins, .inl row, .inl year, .inl (enG coins row year σ j).1, .inl (nI j)] [] (enG coins row year σ j).2 (some (.inl (enG coins row year σ mm).1)) (enG coins row year σ mm).2 := by
    refine dn_ind mm _ ?_ (fun j hj ih => ?_)
    · have hp : (enG coins row year σ mm).2 8 6 0 = nI mm := by rw [enG_fr (by decide)]; exact hpl
      refine e_iload dX6_ends_6 rfl ?_
      refine e_aload_n dX6_ends_8 rfl ?_
      refine e_getI kX6 (by first | assumption | exact ⟨by decide, rfl⟩) (by decide) fX6_139 rfl dX6_ends_9 ?_
      refine e_icmp_ge (tgt := 89) dX6_ends_12 (by decide) (fun h12 => ?_) (fun h12 => ?_)
      rotate_left
      · exfalso
        grind
      refine e_iload dX6_ends_89 rfl ?_
      exact e_ireq rfl rfl dX6_ends_91 (by first | rfl | grind) rfl
    · have hp : (enG coins row year σ j).2 8 6 0 = nI mm := by rw [enG_fr (by decide)]; exact hpl
      have h7 : ∀ i, (enG coins row year σ j).2 8 7 i = σ 8 7 i := fun i => enG_fr (by decide) j
      have h4 : ∀ i, (enG coins row year σ j).2 8 4 i = σ 8 4 i := fun i => enG_fr (by decide) j
      have h18 : ∀ i, (enG coins row year σ j).2 8 18 i = σ 8 18 i := fun i => enG_fr (by decide) j
      obtain ⟨f1, f2, f3, f4⟩ := nI_facts 24 hj hmm (by decide) rfl
      change E mX6_ends 6 [.inr (8, 0), .inl coins, .inl row, .inl year, .inl (enStep coins row year j (enG coins row year σ j)).1, .inl (nI (j + 1))] [] (enStep coins row year j (enG coins row year σ j)).2 _ _ at ih
      generalize enG coins row year σ j = s at ih hp h7 h4 h18 ⊢
      have hj9 := hr (row + nI j) (by grind) (by grind)
      have hj8 := h18 (row + nI j)
      have hjp : 0 ≤ s.2 8 7 (nI j) ∧ s.2 8 7 (nI j) < 6 ∧ 1 ≤ s.2 8 4 (s.2 8 7 (nI j)) := by rw [h7, h4]; exact hu _ f1 f2
      clear h7 h4 h18
      refine e_iload dX6_ends_6 rfl ?_
      refine e_aload_n dX6_ends_8 rfl ?_
      refine e_getI kX6 (by first | assumption | exact ⟨by decide, rfl⟩) (by decide) fX6_139 rfl dX6_ends_9 ?_
      refine e_icmp_ge (tgt := 89) dX6_ends_12 (by decide) (fun h12 => ?_) (fun h12 => ?_)
      · exfalso
        grind
      refine e_aload_n dX6_ends_15 rfl ?_
      refine e_getA kX6 (by first | assumption | exact ⟨by decide, rfl⟩) (by decide) fX6_41 rfl dX6_ends_16 ?_
      refine e_iload_n dX6_ends_19 rfl ?_
      refine e_iload dX6_ends_20 rfl ?_
      refine e_iadd dX6_ends_22 ?_
      refine e_iald (ci := 6) (by first | assumption | exact ⟨by decide, rfl⟩) rfl (vin 48 (by decide) (by grind)) dX6_ends_23 ?_
      refine e_istore dX6_ends_24 (by decide) (Nat.le_of_ble_eq_true rfl) ?_
      refine e_iload dX6_ends_26 rfl ?_
      refine e_if_ge (tgt := 34) dX6_ends_28 (by decide) (fun h28 => ?_) (fun h28 => ?_)
      ·
        refine e_aload_n dX6_ends_34 rfl ?_
        refine e_iload dX6_ends_35 rfl ?_
        refine e_iload_n dX6_ends_37 rfl ?_
        refine e_V2 oX6_pays lX6_172 ⟨Nat.le_of_ble_eq_true rfl, Nat.le_of_ble_eq_true rfl⟩ dX6_ends_38 (by first | assumption | exact ⟨by decide, rfl⟩) (Nat.le_of_ble_eq_true rfl) (c_X6_pays rfl (by omega) hb hjp) ?_
        refine e_istore dX6_ends_41 (by decide) (Nat.le_of_ble_eq_true rfl) ?_
        refine e_iload dX6_ends_43 rfl ?_
        refine e_iload dX6_ends_45 rfl ?_
        refine e_iadd dX6_ends_47 ?_
        refine e_istore dX6_ends_48 (by decide) (Nat.le_of_ble_eq_true rfl) ?_
        refine e_aload_n dX6_ends_50 rfl ?_
        refine e_getA kX6 (by first | assumption | exact ⟨by decide, rfl⟩) (by decide) fX6_29 rfl dX6_ends_51 ?_
        refine e_iload_n dX6_ends_54 rfl ?_
        refine e_iload dX6_ends_55 rfl ?_
        refine e_iadd dX6_ends_57 ?_
        refine e_dup2 dX6_ends_58 ?_
        refine e_iald (ci := 6) (by first | assumption | exact ⟨by decide, rfl⟩) rfl (vin 24 (by decide) (by grind)) dX6_ends_59 ?_
        refine e_iload dX6_ends_60 rfl ?_
        refine e_isub dX6_ends_62 ?_
        refine e_iast (ci := 6) (by first | assumption | exact ⟨by decide, rfl⟩) rfl (vin 24 (by decide) (by grind)) dX6_ends_63 ?_
        refine e_aload_n dX6_ends_64 rfl ?_
        refine e_getA kX6 (by first | assumption | exact ⟨by decide, rfl⟩) (by decide) fX6_35 rfl dX6_ends_65 ?_
        refine e_iload_n dX6_ends_68 rfl ?_
        refine e_iload dX6_ends_69 rfl ?_
        refine e_iadd dX6_ends_71 ?_
        refine e_iload_n dX6_ends_72 rfl ?_
        refine e_aload_n dX6_ends_73 rfl ?_
        refine e_getA kX6 (by first | assumption | exact ⟨by decide, rfl⟩) (by decide) fX6_19 rfl dX6_ends_74 ?_
        refine e_iconst (v := 0) dX6_ends_77 (by decide) ?_
        refine e_iald (ci := 6) (by first | assumption | exact ⟨by decide, rfl⟩) rfl (vin 8 (by decide) (by grind)) dX6_ends_78 ?_
        refine e_iadd dX6_ends_79 ?_
        refine e_iconst (v := 1) dX6_ends_80 (by decide) ?_
        refine e_iadd dX6_ends_81 ?_
        refine e_iast (ci := 6) (by first | assumption | exact ⟨by decide, rfl⟩) rfl (vin 24 (by decide) (by grind)) dX6_ends_82 ?_
        refine e_inc (1) (by decide) dX6_ends_83 rfl (by decide) (Nat.le_of_ble_eq_true rfl) ?_
        refine e_goto (tgt := 6) dX6_ends_86 (by decide) ?_
        unfold enStep at ih
        first | rw [if_pos (by grind)] at ih | rw [if_neg (by grind)] at ih
        exact e_to ih (by first | rfl | (simp [lset]; done) | (simp [lset]; grind)) (by first | rfl | simp [up])
      ·
        refine e_goto (tgt := 83) dX6_ends_31 (by decide) ?_
        refine e_inc (1) (by decide) dX6_ends_83 rfl (by decide) (Nat.le_of_ble_eq_true rfl) ?_
        refine e_goto (tgt := 6) dX6_ends_86 (by decide) ?_
        unfold enStep at ih
        first | rw [if_pos (by grind)] at ih | rw [if_neg (by grind)] at ih
        exact e_to ih (by first | rfl | (simp [lset]; done) | (simp [lset]; grind)) (by first | rfl | simp [up])
  refine e_iconst (v := 0) dX6_ends_0 (by decide) ?_
  refine e_istore dX6_ends_1 (by decide) (Nat.le_of_ble_eq_true rfl) ?_
  refine e_iconst (v := 0) dX6_ends_3 (by decide) ?_
  refine e_istore dX6_ends_4 (by decide) (Nat.le_of_ble_eq_true rfl) ?_
  exact e_to (loop 0 (Nat.zero_le _)) (by first | rfl | (simp [lset]; done) | (simp [lset]; grind)) rfl
abbrev goB (σ : rS) (k : Int32) : Prop := (σ 8 26 k = 0 ∧ σ 8 11 (σ 8 22 k) < σ 8 11 (σ 8 23 k)) ∨ (¬ σ 8 26 k = 0 ∧ ¬ σ 8 28 k = 0 ∧ σ 8 29 k = 0)
theorem c_X6_goesOver {k : Int32} {σ : rS} (hk : 0 ≤ k ∧ k < 40) (hg : rgB σ k) : Ct mX6_goesOver [.inr (8, 0), .inl k] σ (some (.inl (bI (goB σ k)))) (σ) := by
  refine C_of_E rfl rfl (Nat.le_of_ble_eq_true rfl) ?_
  refine e_aload_n dX6_goesOver_0 rfl ?_
  refine e_getA kX6 (by first | assumption | exact ⟨by decide, rfl⟩) (by decide) fX6_60 rfl dX6_goesOver_1 ?_
  refine e_iload_n dX6_goesOver_4 rfl ?_
  refine e_iald (ci := 6) (by first | assumption | exact ⟨by decide, rfl⟩) rfl (vin 40 (by decide) (by grind)) dX6_goesOver_5 ?_
  refine e_if_ne (tgt := 42) dX6_goesOver_6 (by decide) (fun h6 => ?_) (fun h6 => ?_)
  ·
    refine e_aload_n dX6_goesOver_42 rfl ?_
    refine e_getA kX6 (by first | assumption | exact ⟨by decide, rfl⟩) (by decide) fX6_66 rfl dX6_goesOver_43 ?_
    refine e_iload_n dX6_goesOver_46 rfl ?_
    refine e_zald (ci := 6) (by first | assumption | exact ⟨by decide, rfl⟩) rfl (vin 40 (by decide) (by grind)) dX6_goesOver_47 ?_
    refine e_if_eq (tgt := 64) dX6_goesOver_48 (by decide) (fun h48 => ?_) (fun h48 => ?_)
    ·
      refine e_iconst (v := 0) dX6_goesOver_64 (by decide) ?_
      exact e_ret0 rfl dX6_goesOver_65 (by grind) rfl
    ·
      refine e_aload_n dX6_goesOver_51 rfl ?_
      refine e_getA kX6 (by first | assumption | exact ⟨by decide, rfl⟩) (by decide) fX6_69 rfl dX6_goesOver_52 ?_
      refine e_iload_n dX6_goesOver_55 rfl ?_
      refine e_zald (ci := 6) (by first | assumption | exact ⟨by decide, rfl⟩) rfl (vin 40 (by decide) (by grind)) dX6_goesOver_56 ?_
      refine e_if_ne (tgt := 64) dX6_goesOver_57 (by decide) (fun h57 => ?_) (fun h57 => ?_)
      ·
        refine e_iconst (v := 0) dX6_goesOver_64 (by decide) ?_
        exact e_ret0 rfl dX6_goesOver_65 (by grind) rfl
      ·
        refine e_iconst (v := 1) dX6_goesOver_60 (by decide) ?_
        refine e_goto (tgt := 65) dX6_goesOver_61 (by decide) ?_
        exact e_ret1 rfl dX6_goesOver_65 (by grind) rfl
  ·
    refine e_aload_n dX6_goesOver_9 rfl ?_
    refine e_getA kX6 (by first | assumption | exact ⟨by decide, rfl⟩) (by decide) fX6_29 rfl dX6_goesOver_10 ?_
    refine e_aload_n dX6_goesOver_13 rfl ?_
    refine e_getA kX6 (by first | assumption | exact ⟨by decide, rfl⟩) (by decide) fX6_51 rfl dX6_goesOver_14 ?_
    refine e_iload_n dX6_goesOver_17 rfl ?_
    refine e_iald (ci := 6) (by first | assumption | exact ⟨by decide, rfl⟩) rfl (vin 40 (by decide) (by grind)) dX6_goesOver_18 ?_
    refine e_iald (ci := 6) (by first | assumption | exact ⟨by decide, rfl⟩) rfl (vin 24 (by decide) (by grind)) dX6_goesOver_19 ?_
    refine e_aload_n dX6_goesOver_20 rfl ?_
    refine e_getA kX6 (by first | assumption | exact ⟨by decide, rfl⟩) (by decide) fX6_29 rfl dX6_goesOver_21 ?_
    refine e_aload_n dX6_goesOver_24 rfl ?_
    refine e_getA kX6 (by first | assumption | exact ⟨by decide, rfl⟩) (by decide) fX6_48 rfl dX6_goesOver_25 ?_
    refine e_iload_n dX6_goesOver_28 rfl ?_
    refine e_iald (ci := 6) (by first | assumption | exact ⟨by decide, rfl⟩) rfl (vin 40 (by decide) (by grind)) dX6_goesOver_29 ?_
    refine e_iald (ci := 6) (by first | assumption | exact ⟨by decide, rfl⟩) rfl (vin 24 (by decide) (by grind)) dX6_goesOver_30 ?_
    refine e_icmp_le (tgt := 38) dX6_goesOver_31 (by decide) (fun h31 => ?_) (fun h31 => ?_)
    ·
      refine e_iconst (v := 0) dX6_goesOver_38 (by decide) ?_
      refine e_goto (tgt := 65) dX6_goesOver_39 (by decide) ?_
      exact e_ret0 rfl dX6_goesOver_65 (by grind) rfl
    ·
      refine e_iconst (v := 1) dX6_goesOver_34 (by decide) ?_
      refine e_goto (tgt := 65) dX6_goesOver_35 (by decide) ?_
      exact e_ret1 rfl dX6_goesOver_65 (by grind) rfl
def sOv (σ : rS) (k : Int32) : rS := up (up σ 8 18 (σ 8 24 k) (σ 8 23 k)) 8 19 (24 * σ 8 23 k + σ 8 24 k) 1
theorem c_X6_over {k : Int32} {σ : rS} (hk : 0 ≤ k ∧ k < 40) (hg : rgB σ k) : Ct mX6_over [.inr (8, 0), .inl k] σ none (sOv σ k) := by
  refine C_of_E rfl rfl (Nat.le_of_ble_eq_true rfl) ?_
  refine e_aload_n dX6_over_0 rfl ?_
  refine e_getA kX6 (by first | assumption | exact ⟨by decide, rfl⟩) (by decide) fX6_41 rfl dX6_over_1 ?_
  refine e_aload_n dX6_over_4 rfl ?_
  refine e_getA kX6 (by first | assumption | exact ⟨by decide, rfl⟩) (by decide) fX6_54 rfl dX6_over_5 ?_
  refine e_iload_n dX6_over_8 rfl ?_
  refine e_iald (ci := 6) (by first | assumption | exact ⟨by decide, rfl⟩) rfl (vin 40 (by decide) (by grind)) dX6_over_9 ?_
  refine e_aload_n dX6_over_10 rfl ?_
  refine e_getA kX6 (by first | assumption | exact ⟨by decide, rfl⟩) (by decide) fX6_51 rfl dX6_over_11 ?_
  refine e_iload_n dX6_over_14 rfl ?_
  refine e_iald (ci := 6) (by first | assumption | exact ⟨by decide, rfl⟩) rfl (vin 40 (by decide) (by grind)) dX6_over_15 ?_
  refine e_iast (ci := 6) (by first | assumption | exact ⟨by decide, rfl⟩) rfl (vin 48 (by decide) (by grind)) dX6_over_16 ?_
  refine e_aload_n dX6_over_17 rfl ?_
  refine e_getA kX6 (by first | assumption | exact ⟨by decide, rfl⟩) (by decide) fX6_44 rfl dX6_over_18 ?_
  refine e_bipush (v := 24) dX6_over_21 (by decide) ?_
  refine e_aload_n dX6_over_23 rfl ?_
  refine e_getA kX6 (by first | assumption | exact ⟨by decide, rfl⟩) (by decide) fX6_51 rfl dX6_over_24 ?_
  refine e_iload_n dX6_over_27 rfl ?_
  refine e_iald (ci := 6) (by first | assumption | exact ⟨by decide, rfl⟩) rfl (vin 40 (by decide) (by grind)) dX6_over_28 ?_
  refine e_imul dX6_over_29 ?_
  refine e_aload_n dX6_over_30 rfl ?_
  refine e_getA kX6 (by first | assumption | exact ⟨by decide, rfl⟩) (by decide) fX6_54 rfl dX6_over_31 ?_
  refine e_iload_n dX6_over_34 rfl ?_
  refine e_iald (ci := 6) (by first | assumption | exact ⟨by decide, rfl⟩) rfl (vin 40 (by decide) (by grind)) dX6_over_35 ?_
  refine e_iadd dX6_over_36 ?_
  refine e_iconst (v := 1) dX6_over_37 (by decide) ?_
  refine e_zast (ci := 6) (by first | assumption | exact ⟨by decide, rfl⟩) rfl (vin 288 (by decide) (by simp only [up]; grind)) (by first | exact bI_or | simp) dX6_over_38 ?_
  exact e_vreq rfl dX6_over_39 (by simp [sOv, up])
def jgM (σ : rS) (k : Int32) : rS := if goB σ k then sOv (up σ 8 26 k 4) k else up σ 8 26 k 5
theorem c_X6_judge {k : Int32} {σ : rS} (hk : 0 ≤ k ∧ k < 40) (hg : rgB σ k) : Ct mX6_judge [.inr (8, 0), .inl k] σ none (jgM σ k) := by
  refine C_of_E rfl rfl (Nat.le_of_ble_eq_true rfl) ?_
  refine e_aload_n dX6_judge_0 rfl ?_
  refine e_iload_n dX6_judge_1 rfl ?_
  refine e_V1 oX6_goesOver lX6_175 ⟨Nat.le_of_ble_eq_true rfl, Nat.le_of_ble_eq_true rfl⟩ dX6_judge_2 (by first | assumption | exact ⟨by decide, rfl⟩) (Nat.le_of_ble_eq_true rfl) (c_X6_goesOver hk hg) ?_
  refine e_istore_n dX6_judge_5 (by decide) (Nat.le_of_ble_eq_true rfl) ?_
  refine e_aload_n dX6_judge_6 rfl ?_
  refine e_getA kX6 (by first | assumption | exact ⟨by decide, rfl⟩) (by decide) fX6_60 rfl dX6_judge_7 ?_
  refine e_iload_n dX6_judge_10 rfl ?_
  refine e_iload_n dX6_judge_11 rfl ?_
  refine e_if_eqB (tgt := 19) dX6_judge_12 (by decide) (fun h12 => ?_) (fun h12 => ?_)
  ·
    refine e_iconst (v := 5) dX6_judge_19 (by decide) ?_
    refine e_iast (ci := 6) (by first | assumption | exact ⟨by decide, rfl⟩) rfl (vin 40 (by decide) (by grind)) dX6_judge_20 ?_
    refine e_iload_n dX6_judge_21 rfl ?_
    refine e_if_eqB (tgt := 30) dX6_judge_22 (by decide) (fun h22 => ?_) (fun h22 => ?_)
    ·
      exact e_vreq rfl dX6_judge_30 (by first | (exfalso; grind; done) | (unfold jgM; first | rw [if_neg (by grind)] | rw [if_pos (by grind)]))
    ·
      refine e_aload_n dX6_judge_25 rfl ?_
      refine e_iload_n dX6_judge_26 rfl ?_
      refine e_V1v oX6_over lX6_178 ⟨Nat.le_of_ble_eq_true rfl, Nat.le_of_ble_eq_true rfl⟩ dX6_judge_27 (by first | assumption | exact ⟨by decide, rfl⟩) (Nat.le_of_ble_eq_true rfl) (c_X6_over hk (by unfold rgB; simp only [up]; grind)) ?_
      exact e_vreq rfl dX6_judge_30 (by first | (exfalso; grind; done) | (unfold jgM; first | rw [if_neg (by grind)] | rw [if_pos (by grind)]))
  ·
    refine e_iconst (v := 4) dX6_judge_15 (by decide) ?_
    refine e_goto (tgt := 20) dX6_judge_16 (by decide) ?_
    refine e_iast (ci := 6) (by first | assumption | exact ⟨by decide, rfl⟩) rfl (vin 40 (by decide) (by grind)) dX6_judge_20 ?_
    refine e_iload_n dX6_judge_21 rfl ?_
    refine e_if_eqB (tgt := 30) dX6_judge_22 (by decide) (fun h22 => ?_) (fun h22 => ?_)
    ·
      exact e_vreq rfl dX6_judge_30 (by first | (exfalso; grind; done) | (unfold jgM; first | rw [if_neg (by grind)] | rw [if_pos (by grind)]))
    ·
      refine e_aload_n dX6_judge_25 rfl ?_
      refine e_iload_n dX6_judge_26 rfl ?_
      refine e_V1v oX6_over lX6_178 ⟨Nat.le_of_ble_eq_true rfl, Nat.le_of_ble_eq_true rfl⟩ dX6_judge_27 (by first | assumption | exact ⟨by decide, rfl⟩) (Nat.le_of_ble_eq_true rfl) (c_X6_over hk (by unfold rgB; simp only [up]; grind)) ?_
      exact e_vreq rfl dX6_judge_30 (by first | (exfalso; grind; done) | (unfold jgM; first | rw [if_neg (by grind)] | rw [if_pos (by grind)]))
theorem jgM_fr {σ : rS} {k : Int32} {o' k' : Nat} {i' : Int32} (h : ¬ (o' = 8 ∧ (k' = 18 ∨ k' = 19 ∨ k' = 26))) : jgM σ k o' k' i' = σ o' k' i' := by
  unfold jgM sOv
  split
  · simp only [up]; grind
  · simp only [up]; grind
def pgStep (day : Int32) (j : Nat) (τ : rS) : rS := if τ 8 26 (nI j) < 2 ∧ τ 8 27 (nI j) < day then jgM τ (nI j) else τ
def egStep (j : Nat) (τ : rS) : rS := if τ 8 26 (nI j) < 2 then jgM τ (nI j) else τ
theorem pg_fr {day : Int32} {σ : rS} {o' k' : Nat} {i' : Int32} (h : ¬ (o' = 8 ∧ (k' = 18 ∨ k' = 19 ∨ k' = 26))) : ∀ j, itS (pgStep day) j σ o' k' i' = σ o' k' i' := by
  intro j
  induction j with
  | zero => rfl
  | succ j ih =>
    show pgStep day j (itS (pgStep day) j σ) o' k' i' = _
    generalize itS (pgStep day) j σ = s at ih ⊢
    unfold pgStep
    split
    · rw [jgM_fr h]; exact ih
    · exact ih
theorem eg_fr {σ : rS} {o' k' : Nat} {i' : Int32} (h : ¬ (o' = 8 ∧ (k' = 18 ∨ k' = 19 ∨ k' = 26))) : ∀ j, itS egStep j σ o' k' i' = σ o' k' i' := by
  intro j
  induction j with
  | zero => rfl
  | succ j ih =>
    show egStep j (itS egStep j σ) o' k' i' = _
    generalize itS egStep j σ = s at ih ⊢
    unfold egStep
    split
    · rw [jgM_fr h]; exact ih
    · exact ih
abbrev mpB (τ : rS) (k : Int32) : Prop := ¬ τ 8 16 0 = 0 ∧ 0 ≤ k ∧ k ≤ 400 ∧ τ 8 17 0 + k ≤ 400
abbrev sPass (τ : rS) (k : Int32) (c : Nat) : rS := itS (pgStep (τ 8 17 0 + k)) c (up τ 8 17 0 (τ 8 17 0 + k))
theorem c_X6_pass {k : Int32} {τ : rS} {c : Nat} {σ : rS} (hz : up σ 8 2 0 0 = τ) (hc : τ 8 21 0 = nI c) (hc2 : c ≤ 40) (hg : MIg τ c) : Ct mX6_pass [.inr (8, 0), .inl k] σ (some (.inl (if mpB τ k then τ 8 17 0 + k else -1))) (if mpB τ k then sPass τ k c else τ) := by
  refine C_of_E rfl rfl (Nat.le_of_ble_eq_true rfl) ?_
  have loop : mpB τ k → ∀ j, j ≤ c → E mX6_pass 49 [.inr (8, 0), .inl k, .inl (nI j)] [] (itS (pgStep (τ 8 17 0 + k)) j (up τ 8 17 0 (τ 8 17 0 + k))) (some (.inl (τ 8 17 0 + k))) (sPass τ k c) := by
    intro hB
    have hd : ∀ j, itS (pgStep (τ 8 17 0 + k)) j (up τ 8 17 0 (τ 8 17 0 + k)) 8 17 0 = τ 8 17 0 + k := fun j => (pg_fr (by decide) j).trans up_self
    have hm : ∀ j, itS (pgStep (τ 8 17 0 + k)) j (up τ 8 17 0 (τ 8 17 0 + k)) 8 21 0 = nI c := fun j => (pg_fr (by decide) j).trans ((up_k (by decide)).trans hc)
    refine dn_ind c _ ?_ (fun j hj ih => ?_)
    · have hmc := hm c
      have hdc := hd c
      refine e_iload_n dX6_pass_49 rfl ?_
      refine e_aload_n dX6_pass_50 rfl ?_
      refine e_getI kX6 (by first | assumption | exact ⟨by decide, rfl⟩) (by decide) fX6_165 rfl dX6_pass_51 ?_
      refine e_icmp_ge (tgt := 89) dX6_pass_54 (by decide) (fun h54 => ?_) (fun h54 => ?_)
      rotate_left
      · exfalso
        grind
      refine e_aload_n dX6_pass_89 rfl ?_
      refine e_getI kX6 (by first | assumption | exact ⟨by decide, rfl⟩) (by decide) fX6_162 rfl dX6_pass_90 ?_
      exact e_ireq rfl rfl dX6_pass_93 (hd c) rfl
    · obtain ⟨f1, f2, f3, f4⟩ := nI_facts 40 hj hc2 (by decide) rfl
      have hmj := hm j
      have hdj := hd j
      have hgj : rgB (itS (pgStep (τ 8 17 0 + k)) j (up τ 8 17 0 (τ 8 17 0 + k))) (nI j) := by
        have h9 := hg (nI j) f1 f2
        have e : ∀ k', (k' = 22 ∨ k' = 23 ∨ k' = 24) → itS (pgStep (τ 8 17 0 + k)) j (up τ 8 17 0 (τ 8 17 0 + k)) 8 k' (nI j) = τ 8 k' (nI j) := fun k' hk' => (pg_fr (by grind) j).trans (up_k (by grind))
        unfold rgB
        rw [e 22 (by decide), e 23 (by decide), e 24 (by decide)]
        exact h9
      clear hd hm
      change E mX6_pass 49 [.inr (8, 0), .inl k, .inl (nI (j + 1))] [] (pgStep (τ 8 17 0 + k) j (itS (pgStep (τ 8 17 0 + k)) j (up τ 8 17 0 (τ 8 17 0 + k)))) _ _ at ih
      generalize itS (pgStep (τ 8 17 0 + k)) j (up τ 8 17 0 (τ 8 17 0 + k)) = s at ih hmj hdj hgj ⊢
      refine e_iload_n dX6_pass_49 rfl ?_
      refine e_aload_n dX6_pass_50 rfl ?_
      refine e_getI kX6 (by first | assumption | exact ⟨by decide, rfl⟩) (by decide) fX6_165 rfl dX6_pass_51 ?_
      refine e_icmp_ge (tgt := 89) dX6_pass_54 (by decide) (fun h54 => ?_) (fun h54 => ?_)
      · exfalso
        grind
      refine e_aload_n dX6_pass_57 rfl ?_
      refine e_iload_n dX6_pass_58 rfl ?_
      refine e_V1 oX6_isOpen lX6_182 ⟨Nat.le_of_ble_eq_true rfl, Nat.le_of_ble_eq_true rfl⟩ dX6_pass_59 (by first | assumption | exact ⟨by decide, rfl⟩) (Nat.le_of_ble_eq_true rfl) (c_X6_isOpen (by grind)) ?_
      refine e_if_eqB (tgt := 83) dX6_pass_62 (by decide) (fun h62 => ?_) (fun h62 => ?_)
      ·
        refine e_inc (1) (by decide) dX6_pass_83 rfl (by decide) (Nat.le_of_ble_eq_true rfl) ?_
        refine e_goto (tgt := 49) dX6_pass_86 (by decide) ?_
        unfold pgStep at ih
        first | rw [if_pos (by grind)] at ih | rw [if_neg (by grind)] at ih
        exact e_to ih (by first | rfl | (simp [lset]; done) | (simp [lset]; grind)) rfl
      ·
        refine e_aload_n dX6_pass_65 rfl ?_
        refine e_getA kX6 (by first | assumption | exact ⟨by decide, rfl⟩) (by decide) fX6_63 rfl dX6_pass_66 ?_
        refine e_iload_n dX6_pass_69 rfl ?_
        refine e_iald (ci := 6) (by first | assumption | exact ⟨by decide, rfl⟩) rfl (vin 40 (by decide) (by grind)) dX6_pass_70 ?_
        refine e_aload_n dX6_pass_71 rfl ?_
        refine e_getI kX6 (by first | assumption | exact ⟨by decide, rfl⟩) (by decide) fX6_162 rfl dX6_pass_72 ?_
        refine e_icmp_ge (tgt := 83) dX6_pass_75 (by decide) (fun h75 => ?_) (fun h75 => ?_)
        ·
          refine e_inc (1) (by decide) dX6_pass_83 rfl (by decide) (Nat.le_of_ble_eq_true rfl) ?_
          refine e_goto (tgt := 49) dX6_pass_86 (by decide) ?_
          unfold pgStep at ih
          first | rw [if_pos (by grind)] at ih | rw [if_neg (by grind)] at ih
          exact e_to ih (by first | rfl | (simp [lset]; done) | (simp [lset]; grind)) rfl
        ·
          refine e_aload_n dX6_pass_78 rfl ?_
          refine e_iload_n dX6_pass_79 rfl ?_
          refine e_V1v oX6_judge lX6_185 ⟨Nat.le_of_ble_eq_true rfl, Nat.le_of_ble_eq_true rfl⟩ dX6_pass_80 (by first | assumption | exact ⟨by decide, rfl⟩) (Nat.le_of_ble_eq_true rfl) (c_X6_judge (by grind) hgj) ?_
          refine e_inc (1) (by decide) dX6_pass_83 rfl (by decide) (Nat.le_of_ble_eq_true rfl) ?_
          refine e_goto (tgt := 49) dX6_pass_86 (by decide) ?_
          unfold pgStep at ih
          first | rw [if_pos (by grind)] at ih | rw [if_neg (by grind)] at ih
          exact e_to ih (by first | rfl | (simp [lset]; done) | (simp [lset]; grind)) rfl
  refine e_aload_n dX6_pass_0 rfl ?_
  refine e_iconst (v := 0) dX6_pass_1 (by decide) ?_
  refine e_putI kX6 (by first | assumption | exact ⟨by decide, rfl⟩) (by decide) fX6_75 rfl rfl rfl dX6_pass_2 ?_
  rw [hz]
  refine e_aload_n dX6_pass_5 rfl ?_
  refine e_getI kX6 (by first | assumption | exact ⟨by decide, rfl⟩) (by decide) fX6_132 rfl dX6_pass_6 ?_
  refine e_if_eq (tgt := 35) dX6_pass_9 (by decide) (fun h9 => ?_) (fun h9 => ?_)
  ·
    refine e_iconst (v := -1) dX6_pass_35 (by decide) ?_
    exact e_ireq rfl rfl dX6_pass_36 (by rw [if_neg (by grind)]) (by rw [if_neg (by grind)])
  ·
    refine e_iload_n dX6_pass_12 rfl ?_
    refine e_if_lt (tgt := 35) dX6_pass_13 (by decide) (fun h13 => ?_) (fun h13 => ?_)
    ·
      refine e_iconst (v := -1) dX6_pass_35 (by decide) ?_
      exact e_ireq rfl rfl dX6_pass_36 (by rw [if_neg (by grind)]) (by rw [if_neg (by grind)])
    ·
      refine e_iload_n dX6_pass_16 rfl ?_
      refine e_sipush (v := 400) dX6_pass_17 (by decide) ?_
      refine e_icmp_gt (tgt := 35) dX6_pass_20 (by decide) (fun h20 => ?_) (fun h20 => ?_)
      ·
        refine e_iconst (v := -1) dX6_pass_35 (by decide) ?_
        exact e_ireq rfl rfl dX6_pass_36 (by rw [if_neg (by grind)]) (by rw [if_neg (by grind)])
      ·
        refine e_aload_n dX6_pass_23 rfl ?_
        refine e_getI kX6 (by first | assumption | exact ⟨by decide, rfl⟩) (by decide) fX6_162 rfl dX6_pass_24 ?_
        refine e_iload_n dX6_pass_27 rfl ?_
        refine e_iadd dX6_pass_28 ?_
        refine e_sipush (v := 400) dX6_pass_29 (by decide) ?_
        refine e_icmp_le (tgt := 37) dX6_pass_32 (by decide) (fun h32 => ?_) (fun h32 => ?_)
        ·
          refine e_aload_n dX6_pass_37 rfl ?_
          refine e_dup dX6_pass_38 ?_
          refine e_getI kX6 (by first | assumption | exact ⟨by decide, rfl⟩) (by decide) fX6_162 rfl dX6_pass_39 ?_
          refine e_iload_n dX6_pass_42 rfl ?_
          refine e_iadd dX6_pass_43 ?_
          refine e_putI kX6 (by first | assumption | exact ⟨by decide, rfl⟩) (by decide) fX6_162 rfl rfl rfl dX6_pass_44 ?_
          refine e_iconst (v := 0) dX6_pass_47 (by decide) ?_
          refine e_istore_n dX6_pass_48 (by decide) (Nat.le_of_ble_eq_true rfl) ?_
          rw [if_pos (by grind), if_pos (by grind)]
          exact e_to (loop (by grind) 0 (Nat.zero_le _)) (by first | rfl | (simp [lset]; done) | (simp [lset]; grind)) rfl
        ·
          refine e_iconst (v := -1) dX6_pass_35 (by decide) ?_
          exact e_ireq rfl rfl dX6_pass_36 (by rw [if_neg (by grind)]) (by rw [if_neg (by grind)])
