-- the reference: gain
theorem c_X6_gain {x y : Int32} {τ : rS} {n mm c : Nat} {σ : rS} (hz : up σ 8 2 0 0 = τ) (hM : MI τ n mm c) : Ct mX6_gain [.inr (8, 0), .inl x, .inl y] σ (some (.inl (if mgaB τ x y mm then (if woR τ x ≤ woR τ y - mgD τ x mm then mgD τ x mm else woR τ y - woR τ x) else -2147483648))) (τ) := by
  refine C_of_E rfl rfl (Nat.le_of_ble_eq_true rfl) ?_
  obtain ⟨hn, hn2, hpl, hmm, hc, hc2, hu, hr, hg⟩ := hM
  have f9 := nI_le24 hmm
  have f8 := nI_le12 hn2
  have hbl := beF_lt (σ := τ) (m := x) (base := 0) mm 0 (by omega)
  rw [Nat.zero_add] at hbl
  have e0 : nI 0 = 0 := rfl
  have fin1 : (¬ τ 8 16 0 = 0 ∧ mnB τ x ∧ mnB τ y ∧ ¬ x = y) → E mX6_gain 43 [.inr (8, 0), .inl x, .inl y] [.inl (beF τ x 0 mm 0)] τ (some (.inl (if mgaB τ x y mm then (if woR τ x ≤ woR τ y - mgD τ x mm then mgD τ x mm else woR τ y - woR τ x) else -2147483648))) τ := by
    intro hA
    have hx : 0 ≤ x ∧ x < 24 := by grind
    have hy : 0 ≤ y ∧ y < 24 := by grind
    by_cases hp : beF τ x 0 mm 0 < 0
    · rw [if_neg (by grind)]
      refine e_istore_n dX6_gain_43 (by decide) (Nat.le_of_ble_eq_true rfl) ?_
      refine e_iload_n dX6_gain_44 rfl ?_
      refine e_if_ge (tgt := 51) dX6_gain_45 (by decide) (fun h45 => ?_) (fun h45 => ?_)
      · exfalso
        grind
      refine e_ldc dX6_gain_48 kX6_194 ?_
      exact e_ireq rfl rfl dX6_gain_50 (by first | rfl | grind) rfl
    · rw [if_pos (by grind)]
      have hq : 0 ≤ beF τ x 0 mm 0 ∧ beF τ x 0 mm 0 < nI mm := by grind
      refine e_istore_n dX6_gain_43 (by decide) (Nat.le_of_ble_eq_true rfl) ?_
      refine e_iload_n dX6_gain_44 rfl ?_
      refine e_if_ge (tgt := 51) dX6_gain_45 (by decide) (fun h45 => ?_) (fun h45 => ?_)
      rotate_left
      · exfalso
        grind
      refine e_aload_n dX6_gain_51 rfl ?_
      refine e_iload_n dX6_gain_52 rfl ?_
      refine e_iconst (v := 0) dX6_gain_53 (by decide) ?_
      refine e_V2 oX6_pays lX6_172 ⟨Nat.le_of_ble_eq_true rfl, Nat.le_of_ble_eq_true rfl⟩ dX6_gain_54 (by first | assumption | exact ⟨by decide, rfl⟩) (Nat.le_of_ble_eq_true rfl) (c_X6_pays (j0 := (beF τ x 0 mm 0).toNatClampNeg) (nI_cl (by grind)).symm (cl_lt24 24 (by decide) (by grind)) (by decide) (hu _ hq.1 hq.2)) ?_
      refine e_istore dX6_gain_57 (by decide) (Nat.le_of_ble_eq_true rfl) ?_
      refine e_aload_n dX6_gain_59 rfl ?_
      refine e_getA kX6 (by first | assumption | exact ⟨by decide, rfl⟩) (by decide) fX6_29 rfl dX6_gain_60 ?_
      refine e_iload_n dX6_gain_63 rfl ?_
      refine e_iald (ci := 6) (by first | assumption | exact ⟨by decide, rfl⟩) rfl (vin 24 (by decide) (by assumption)) dX6_gain_64 ?_
      refine e_aload_n dX6_gain_65 rfl ?_
      refine e_getA kX6 (by first | assumption | exact ⟨by decide, rfl⟩) (by decide) fX6_32 rfl dX6_gain_66 ?_
      refine e_iload_n dX6_gain_69 rfl ?_
      refine e_iald (ci := 6) (by first | assumption | exact ⟨by decide, rfl⟩) rfl (vin 24 (by decide) (by assumption)) dX6_gain_70 ?_
      refine e_iadd dX6_gain_71 ?_
      refine e_istore dX6_gain_72 (by decide) (Nat.le_of_ble_eq_true rfl) ?_
      refine e_aload_n dX6_gain_74 rfl ?_
      refine e_getA kX6 (by first | assumption | exact ⟨by decide, rfl⟩) (by decide) fX6_29 rfl dX6_gain_75 ?_
      refine e_iload_n dX6_gain_78 rfl ?_
      refine e_iald (ci := 6) (by first | assumption | exact ⟨by decide, rfl⟩) rfl (vin 24 (by decide) (by assumption)) dX6_gain_79 ?_
      refine e_aload_n dX6_gain_80 rfl ?_
      refine e_getA kX6 (by first | assumption | exact ⟨by decide, rfl⟩) (by decide) fX6_32 rfl dX6_gain_81 ?_
      refine e_iload_n dX6_gain_84 rfl ?_
      refine e_iald (ci := 6) (by first | assumption | exact ⟨by decide, rfl⟩) rfl (vin 24 (by decide) (by assumption)) dX6_gain_85 ?_
      refine e_iadd dX6_gain_86 ?_
      refine e_istore dX6_gain_87 (by decide) (Nat.le_of_ble_eq_true rfl) ?_
      refine e_iload dX6_gain_89 rfl ?_
      refine e_iload dX6_gain_91 rfl ?_
      refine e_isub dX6_gain_93 ?_
      refine e_iload dX6_gain_94 rfl ?_
      refine e_icmp_lt (tgt := 104) dX6_gain_96 (by decide) (fun h96 => ?_) (fun h96 => ?_)
      ·
        refine e_iload dX6_gain_104 rfl ?_
        refine e_iload dX6_gain_106 rfl ?_
        refine e_isub dX6_gain_108 ?_
        exact e_ireq rfl rfl dX6_gain_109 (by first | (rw [if_neg (by assumption)]; done) | (rw [if_pos (by grind)]; done) | (rw [if_neg (by grind)]; done)) rfl
      ·
        refine e_iload dX6_gain_99 rfl ?_
        refine e_goto (tgt := 109) dX6_gain_101 (by decide) ?_
        exact e_ireq rfl rfl dX6_gain_109 (by first | (rw [if_neg (by assumption)]; done) | (rw [if_pos (by grind)]; done) | (rw [if_neg (by grind)]; done)) rfl
  have fin2 : ¬ (¬ τ 8 16 0 = 0 ∧ mnB τ x ∧ mnB τ y ∧ ¬ x = y) → E mX6_gain 43 [.inr (8, 0), .inl x, .inl y] [.inl (-1)] τ (some (.inl (if mgaB τ x y mm then (if woR τ x ≤ woR τ y - mgD τ x mm then mgD τ x mm else woR τ y - woR τ x) else -2147483648))) τ := by
    intro hA
    rw [if_neg (by grind)]
    refine e_istore_n dX6_gain_43 (by decide) (Nat.le_of_ble_eq_true rfl) ?_
    refine e_iload_n dX6_gain_44 rfl ?_
    refine e_if_ge (tgt := 51) dX6_gain_45 (by decide) (fun h45 => ?_) (fun h45 => ?_)
    · exfalso
      grind
    refine e_ldc dX6_gain_48 kX6_194 ?_
    exact e_ireq rfl rfl dX6_gain_50 (by first | rfl | grind) rfl
  refine e_aload_n dX6_gain_0 rfl ?_
  refine e_iconst (v := 0) dX6_gain_1 (by decide) ?_
  refine e_putI kX6 (by first | assumption | exact ⟨by decide, rfl⟩) (by decide) fX6_75 rfl rfl rfl dX6_gain_2 ?_
  rw [hz]
  refine e_aload_n dX6_gain_5 rfl ?_
  refine e_getI kX6 (by first | assumption | exact ⟨by decide, rfl⟩) (by decide) fX6_132 rfl dX6_gain_6 ?_
  refine e_if_eq (tgt := 42) dX6_gain_9 (by decide) (fun h9 => ?_) (fun h9 => ?_)
  ·
    refine e_iconst (v := -1) dX6_gain_42 (by decide) ?_
    first | exact e_to (fin2 (by grind)) rfl rfl | exact e_to (fin1 (by grind)) rfl rfl
  ·
    refine e_aload_n dX6_gain_12 rfl ?_
    refine e_iload_n dX6_gain_13 rfl ?_
    refine e_V1 oX6_isMan lX6_145 ⟨Nat.le_of_ble_eq_true rfl, Nat.le_of_ble_eq_true rfl⟩ dX6_gain_14 (by first | assumption | exact ⟨by decide, rfl⟩) (Nat.le_of_ble_eq_true rfl) (c_X6_isMan) ?_
    refine e_if_eqB (tgt := 42) dX6_gain_17 (by decide) (fun h17 => ?_) (fun h17 => ?_)
    ·
      refine e_iconst (v := -1) dX6_gain_42 (by decide) ?_
      first | exact e_to (fin2 (by grind)) rfl rfl | exact e_to (fin1 (by grind)) rfl rfl
    ·
      refine e_aload_n dX6_gain_20 rfl ?_
      refine e_iload_n dX6_gain_21 rfl ?_
      refine e_V1 oX6_isMan lX6_145 ⟨Nat.le_of_ble_eq_true rfl, Nat.le_of_ble_eq_true rfl⟩ dX6_gain_22 (by first | assumption | exact ⟨by decide, rfl⟩) (Nat.le_of_ble_eq_true rfl) (c_X6_isMan) ?_
      refine e_if_eqB (tgt := 42) dX6_gain_25 (by decide) (fun h25 => ?_) (fun h25 => ?_)
      ·
        refine e_iconst (v := -1) dX6_gain_42 (by decide) ?_
        first | exact e_to (fin2 (by grind)) rfl rfl | exact e_to (fin1 (by grind)) rfl rfl
      ·
        refine e_iload_n dX6_gain_28 rfl ?_
        refine e_iload_n dX6_gain_29 rfl ?_
        refine e_icmp_eq (tgt := 42) dX6_gain_30 (by decide) (fun h30 => ?_) (fun h30 => ?_)
        ·
          refine e_iconst (v := -1) dX6_gain_42 (by decide) ?_
          first | exact e_to (fin2 (by grind)) rfl rfl | exact e_to (fin1 (by grind)) rfl rfl
        ·
          refine e_aload_n dX6_gain_33 rfl ?_
          refine e_iload_n dX6_gain_34 rfl ?_
          refine e_iconst (v := 0) dX6_gain_35 (by decide) ?_
          refine e_V2 oX6_bears lX6_148 ⟨Nat.le_of_ble_eq_true rfl, Nat.le_of_ble_eq_true rfl⟩ dX6_gain_36 (by first | assumption | exact ⟨by decide, rfl⟩) (Nat.le_of_ble_eq_true rfl) (c_X6_bears hpl hmm (by decide)) ?_
          refine e_goto (tgt := 43) dX6_gain_39 (by decide) ?_
          first | exact e_to (fin2 (by grind)) rfl rfl | exact e_to (fin1 (by grind)) rfl rfl
