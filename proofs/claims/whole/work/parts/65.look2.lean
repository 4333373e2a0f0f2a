theorem c_X5_look {man w : Int32} {q : Nat} {σ : rS} (hl : (σ 0 5 0).toNatClampNeg = q) (h1 : isO q 3) (hm : hasM σ 3 man) (hw : 0 ≤ w ∧ w ≤ 5) : Ct mX5_look [.inr (0, 0), .inl man, .inl w] σ (some (.inl (if w = 0 then gM σ 3 0 man 0 else if w = 1 then gM σ 3 1 man 0 else if w = 2 then gM σ 3 4 man (-1) else if w = 3 then gM σ 3 2 man 0 else if w = 4 then gM σ 3 3 man 0 else (if ¬ σ 0 7 0 = 0 ∧ fitB σ 3 q man (σ 0 8 0 - 1) then 1 else 0)))) (σ) := by
  refine C_of_E rfl rfl (Nat.le_of_ble_eq_true rfl) ?_
  refine e_aload_n dX5_look_0 rfl ?_
  refine e_getO 3 kX5 (by first | assumption | exact ⟨by decide, rfl⟩) (by decide) fX5_28 rfl rfl dX5_look_1 ?_
  refine e_iload_n dX5_look_4 rfl ?_
  refine e_V1 oX2_has lX5_101 ⟨Nat.le_of_ble_eq_true rfl, Nat.le_of_ble_eq_true rfl⟩ dX5_look_5 (by first | assumption | exact ⟨by decide, rfl⟩) (Nat.le_of_ble_eq_true rfl) (c_X2_has (by first | assumption | exact ⟨by decide, rfl⟩)) ?_
  refine e_if_neB (tgt := 21) dX5_look_8 (by decide) (fun h8 => ?_) (fun h8 => ?_)
  rotate_left
  · exfalso
    grind
  refine e_iload_n dX5_look_21 rfl ?_
  refine e_tab6 60 69 78 87 96 105 119 dX5_look_22 (by decide) (by decide) (by decide) (by decide) (by decide) (by decide) (by decide) (fun h22 => ?_) (fun h22 => ?_) (fun h22 => ?_) (fun h22 => ?_) (fun h22 => ?_) (fun h22 => ?_) (fun h22 => ?_)
  ·
    refine e_aload_n dX5_look_60 rfl ?_
    refine e_getO 3 kX5 (by first | assumption | exact ⟨by decide, rfl⟩) (by decide) fX5_28 rfl rfl dX5_look_61 ?_
    refine e_iload_n dX5_look_64 rfl ?_
    refine e_V1 oX2_declaredOf lX5_119 ⟨Nat.le_of_ble_eq_true rfl, Nat.le_of_ble_eq_true rfl⟩ dX5_look_65 (by first | assumption | exact ⟨by decide, rfl⟩) (Nat.le_of_ble_eq_true rfl) (c_X2_declaredOf (by first | assumption | exact ⟨by decide, rfl⟩)) ?_
    exact e_ireq rfl rfl dX5_look_68 (by grind) rfl
  ·
    refine e_aload_n dX5_look_69 rfl ?_
    refine e_getO 3 kX5 (by first | assumption | exact ⟨by decide, rfl⟩) (by decide) fX5_28 rfl rfl dX5_look_70 ?_
    refine e_iload_n dX5_look_73 rfl ?_
    refine e_V1 oX2_hiddenOf lX5_104 ⟨Nat.le_of_ble_eq_true rfl, Nat.le_of_ble_eq_true rfl⟩ dX5_look_74 (by first | assumption | exact ⟨by decide, rfl⟩) (Nat.le_of_ble_eq_true rfl) (c_X2_hiddenOf (by first | assumption | exact ⟨by decide, rfl⟩)) ?_
    exact e_ireq rfl rfl dX5_look_77 (by grind) rfl
  ·
    refine e_aload_n dX5_look_78 rfl ?_
    refine e_getO 3 kX5 (by first | assumption | exact ⟨by decide, rfl⟩) (by decide) fX5_28 rfl rfl dX5_look_79 ?_
    refine e_iload_n dX5_look_82 rfl ?_
    refine e_V1 oX2_placeOf lX5_122 ⟨Nat.le_of_ble_eq_true rfl, Nat.le_of_ble_eq_true rfl⟩ dX5_look_83 (by first | assumption | exact ⟨by decide, rfl⟩) (Nat.le_of_ble_eq_true rfl) (c_X2_placeOf (by first | assumption | exact ⟨by decide, rfl⟩)) ?_
    exact e_ireq rfl rfl dX5_look_86 (by grind) rfl
  ·
    refine e_aload_n dX5_look_87 rfl ?_
    refine e_getO 3 kX5 (by first | assumption | exact ⟨by decide, rfl⟩) (by decide) fX5_28 rfl rfl dX5_look_88 ?_
    refine e_iload_n dX5_look_91 rfl ?_
    refine e_V1 oX2_freeFromOf lX5_125 ⟨Nat.le_of_ble_eq_true rfl, Nat.le_of_ble_eq_true rfl⟩ dX5_look_92 (by first | assumption | exact ⟨by decide, rfl⟩) (Nat.le_of_ble_eq_true rfl) (c_X2_freeFromOf (by first | assumption | exact ⟨by decide, rfl⟩)) ?_
    exact e_ireq rfl rfl dX5_look_95 (by grind) rfl
  ·
    refine e_aload_n dX5_look_96 rfl ?_
    refine e_getO 3 kX5 (by first | assumption | exact ⟨by decide, rfl⟩) (by decide) fX5_28 rfl rfl dX5_look_97 ?_
    refine e_iload_n dX5_look_100 rfl ?_
    refine e_V1 oX2_yearsBorneOf lX5_128 ⟨Nat.le_of_ble_eq_true rfl, Nat.le_of_ble_eq_true rfl⟩ dX5_look_101 (by first | assumption | exact ⟨by decide, rfl⟩) (Nat.le_of_ble_eq_true rfl) (c_X2_yearsBorneOf (by first | assumption | exact ⟨by decide, rfl⟩)) ?_
    exact e_ireq rfl rfl dX5_look_104 (by grind) rfl
  ·
    refine e_aload_n dX5_look_105 rfl ?_
    refine e_iload_n dX5_look_106 rfl ?_
    refine e_V1 oX5_isFitNow lX5_131 ⟨Nat.le_of_ble_eq_true rfl, Nat.le_of_ble_eq_true rfl⟩ dX5_look_107 (by first | assumption | exact ⟨by decide, rfl⟩) (Nat.le_of_ble_eq_true rfl) (c_X5_isFitNow hl h1) ?_
    refine e_if_eqB (tgt := 117) dX5_look_110 (by decide) (fun h110 => ?_) (fun h110 => ?_)
    ·
      refine e_iconst (v := 0) dX5_look_117 (by decide) ?_
      exact e_ireq rfl rfl dX5_look_118 (by grind) rfl
    ·
      refine e_iconst (v := 1) dX5_look_113 (by decide) ?_
      refine e_goto (tgt := 118) dX5_look_114 (by decide) ?_
      exact e_ireq rfl rfl dX5_look_118 (by grind) rfl
  ·
    exfalso
    grind
