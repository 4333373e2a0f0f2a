-- Roll: leaves
theorem c_X2_has {o : Nat} {man : Int32} {σ : rS} (h0 : isO o 2) : Ct mX2_has [.inr (o, 0), .inl man] σ (some (.inl (bI (0 ≤ man ∧ man < σ o 7 0 ∧ man < 12)))) σ := by
  refine C_of_E rfl rfl (by decide) ?_
  refine e_iload_n dX2_has_0 rfl ?_
  refine e_if_lt (tgt := 22) dX2_has_1 (by decide) (fun h1 => ?_) (fun h1 => ?_)
  ·
    refine e_iconst (v := 0) dX2_has_22 (by decide) ?_
    exact e_ret0 rfl dX2_has_23 (by grind) rfl
  ·
    refine e_iload_n dX2_has_4 rfl ?_
    refine e_aload_n dX2_has_5 rfl ?_
    refine e_getI kX2 (by first | assumption | exact ⟨by decide, rfl⟩) (by decide) fX2_33 rfl dX2_has_6 ?_
    refine e_icmp_ge (tgt := 22) dX2_has_9 (by decide) (fun h9 => ?_) (fun h9 => ?_)
    ·
      refine e_iconst (v := 0) dX2_has_22 (by decide) ?_
      exact e_ret0 rfl dX2_has_23 (by grind) rfl
    ·
      refine e_iload_n dX2_has_12 rfl ?_
      refine e_bipush (v := 12) dX2_has_13 (by decide) ?_
      refine e_icmp_ge (tgt := 22) dX2_has_15 (by decide) (fun h15 => ?_) (fun h15 => ?_)
      ·
        refine e_iconst (v := 0) dX2_has_22 (by decide) ?_
        exact e_ret0 rfl dX2_has_23 (by grind) rfl
      ·
        refine e_iconst (v := 1) dX2_has_18 (by decide) ?_
        refine e_goto (tgt := 23) dX2_has_19 (by decide) ?_
        exact e_ret1 rfl dX2_has_23 (by grind) rfl
theorem c_X2_size {o : Nat} {σ : rS} (h0 : isO o 2) : Ct mX2_size [.inr (o, 0)] σ (some (.inl (σ o 7 0))) σ := by
  refine C_of_E rfl rfl (by decide) ?_
  refine e_aload_n dX2_size_0 rfl ?_
  refine e_getI kX2 (by first | assumption | exact ⟨by decide, rfl⟩) (by decide) fX2_33 rfl dX2_size_1 ?_
  exact e_ireq rfl rfl dX2_size_4 (by first | rfl | grind) rfl
theorem c_X2_declaredOf {o : Nat} {man : Int32} {σ : rS} (h0 : isO o 2) : Ct mX2_declaredOf [.inr (o, 0), .inl man] σ (some (.inl (if 0 ≤ man ∧ man < σ o 7 0 ∧ man < 12 then σ o 0 man else 0))) σ := by
  refine C_of_E rfl rfl (by decide) ?_
  refine e_aload_n dX2_declaredOf_0 rfl ?_
  refine e_iload_n dX2_declaredOf_1 rfl ?_
  refine e_V1 oX2_has lX2_37 ⟨Nat.le_of_ble_eq_true rfl, Nat.le_of_ble_eq_true rfl⟩ dX2_declaredOf_2 (by first | assumption | exact ⟨by decide, rfl⟩) (Nat.le_of_ble_eq_true rfl) (c_X2_has (by first | assumption | exact ⟨by decide, rfl⟩)) ?_
  refine e_if_eqB (tgt := 17) dX2_declaredOf_5 (by decide) (fun h5 => ?_) (fun h5 => ?_)
  ·
    refine e_iconst (v := 0) dX2_declaredOf_17 (by decide) ?_
    exact e_ireq rfl rfl dX2_declaredOf_18 (by first | rfl | grind) rfl
  ·
    refine e_aload_n dX2_declaredOf_8 rfl ?_
    refine e_getA kX2 (by first | assumption | exact ⟨by decide, rfl⟩) (by decide) fX2_9 rfl dX2_declaredOf_9 ?_
    refine e_iload_n dX2_declaredOf_12 rfl ?_
    refine e_iald (ci := 2) (by first | assumption | exact ⟨by decide, rfl⟩) rfl (vin 12 (by decide) (by grind)) dX2_declaredOf_13 ?_
    refine e_goto (tgt := 18) dX2_declaredOf_14 (by decide) ?_
    exact e_ireq rfl rfl dX2_declaredOf_18 (by first | rfl | grind) rfl
