-- Statutes and Roll
abbrev hasM (σ : rS) (o : Nat) (man : Int32) : Prop := 0 ≤ man ∧ man < σ o 7 0 ∧ man < 12
abbrev gM (σ : rS) (o k : Nat) (man d : Int32) : Int32 := if hasM σ o man then σ o k man else d
abbrev isPl (p : Int32) : Prop := 0 ≤ p ∧ p < 24
abbrev gB (σ : rS) (o : Nat) (p : Int32) : Int32 := if isPl p then σ o 5 p else -1
theorem c_X2_has {o : Nat} {man : Int32} {σ : rS} (h0 : isO o 2) : Ct mX2_has [.inr (o, 0), .inl man] σ (some (.inl (bI (hasM σ o man)))) (σ) := by
  refine C_of_E rfl rfl (Nat.le_of_ble_eq_true rfl) ?_
  refine e_iload_n dX2_has_0 rfl ?_
  refine e_if_lt (tgt := 22) dX2_has_1 (by decide) (fun h1 => ?_) (fun h1 => ?_)
  ·
    refine e_iconst (v := 0) dX2_has_22 (by decide) ?_
    exact e_ret0 rfl dX2_has_23 (by grind) rfl
  ·
    refine e_iload_n dX2_has_4 rfl ?_
    refine e_aload_n dX2_has_5 rfl ?_
    refine e_getI kX2 (by first | assumption | exact ⟨by decide, rfl⟩) (by decide) fX2_33 rfl dX2_has_6 ?_
    refine e_icmp_ge (tgt := 22) dX2_has_9 (by decide) (fun h9 => ?_) (fun h9 => ?_)
    ·
      refine e_iconst (v := 0) dX2_has_22 (by decide) ?_
      exact e_ret0 rfl dX2_has_23 (by grind) rfl
    ·
      refine e_iload_n dX2_has_12 rfl ?_
      refine e_bipush (v := 12) dX2_has_13 (by decide) ?_
      refine e_icmp_ge (tgt := 22) dX2_has_15 (by decide) (fun h15 => ?_) (fun h15 => ?_)
      ·
        refine e_iconst (v := 0) dX2_has_22 (by decide) ?_
        exact e_ret0 rfl dX2_has_23 (by grind) rfl
      ·
        refine e_iconst (v := 1) dX2_has_18 (by decide) ?_
        refine e_goto (tgt := 23) dX2_has_19 (by decide) ?_
        exact e_ret1 rfl dX2_has_23 (by grind) rfl
theorem c_X2_size {o : Nat} {σ : rS} (h0 : isO o 2) : Ct mX2_size [.inr (o, 0)] σ (some (.inl (σ o 7 0))) (σ) := by
  refine C_of_E rfl rfl (Nat.le_of_ble_eq_true rfl) ?_
  refine e_aload_n dX2_size_0 rfl ?_
  refine e_getI kX2 (by first | assumption | exact ⟨by decide, rfl⟩) (by decide) fX2_33 rfl dX2_size_1 ?_
  exact e_ireq rfl rfl dX2_size_4 (by first | rfl | grind) rfl
theorem c_X2_declaredOf {o : Nat} {man : Int32} {σ : rS} (h0 : isO o 2) : Ct mX2_declaredOf [.inr (o, 0), .inl man] σ (some (.inl (gM σ o 0 man 0))) (σ) := by
  refine C_of_E rfl rfl (Nat.le_of_ble_eq_true rfl) ?_
  refine e_aload_n dX2_declaredOf_0 rfl ?_
  refine e_iload_n dX2_declaredOf_1 rfl ?_
  refine e_V1 oX2_has lX2_37 ⟨Nat.le_of_ble_eq_true rfl, Nat.le_of_ble_eq_true rfl⟩ dX2_declaredOf_2 (by first | assumption | exact ⟨by decide, rfl⟩) (Nat.le_of_ble_eq_true rfl) (c_X2_has (by first | assumption | exact ⟨by decide, rfl⟩)) ?_
  refine e_if_eqB (tgt := 17) dX2_declaredOf_5 (by decide) (fun h5 => ?_) (fun h5 => ?_)
  ·
    refine e_iconst (v := 0) dX2_declaredOf_17 (by decide) ?_
    exact e_ireq rfl rfl dX2_declaredOf_18 (by first | rfl | grind) rfl
  ·
    refine e_aload_n dX2_declaredOf_8 rfl ?_
    refine e_getA kX2 (by first | assumption | exact ⟨by decide, rfl⟩) (by decide) fX2_9 rfl dX2_declaredOf_9 ?_
    refine e_iload_n dX2_declaredOf_12 rfl ?_
    refine e_iald (ci := 2) (by first | assumption | exact ⟨by decide, rfl⟩) rfl (vin 12 (by decide) (by grind)) dX2_declaredOf_13 ?_
    refine e_goto (tgt := 18) dX2_declaredOf_14 (by decide) ?_
    exact e_ireq rfl rfl dX2_declaredOf_18 (by first | rfl | grind) rfl
theorem c_X2_hiddenOf {o : Nat} {man : Int32} {σ : rS} (h0 : isO o 2) : Ct mX2_hiddenOf [.inr (o, 0), .inl man] σ (some (.inl (gM σ o 1 man 0))) (σ) := by
  refine C_of_E rfl rfl (Nat.le_of_ble_eq_true rfl) ?_
  refine e_aload_n dX2_hiddenOf_0 rfl ?_
  refine e_iload_n dX2_hiddenOf_1 rfl ?_
  refine e_V1 oX2_has lX2_37 ⟨Nat.le_of_ble_eq_true rfl, Nat.le_of_ble_eq_true rfl⟩ dX2_hiddenOf_2 (by first | assumption | exact ⟨by decide, rfl⟩) (Nat.le_of_ble_eq_true rfl) (c_X2_has (by first | assumption | exact ⟨by decide, rfl⟩)) ?_
  refine e_if_eqB (tgt := 17) dX2_hiddenOf_5 (by decide) (fun h5 => ?_) (fun h5 => ?_)
  ·
    refine e_iconst (v := 0) dX2_hiddenOf_17 (by decide) ?_
    exact e_ireq rfl rfl dX2_hiddenOf_18 (by first | rfl | grind) rfl
  ·
    refine e_aload_n dX2_hiddenOf_8 rfl ?_
    refine e_getA kX2 (by first | assumption | exact ⟨by decide, rfl⟩) (by decide) fX2_15 rfl dX2_hiddenOf_9 ?_
    refine e_iload_n dX2_hiddenOf_12 rfl ?_
    refine e_iald (ci := 2) (by first | assumption | exact ⟨by decide, rfl⟩) rfl (vin 12 (by decide) (by grind)) dX2_hiddenOf_13 ?_
    refine e_goto (tgt := 18) dX2_hiddenOf_14 (by decide) ?_
    exact e_ireq rfl rfl dX2_hiddenOf_18 (by first | rfl | grind) rfl
theorem c_X2_placeOf {o : Nat} {man : Int32} {σ : rS} (h0 : isO o 2) : Ct mX2_placeOf [.inr (o, 0), .inl man] σ (some (.inl (gM σ o 4 man (-1)))) (σ) := by
  refine C_of_E rfl rfl (Nat.le_of_ble_eq_true rfl) ?_
  refine e_aload_n dX2_placeOf_0 rfl ?_
  refine e_iload_n dX2_placeOf_1 rfl ?_
  refine e_V1 oX2_has lX2_37 ⟨Nat.le_of_ble_eq_true rfl, Nat.le_of_ble_eq_true rfl⟩ dX2_placeOf_2 (by first | assumption | exact ⟨by decide, rfl⟩) (Nat.le_of_ble_eq_true rfl) (c_X2_has (by first | assumption | exact ⟨by decide, rfl⟩)) ?_
  refine e_if_eqB (tgt := 17) dX2_placeOf_5 (by decide) (fun h5 => ?_) (fun h5 => ?_)
  ·
    refine e_iconst (v := -1) dX2_placeOf_17 (by decide) ?_
    exact e_ireq rfl rfl dX2_placeOf_18 (by first | rfl | grind) rfl
  ·
    refine e_aload_n dX2_placeOf_8 rfl ?_
    refine e_getA kX2 (by first | assumption | exact ⟨by decide, rfl⟩) (by decide) fX2_24 rfl dX2_placeOf_9 ?_
    refine e_iload_n dX2_placeOf_12 rfl ?_
    refine e_iald (ci := 2) (by first | assumption | exact ⟨by decide, rfl⟩) rfl (vin 12 (by decide) (by grind)) dX2_placeOf_13 ?_
    refine e_goto (tgt := 18) dX2_placeOf_14 (by decide) ?_
    exact e_ireq rfl rfl dX2_placeOf_18 (by first | rfl | grind) rfl
theorem c_X2_freeFromOf {o : Nat} {man : Int32} {σ : rS} (h0 : isO o 2) : Ct mX2_freeFromOf [.inr (o, 0), .inl man] σ (some (.inl (gM σ o 2 man 0))) (σ) := by
  refine C_of_E rfl rfl (Nat.le_of_ble_eq_true rfl) ?_
  refine e_aload_n dX2_freeFromOf_0 rfl ?_
  refine e_iload_n dX2_freeFromOf_1 rfl ?_
  refine e_V1 oX2_has lX2_37 ⟨Nat.le_of_ble_eq_true rfl, Nat.le_of_ble_eq_true rfl⟩ dX2_freeFromOf_2 (by first | assumption | exact ⟨by decide, rfl⟩) (Nat.le_of_ble_eq_true rfl) (c_X2_has (by first | assumption | exact ⟨by decide, rfl⟩)) ?_
  refine e_if_eqB (tgt := 17) dX2_freeFromOf_5 (by decide) (fun h5 => ?_) (fun h5 => ?_)
  ·
    refine e_iconst (v := 0) dX2_freeFromOf_17 (by decide) ?_
    exact e_ireq rfl rfl dX2_freeFromOf_18 (by first | rfl | grind) rfl
  ·
    refine e_aload_n dX2_freeFromOf_8 rfl ?_
    refine e_getA kX2 (by first | assumption | exact ⟨by decide, rfl⟩) (by decide) fX2_18 rfl dX2_freeFromOf_9 ?_
    refine e_iload_n dX2_freeFromOf_12 rfl ?_
    refine e_iald (ci := 2) (by first | assumption | exact ⟨by decide, rfl⟩) rfl (vin 12 (by decide) (by grind)) dX2_freeFromOf_13 ?_
    refine e_goto (tgt := 18) dX2_freeFromOf_14 (by decide) ?_
    exact e_ireq rfl rfl dX2_freeFromOf_18 (by first | rfl | grind) rfl
theorem c_X2_yearsBorneOf {o : Nat} {man : Int32} {σ : rS} (h0 : isO o 2) : Ct mX2_yearsBorneOf [.inr (o, 0), .inl man] σ (some (.inl (gM σ o 3 man 0))) (σ) := by
  refine C_of_E rfl rfl (Nat.le_of_ble_eq_true rfl) ?_
  refine e_aload_n dX2_yearsBorneOf_0 rfl ?_
  refine e_iload_n dX2_yearsBorneOf_1 rfl ?_
  refine e_V1 oX2_has lX2_37 ⟨Nat.le_of_ble_eq_true rfl, Nat.le_of_ble_eq_true rfl⟩ dX2_yearsBorneOf_2 (by first | assumption | exact ⟨by decide, rfl⟩) (Nat.le_of_ble_eq_true rfl) (c_X2_has (by first | assumption | exact ⟨by decide, rfl⟩)) ?_
  refine e_if_eqB (tgt := 17) dX2_yearsBorneOf_5 (by decide) (fun h5 => ?_) (fun h5 => ?_)
  ·
    refine e_iconst (v := 0) dX2_yearsBorneOf_17 (by decide) ?_
    exact e_ireq rfl rfl dX2_yearsBorneOf_18 (by first | rfl | grind) rfl
  ·
    refine e_aload_n dX2_yearsBorneOf_8 rfl ?_
    refine e_getA kX2 (by first | assumption | exact ⟨by decide, rfl⟩) (by decide) fX2_21 rfl dX2_yearsBorneOf_9 ?_
    refine e_iload_n dX2_yearsBorneOf_12 rfl ?_
    refine e_iald (ci := 2) (by first | assumption | exact ⟨by decide, rfl⟩) rfl (vin 12 (by decide) (by grind)) dX2_yearsBorneOf_13 ?_
    refine e_goto (tgt := 18) dX2_yearsBorneOf_14 (by decide) ?_
    exact e_ireq rfl rfl dX2_yearsBorneOf_18 (by first | rfl | grind) rfl
theorem c_X2_worthOf {o : Nat} {man : Int32} {σ : rS} (h0 : isO o 2) : Ct mX2_worthOf [.inr (o, 0), .inl man] σ (some (.inl (gM σ o 0 man 0 + gM σ o 1 man 0))) (σ) := by
  refine C_of_E rfl rfl (Nat.le_of_ble_eq_true rfl) ?_
  refine e_aload_n dX2_worthOf_0 rfl ?_
  refine e_iload_n dX2_worthOf_1 rfl ?_
  refine e_V1 oX2_declaredOf lX2_41 ⟨Nat.le_of_ble_eq_true rfl, Nat.le_of_ble_eq_true rfl⟩ dX2_worthOf_2 (by first | assumption | exact ⟨by decide, rfl⟩) (Nat.le_of_ble_eq_true rfl) (c_X2_declaredOf (by first | assumption | exact ⟨by decide, rfl⟩)) ?_
  refine e_aload_n dX2_worthOf_5 rfl ?_
  refine e_iload_n dX2_worthOf_6 rfl ?_
  refine e_V1 oX2_hiddenOf lX2_45 ⟨Nat.le_of_ble_eq_true rfl, Nat.le_of_ble_eq_true rfl⟩ dX2_worthOf_7 (by first | assumption | exact ⟨by decide, rfl⟩) (Nat.le_of_ble_eq_true rfl) (c_X2_hiddenOf (by first | assumption | exact ⟨by decide, rfl⟩)) ?_
  refine e_iadd dX2_worthOf_10 ?_
  exact e_ireq rfl rfl dX2_worthOf_11 (by first | rfl | grind) rfl
theorem c_X2_isPlace {p : Int32} {σ : rS}  : Ct mX2_isPlace [.inl p] σ (some (.inl (bI (isPl p)))) (σ) := by
  refine C_of_E rfl rfl (Nat.le_of_ble_eq_true rfl) ?_
  refine e_iload_n dX2_isPlace_0 rfl ?_
  refine e_if_lt (tgt := 14) dX2_isPlace_1 (by decide) (fun h1 => ?_) (fun h1 => ?_)
  ·
    refine e_iconst (v := 0) dX2_isPlace_14 (by decide) ?_
    exact e_ret0 rfl dX2_isPlace_15 (by grind) rfl
  ·
    refine e_iload_n dX2_isPlace_4 rfl ?_
    refine e_bipush (v := 24) dX2_isPlace_5 (by decide) ?_
    refine e_icmp_ge (tgt := 14) dX2_isPlace_7 (by decide) (fun h7 => ?_) (fun h7 => ?_)
    ·
      refine e_iconst (v := 0) dX2_isPlace_14 (by decide) ?_
      exact e_ret0 rfl dX2_isPlace_15 (by grind) rfl
    ·
      refine e_iconst (v := 1) dX2_isPlace_10 (by decide) ?_
      refine e_goto (tgt := 15) dX2_isPlace_11 (by decide) ?_
      exact e_ret1 rfl dX2_isPlace_15 (by grind) rfl
theorem c_X2_bearerAt {o : Nat} {p : Int32} {σ : rS} (h0 : isO o 2) : Ct mX2_bearerAt [.inr (o, 0), .inl p] σ (some (.inl (gB σ o p))) (σ) := by
  refine C_of_E rfl rfl (Nat.le_of_ble_eq_true rfl) ?_
  refine e_iload_n dX2_bearerAt_0 rfl ?_
  refine e_S1 oX2_isPlace sX2_isPlace lX2_48 ⟨Nat.le_of_ble_eq_true rfl, Nat.le_of_ble_eq_true rfl⟩ dX2_bearerAt_1 (Nat.le_of_ble_eq_true rfl) (c_X2_isPlace) ?_
  refine e_if_eqB (tgt := 16) dX2_bearerAt_4 (by decide) (fun h4 => ?_) (fun h4 => ?_)
  ·
    refine e_iconst (v := -1) dX2_bearerAt_16 (by decide) ?_
    exact e_ireq rfl rfl dX2_bearerAt_17 (by first | rfl | grind) rfl
  ·
    refine e_aload_n dX2_bearerAt_7 rfl ?_
    refine e_getA kX2 (by first | assumption | exact ⟨by decide, rfl⟩) (by decide) fX2_27 rfl dX2_bearerAt_8 ?_
    refine e_iload_n dX2_bearerAt_11 rfl ?_
    refine e_iald (ci := 2) (by first | assumption | exact ⟨by decide, rfl⟩) rfl (vin 24 (by decide) (by grind)) dX2_bearerAt_12 ?_
    refine e_goto (tgt := 17) dX2_bearerAt_13 (by decide) ?_
    exact e_ireq rfl rfl dX2_bearerAt_17 (by first | rfl | grind) rfl
abbrev borB (σ : rS) (o : Nat) (man p : Int32) : Prop := hasM σ o man ∧ isPl p ∧ ¬ (σ o 6 p &&& ((1 : Int32) <<< (man &&& 31))) = 0
theorem c_X2_hasBorne {o : Nat} {man p : Int32} {σ : rS} (h0 : isO o 2) : Ct mX2_hasBorne [.inr (o, 0), .inl man, .inl p] σ (some (.inl (bI (borB σ o man p)))) (σ) := by
  refine C_of_E rfl rfl (Nat.le_of_ble_eq_true rfl) ?_
  refine e_aload_n dX2_hasBorne_0 rfl ?_
  refine e_iload_n dX2_hasBorne_1 rfl ?_
  refine e_V1 oX2_has lX2_37 ⟨Nat.le_of_ble_eq_true rfl, Nat.le_of_ble_eq_true rfl⟩ dX2_hasBorne_2 (by first | assumption | exact ⟨by decide, rfl⟩) (Nat.le_of_ble_eq_true rfl) (c_X2_has (by first | assumption | exact ⟨by decide, rfl⟩)) ?_
  refine e_if_eqB (tgt := 32) dX2_hasBorne_5 (by decide) (fun h5 => ?_) (fun h5 => ?_)
  ·
    refine e_iconst (v := 0) dX2_hasBorne_32 (by decide) ?_
    exact e_ret0 rfl dX2_hasBorne_33 (by grind) rfl
  ·
    refine e_iload_n dX2_hasBorne_8 rfl ?_
    refine e_S1 oX2_isPlace sX2_isPlace lX2_48 ⟨Nat.le_of_ble_eq_true rfl, Nat.le_of_ble_eq_true rfl⟩ dX2_hasBorne_9 (Nat.le_of_ble_eq_true rfl) (c_X2_isPlace) ?_
    refine e_if_eqB (tgt := 32) dX2_hasBorne_12 (by decide) (fun h12 => ?_) (fun h12 => ?_)
    ·
      refine e_iconst (v := 0) dX2_hasBorne_32 (by decide) ?_
      exact e_ret0 rfl dX2_hasBorne_33 (by grind) rfl
    ·
      refine e_aload_n dX2_hasBorne_15 rfl ?_
      refine e_getA kX2 (by first | assumption | exact ⟨by decide, rfl⟩) (by decide) fX2_30 rfl dX2_hasBorne_16 ?_
      refine e_iload_n dX2_hasBorne_19 rfl ?_
      refine e_iald (ci := 2) (by first | assumption | exact ⟨by decide, rfl⟩) rfl (vin 24 (by decide) (by grind)) dX2_hasBorne_20 ?_
      refine e_iconst (v := 1) dX2_hasBorne_21 (by decide) ?_
      refine e_iload_n dX2_hasBorne_22 rfl ?_
      refine e_ishl dX2_hasBorne_23 ?_
      refine e_iand dX2_hasBorne_24 ?_
      refine e_if_eq (tgt := 32) dX2_hasBorne_25 (by decide) (fun h25 => ?_) (fun h25 => ?_)
      ·
        refine e_iconst (v := 0) dX2_hasBorne_32 (by decide) ?_
        exact e_ret0 rfl dX2_hasBorne_33 (by grind) rfl
      ·
        refine e_iconst (v := 1) dX2_hasBorne_28 (by decide) ?_
        refine e_goto (tgt := 33) dX2_hasBorne_29 (by decide) ?_
        exact e_ret1 rfl dX2_hasBorne_33 (by grind) rfl
def sEnter (σ : rS) (o : Nat) (d h : Int32) : rS := if 0 ≤ σ o 7 0 ∧ σ o 7 0 < 12 then up (up (up σ o 0 (σ o 7 0) d) o 1 (σ o 7 0) h) o 7 0 (σ o 7 0 + 1) else σ
theorem c_X2_enter {o : Nat} {d h : Int32} {σ : rS} (h0 : isO o 2) : Ct mX2_enter [.inr (o, 0), .inl d, .inl h] σ (some (.inl (if 0 ≤ σ o 7 0 ∧ σ o 7 0 < 12 then σ o 7 0 else -1))) (sEnter σ o d h) := by
  refine C_of_E rfl rfl (Nat.le_of_ble_eq_true rfl) ?_
  refine e_aload_n dX2_enter_0 rfl ?_
  refine e_getI kX2 (by first | assumption | exact ⟨by decide, rfl⟩) (by decide) fX2_33 rfl dX2_enter_1 ?_
  refine e_if_lt (tgt := 16) dX2_enter_4 (by decide) (fun h4 => ?_) (fun h4 => ?_)
  ·
    refine e_iconst (v := -1) dX2_enter_16 (by decide) ?_
    exact e_ireq rfl rfl dX2_enter_17 (by first | rfl | grind) (by unfold sEnter; first | rw [if_neg (by grind)] | (rw [if_pos (by grind)]; simp [up]))
  ·
    refine e_aload_n dX2_enter_7 rfl ?_
    refine e_getI kX2 (by first | assumption | exact ⟨by decide, rfl⟩) (by decide) fX2_33 rfl dX2_enter_8 ?_
    refine e_bipush (v := 12) dX2_enter_11 (by decide) ?_
    refine e_icmp_lt (tgt := 18) dX2_enter_13 (by decide) (fun h13 => ?_) (fun h13 => ?_)
    ·
      refine e_aload_n dX2_enter_18 rfl ?_
      refine e_getI kX2 (by first | assumption | exact ⟨by decide, rfl⟩) (by decide) fX2_33 rfl dX2_enter_19 ?_
      refine e_istore_n dX2_enter_22 (by decide) (Nat.le_of_ble_eq_true rfl) ?_
      refine e_aload_n dX2_enter_23 rfl ?_
      refine e_getA kX2 (by first | assumption | exact ⟨by decide, rfl⟩) (by decide) fX2_9 rfl dX2_enter_24 ?_
      refine e_iload_n dX2_enter_27 rfl ?_
      refine e_iload_n dX2_enter_28 rfl ?_
      refine e_iast (ci := 2) (by first | assumption | exact ⟨by decide, rfl⟩) rfl (vin 12 (by decide) (by grind)) dX2_enter_29 ?_
      refine e_aload_n dX2_enter_30 rfl ?_
      refine e_getA kX2 (by first | assumption | exact ⟨by decide, rfl⟩) (by decide) fX2_15 rfl dX2_enter_31 ?_
      refine e_iload_n dX2_enter_34 rfl ?_
      refine e_iload_n dX2_enter_35 rfl ?_
      refine e_iast (ci := 2) (by first | assumption | exact ⟨by decide, rfl⟩) rfl (vin 12 (by decide) (by grind)) dX2_enter_36 ?_
      refine e_aload_n dX2_enter_37 rfl ?_
      refine e_dup dX2_enter_38 ?_
      refine e_getI kX2 (by first | assumption | exact ⟨by decide, rfl⟩) (by decide) fX2_33 rfl dX2_enter_39 ?_
      refine e_iconst (v := 1) dX2_enter_42 (by decide) ?_
      refine e_iadd dX2_enter_43 ?_
      refine e_putI kX2 (by first | assumption | exact ⟨by decide, rfl⟩) (by decide) fX2_33 rfl rfl rfl dX2_enter_44 ?_
      refine e_iload_n dX2_enter_47 rfl ?_
      exact e_ireq rfl rfl dX2_enter_48 (by first | rfl | grind) (by unfold sEnter; first | rw [if_neg (by grind)] | (rw [if_pos (by grind)]; simp [up]))
    ·
      refine e_iconst (v := -1) dX2_enter_16 (by decide) ?_
      exact e_ireq rfl rfl dX2_enter_17 (by first | rfl | grind) (by unfold sEnter; first | rw [if_neg (by grind)] | (rw [if_pos (by grind)]; simp [up]))
def sUnc (σ : rS) (o : Nat) (man c : Int32) : rS := if hasM σ o man then up (up σ o 1 man (σ o 1 man - c)) o 0 man (σ o 0 man + c) else σ
theorem c_X2_uncover {o : Nat} {man c : Int32} {σ : rS} (h0 : isO o 2) : Ct mX2_uncover [.inr (o, 0), .inl man, .inl c] σ none (sUnc σ o man c) := by
  refine C_of_E rfl rfl (Nat.le_of_ble_eq_true rfl) ?_
  refine e_aload_n dX2_uncover_0 rfl ?_
  refine e_iload_n dX2_uncover_1 rfl ?_
  refine e_V1 oX2_has lX2_37 ⟨Nat.le_of_ble_eq_true rfl, Nat.le_of_ble_eq_true rfl⟩ dX2_uncover_2 (by first | assumption | exact ⟨by decide, rfl⟩) (Nat.le_of_ble_eq_true rfl) (c_X2_has (by first | assumption | exact ⟨by decide, rfl⟩)) ?_
  refine e_if_eqB (tgt := 28) dX2_uncover_5 (by decide) (fun h5 => ?_) (fun h5 => ?_)
  ·
    exact e_vreq rfl dX2_uncover_28 (by unfold sUnc; first | rw [if_neg (by grind)] | (rw [if_pos (by grind)]; simp [up]))
  ·
    refine e_aload_n dX2_uncover_8 rfl ?_
    refine e_getA kX2 (by first | assumption | exact ⟨by decide, rfl⟩) (by decide) fX2_15 rfl dX2_uncover_9 ?_
    refine e_iload_n dX2_uncover_12 rfl ?_
    refine e_dup2 dX2_uncover_13 ?_
    refine e_iald (ci := 2) (by first | assumption | exact ⟨by decide, rfl⟩) rfl (vin 12 (by decide) (by grind)) dX2_uncover_14 ?_
    refine e_iload_n dX2_uncover_15 rfl ?_
    refine e_isub dX2_uncover_16 ?_
    refine e_iast (ci := 2) (by first | assumption | exact ⟨by decide, rfl⟩) rfl (vin 12 (by decide) (by grind)) dX2_uncover_17 ?_
    refine e_aload_n dX2_uncover_18 rfl ?_
    refine e_getA kX2 (by first | assumption | exact ⟨by decide, rfl⟩) (by decide) fX2_9 rfl dX2_uncover_19 ?_
    refine e_iload_n dX2_uncover_22 rfl ?_
    refine e_dup2 dX2_uncover_23 ?_
    refine e_iald (ci := 2) (by first | assumption | exact ⟨by decide, rfl⟩) rfl (vin 12 (by decide) (by grind)) dX2_uncover_24 ?_
    refine e_iload_n dX2_uncover_25 rfl ?_
    refine e_iadd dX2_uncover_26 ?_
    refine e_iast (ci := 2) (by first | assumption | exact ⟨by decide, rfl⟩) rfl (vin 12 (by decide) (by grind)) dX2_uncover_27 ?_
    exact e_vreq rfl dX2_uncover_28 (by unfold sUnc; first | rw [if_neg (by grind)] | (rw [if_pos (by grind)]; simp [up]))
def sExch (σ : rS) (o : Nat) (a b : Int32) : rS := if hasM σ o a ∧ hasM σ o b then up (up (up (up σ o 0 a (σ o 0 b)) o 1 a (σ o 1 b)) o 0 b (σ o 0 a)) o 1 b (σ o 1 a) else σ
theorem c_X2_exchangeEstates {o : Nat} {a b : Int32} {σ : rS} (h0 : isO o 2) : Ct mX2_exchangeEstates [.inr (o, 0), .inl a, .inl b] σ none (sExch σ o a b) := by
  refine C_of_E rfl rfl (Nat.le_of_ble_eq_true rfl) ?_
  refine e_aload_n dX2_exchangeEstates_0 rfl ?_
  refine e_iload_n dX2_exchangeEstates_1 rfl ?_
  refine e_V1 oX2_has lX2_37 ⟨Nat.le_of_ble_eq_true rfl, Nat.le_of_ble_eq_true rfl⟩ dX2_exchangeEstates_2 (by first | assumption | exact ⟨by decide, rfl⟩) (Nat.le_of_ble_eq_true rfl) (c_X2_has (by first | assumption | exact ⟨by decide, rfl⟩)) ?_
  refine e_if_eqB (tgt := 70) dX2_exchangeEstates_5 (by decide) (fun h5 => ?_) (fun h5 => ?_)
  ·
    exact e_vreq rfl dX2_exchangeEstates_70 (by unfold sExch; first | rw [if_neg (by grind)] | (rw [if_pos (by grind)]; simp [up]))
  ·
    refine e_aload_n dX2_exchangeEstates_8 rfl ?_
    refine e_iload_n dX2_exchangeEstates_9 rfl ?_
    refine e_V1 oX2_has lX2_37 ⟨Nat.le_of_ble_eq_true rfl, Nat.le_of_ble_eq_true rfl⟩ dX2_exchangeEstates_10 (by first | assumption | exact ⟨by decide, rfl⟩) (Nat.le_of_ble_eq_true rfl) (c_X2_has (by first | assumption | exact ⟨by decide, rfl⟩)) ?_
    refine e_if_eqB (tgt := 70) dX2_exchangeEstates_13 (by decide) (fun h13 => ?_) (fun h13 => ?_)
    ·
      exact e_vreq rfl dX2_exchangeEstates_70 (by unfold sExch; first | rw [if_neg (by grind)] | (rw [if_pos (by grind)]; simp [up]))
    ·
      refine e_aload_n dX2_exchangeEstates_16 rfl ?_
      refine e_getA kX2 (by first | assumption | exact ⟨by decide, rfl⟩) (by decide) fX2_9 rfl dX2_exchangeEstates_17 ?_
      refine e_iload_n dX2_exchangeEstates_20 rfl ?_
      refine e_iald (ci := 2) (by first | assumption | exact ⟨by decide, rfl⟩) rfl (vin 12 (by decide) (by grind)) dX2_exchangeEstates_21 ?_
      refine e_istore_n dX2_exchangeEstates_22 (by decide) (Nat.le_of_ble_eq_true rfl) ?_
      refine e_aload_n dX2_exchangeEstates_23 rfl ?_
      refine e_getA kX2 (by first | assumption | exact ⟨by decide, rfl⟩) (by decide) fX2_15 rfl dX2_exchangeEstates_24 ?_
      refine e_iload_n dX2_exchangeEstates_27 rfl ?_
      refine e_iald (ci := 2) (by first | assumption | exact ⟨by decide, rfl⟩) rfl (vin 12 (by decide) (by grind)) dX2_exchangeEstates_28 ?_
      refine e_istore dX2_exchangeEstates_29 (by decide) (Nat.le_of_ble_eq_true rfl) ?_
      refine e_aload_n dX2_exchangeEstates_31 rfl ?_
      refine e_getA kX2 (by first | assumption | exact ⟨by decide, rfl⟩) (by decide) fX2_9 rfl dX2_exchangeEstates_32 ?_
      refine e_iload_n dX2_exchangeEstates_35 rfl ?_
      refine e_aload_n dX2_exchangeEstates_36 rfl ?_
      refine e_getA kX2 (by first | assumption | exact ⟨by decide, rfl⟩) (by decide) fX2_9 rfl dX2_exchangeEstates_37 ?_
      refine e_iload_n dX2_exchangeEstates_40 rfl ?_
      refine e_iald (ci := 2) (by first | assumption | exact ⟨by decide, rfl⟩) rfl (vin 12 (by decide) (by grind)) dX2_exchangeEstates_41 ?_
      refine e_iast (ci := 2) (by first | assumption | exact ⟨by decide, rfl⟩) rfl (vin 12 (by decide) (by grind)) dX2_exchangeEstates_42 ?_
      refine e_aload_n dX2_exchangeEstates_43 rfl ?_
      refine e_getA kX2 (by first | assumption | exact ⟨by decide, rfl⟩) (by decide) fX2_15 rfl dX2_exchangeEstates_44 ?_
      refine e_iload_n dX2_exchangeEstates_47 rfl ?_
      refine e_aload_n dX2_exchangeEstates_48 rfl ?_
      refine e_getA kX2 (by first | assumption | exact ⟨by decide, rfl⟩) (by decide) fX2_15 rfl dX2_exchangeEstates_49 ?_
      refine e_iload_n dX2_exchangeEstates_52 rfl ?_
      refine e_iald (ci := 2) (by first | assumption | exact ⟨by decide, rfl⟩) rfl (vin 12 (by decide) (by grind)) dX2_exchangeEstates_53 ?_
      refine e_iast (ci := 2) (by first | assumption | exact ⟨by decide, rfl⟩) rfl (vin 12 (by decide) (by grind)) dX2_exchangeEstates_54 ?_
      refine e_aload_n dX2_exchangeEstates_55 rfl ?_
      refine e_getA kX2 (by first | assumption | exact ⟨by decide, rfl⟩) (by decide) fX2_9 rfl dX2_exchangeEstates_56 ?_
      refine e_iload_n dX2_exchangeEstates_59 rfl ?_
      refine e_iload_n dX2_exchangeEstates_60 rfl ?_
      refine e_iast (ci := 2) (by first | assumption | exact ⟨by decide, rfl⟩) rfl (vin 12 (by decide) (by grind)) dX2_exchangeEstates_61 ?_
      refine e_aload_n dX2_exchangeEstates_62 rfl ?_
      refine e_getA kX2 (by first | assumption | exact ⟨by decide, rfl⟩) (by decide) fX2_15 rfl dX2_exchangeEstates_63 ?_
      refine e_iload_n dX2_exchangeEstates_66 rfl ?_
      refine e_iload dX2_exchangeEstates_67 rfl ?_
      refine e_iast (ci := 2) (by first | assumption | exact ⟨by decide, rfl⟩) rfl (vin 12 (by decide) (by grind)) dX2_exchangeEstates_69 ?_
      exact e_vreq rfl dX2_exchangeEstates_70 (by unfold sExch; first | rw [if_neg (by grind)] | (rw [if_pos (by grind)]; simp [up]))
def sLay (σ : rS) (o : Nat) (man p : Int32) : rS := if hasM σ o man ∧ isPl p then up (up (up σ o 4 man p) o 5 p man) o 6 p (σ o 6 p ||| ((1 : Int32) <<< (man &&& 31))) else σ
theorem c_X2_layOn {o : Nat} {man p : Int32} {σ : rS} (h0 : isO o 2) : Ct mX2_layOn [.inr (o, 0), .inl man, .inl p] σ none (sLay σ o man p) := by
  refine C_of_E rfl rfl (Nat.le_of_ble_eq_true rfl) ?_
  refine e_aload_n dX2_layOn_0 rfl ?_
  refine e_iload_n dX2_layOn_1 rfl ?_
  refine e_V1 oX2_has lX2_37 ⟨Nat.le_of_ble_eq_true rfl, Nat.le_of_ble_eq_true rfl⟩ dX2_layOn_2 (by first | assumption | exact ⟨by decide, rfl⟩) (Nat.le_of_ble_eq_true rfl) (c_X2_has (by first | assumption | exact ⟨by decide, rfl⟩)) ?_
  refine e_if_eqB (tgt := 41) dX2_layOn_5 (by decide) (fun h5 => ?_) (fun h5 => ?_)
  ·
    exact e_vreq rfl dX2_layOn_41 (by unfold sLay; first | rw [if_neg (by grind)] | (rw [if_pos (by grind)]; simp [up]))
  ·
    refine e_iload_n dX2_layOn_8 rfl ?_
    refine e_S1 oX2_isPlace sX2_isPlace lX2_48 ⟨Nat.le_of_ble_eq_true rfl, Nat.le_of_ble_eq_true rfl⟩ dX2_layOn_9 (Nat.le_of_ble_eq_true rfl) (c_X2_isPlace) ?_
    refine e_if_eqB (tgt := 41) dX2_layOn_12 (by decide) (fun h12 => ?_) (fun h12 => ?_)
    ·
      exact e_vreq rfl dX2_layOn_41 (by unfold sLay; first | rw [if_neg (by grind)] | (rw [if_pos (by grind)]; simp [up]))
    ·
      refine e_aload_n dX2_layOn_15 rfl ?_
      refine e_getA kX2 (by first | assumption | exact ⟨by decide, rfl⟩) (by decide) fX2_24 rfl dX2_layOn_16 ?_
      refine e_iload_n dX2_layOn_19 rfl ?_
      refine e_iload_n dX2_layOn_20 rfl ?_
      refine e_iast (ci := 2) (by first | assumption | exact ⟨by decide, rfl⟩) rfl (vin 12 (by decide) (by grind)) dX2_layOn_21 ?_
      refine e_aload_n dX2_layOn_22 rfl ?_
      refine e_getA kX2 (by first | assumption | exact ⟨by decide, rfl⟩) (by decide) fX2_27 rfl dX2_layOn_23 ?_
      refine e_iload_n dX2_layOn_26 rfl ?_
      refine e_iload_n dX2_layOn_27 rfl ?_
      refine e_iast (ci := 2) (by first | assumption | exact ⟨by decide, rfl⟩) rfl (vin 24 (by decide) (by grind)) dX2_layOn_28 ?_
      refine e_aload_n dX2_layOn_29 rfl ?_
      refine e_getA kX2 (by first | assumption | exact ⟨by decide, rfl⟩) (by decide) fX2_30 rfl dX2_layOn_30 ?_
      refine e_iload_n dX2_layOn_33 rfl ?_
      refine e_dup2 dX2_layOn_34 ?_
      refine e_iald (ci := 2) (by first | assumption | exact ⟨by decide, rfl⟩) rfl (vin 24 (by decide) (by grind)) dX2_layOn_35 ?_
      refine e_iconst (v := 1) dX2_layOn_36 (by decide) ?_
      refine e_iload_n dX2_layOn_37 rfl ?_
      refine e_ishl dX2_layOn_38 ?_
      refine e_ior dX2_layOn_39 ?_
      refine e_iast (ci := 2) (by first | assumption | exact ⟨by decide, rfl⟩) rfl (vin 24 (by decide) (by grind)) dX2_layOn_40 ?_
      exact e_vreq rfl dX2_layOn_41 (by unfold sLay; first | rw [if_neg (by grind)] | (rw [if_pos (by grind)]; simp [up]))
def sFree (σ : rS) (o : Nat) (man : Int32) : rS := if hasM σ o man then up σ o 4 man (-1) else σ
theorem c_X2_handOver {o : Nat} {p a b : Int32} {σ : rS} (h0 : isO o 2) : Ct mX2_handOver [.inr (o, 0), .inl p, .inl a, .inl b] σ none (sLay (sFree σ o a) o b p) := by
  refine C_of_E rfl rfl (Nat.le_of_ble_eq_true rfl) ?_
  refine e_aload_n dX2_handOver_0 rfl ?_
  refine e_iload_n dX2_handOver_1 rfl ?_
  refine e_V1 oX2_has lX2_37 ⟨Nat.le_of_ble_eq_true rfl, Nat.le_of_ble_eq_true rfl⟩ dX2_handOver_2 (by first | assumption | exact ⟨by decide, rfl⟩) (Nat.le_of_ble_eq_true rfl) (c_X2_has (by first | assumption | exact ⟨by decide, rfl⟩)) ?_
  refine e_if_eqB (tgt := 15) dX2_handOver_5 (by decide) (fun h5 => ?_) (fun h5 => ?_)
  ·
    refine e_aload_n dX2_handOver_15 rfl ?_
    refine e_iload_n dX2_handOver_16 rfl ?_
    refine e_iload_n dX2_handOver_17 rfl ?_
    refine e_V2v oX2_layOn lX2_67 ⟨Nat.le_of_ble_eq_true rfl, Nat.le_of_ble_eq_true rfl⟩ dX2_handOver_18 (by first | assumption | exact ⟨by decide, rfl⟩) (Nat.le_of_ble_eq_true rfl) (c_X2_layOn (by first | assumption | exact ⟨by decide, rfl⟩)) ?_
    exact e_vreq rfl dX2_handOver_21 (by unfold sFree; first | rw [if_neg (by grind)] | rw [if_pos (by grind)])
  ·
    refine e_aload_n dX2_handOver_8 rfl ?_
    refine e_getA kX2 (by first | assumption | exact ⟨by decide, rfl⟩) (by decide) fX2_24 rfl dX2_handOver_9 ?_
    refine e_iload_n dX2_handOver_12 rfl ?_
    refine e_iconst (v := -1) dX2_handOver_13 (by decide) ?_
    refine e_iast (ci := 2) (by first | assumption | exact ⟨by decide, rfl⟩) rfl (vin 12 (by decide) (by grind)) dX2_handOver_14 ?_
    refine e_aload_n dX2_handOver_15 rfl ?_
    refine e_iload_n dX2_handOver_16 rfl ?_
    refine e_iload_n dX2_handOver_17 rfl ?_
    refine e_V2v oX2_layOn lX2_67 ⟨Nat.le_of_ble_eq_true rfl, Nat.le_of_ble_eq_true rfl⟩ dX2_handOver_18 (by first | assumption | exact ⟨by decide, rfl⟩) (Nat.le_of_ble_eq_true rfl) (c_X2_layOn (by first | assumption | exact ⟨by decide, rfl⟩)) ?_
    exact e_vreq rfl dX2_handOver_21 (by unfold sFree; first | rw [if_neg (by grind)] | rw [if_pos (by grind)])
-- Statutes
theorem c_X3_places {o : Nat} {σ : rS} (h0 : isO o 3) : Ct mX3_places [.inr (o, 0)] σ (some (.inl (σ o 4 0))) (σ) := by
  refine C_of_E rfl rfl (Nat.le_of_ble_eq_true rfl) ?_
  refine e_aload_n dX3_places_0 rfl ?_
  refine e_getI kX3 (by first | assumption | exact ⟨by decide, rfl⟩) (by decide) fX3_24 rfl dX3_places_1 ?_
  exact e_ireq rfl rfl dX3_places_4 (by first | rfl | grind) rfl
abbrev gSet (σ : rS) (o : Nat) (k : Int32) : Int32 := if 0 ≤ k ∧ k < 4 then σ o 2 k else 0
theorem c_X3_setting {o : Nat} {k : Int32} {σ : rS} (h0 : isO o 3) : Ct mX3_setting [.inr (o, 0), .inl k] σ (some (.inl (gSet σ o k))) (σ) := by
  refine C_of_E rfl rfl (Nat.le_of_ble_eq_true rfl) ?_
  refine e_iload_n dX3_setting_0 rfl ?_
  refine e_if_lt (tgt := 22) dX3_setting_1 (by decide) (fun h1 => ?_) (fun h1 => ?_)
  ·
    refine e_iconst (v := 0) dX3_setting_22 (by decide) ?_
    exact e_ireq rfl rfl dX3_setting_23 (by first | rfl | grind) rfl
  ·
    refine e_iload_n dX3_setting_4 rfl ?_
    refine e_aload_n dX3_setting_5 rfl ?_
    refine e_getA kX3 (by first | assumption | exact ⟨by decide, rfl⟩) (by decide) fX3_18 rfl dX3_setting_6 ?_
    refine e_alen (ci := 3) (n := 4) (by first | assumption | exact ⟨by decide, rfl⟩) rfl (by decide) dX3_setting_9 ?_
    refine e_icmp_ge (tgt := 22) dX3_setting_10 (by decide) (fun h10 => ?_) (fun h10 => ?_)
    ·
      refine e_iconst (v := 0) dX3_setting_22 (by decide) ?_
      exact e_ireq rfl rfl dX3_setting_23 (by first | rfl | grind) rfl
    ·
      refine e_aload_n dX3_setting_13 rfl ?_
      refine e_getA kX3 (by first | assumption | exact ⟨by decide, rfl⟩) (by decide) fX3_18 rfl dX3_setting_14 ?_
      refine e_iload_n dX3_setting_17 rfl ?_
      refine e_iald (ci := 3) (by first | assumption | exact ⟨by decide, rfl⟩) rfl (vin 4 (by decide) (by grind)) dX3_setting_18 ?_
      refine e_goto (tgt := 23) dX3_setting_19 (by decide) ?_
      exact e_ireq rfl rfl dX3_setting_23 (by first | rfl | grind) rfl
abbrev hasP (σ : rS) (o : Nat) (p : Int32) : Prop := 0 ≤ p ∧ p < σ o 4 0 ∧ p < 24
theorem c_X3_hasPlace {o : Nat} {p : Int32} {σ : rS} (h0 : isO o 3) : Ct mX3_hasPlace [.inr (o, 0), .inl p] σ (some (.inl (bI (hasP σ o p)))) (σ) := by
  refine C_of_E rfl rfl (Nat.le_of_ble_eq_true rfl) ?_
  refine e_iload_n dX3_hasPlace_0 rfl ?_
  refine e_if_lt (tgt := 25) dX3_hasPlace_1 (by decide) (fun h1 => ?_) (fun h1 => ?_)
  ·
    refine e_iconst (v := 0) dX3_hasPlace_25 (by decide) ?_
    exact e_ret0 rfl dX3_hasPlace_26 (by grind) rfl
  ·
    refine e_iload_n dX3_hasPlace_4 rfl ?_
    refine e_aload_n dX3_hasPlace_5 rfl ?_
    refine e_getI kX3 (by first | assumption | exact ⟨by decide, rfl⟩) (by decide) fX3_24 rfl dX3_hasPlace_6 ?_
    refine e_icmp_ge (tgt := 25) dX3_hasPlace_9 (by decide) (fun h9 => ?_) (fun h9 => ?_)
    ·
      refine e_iconst (v := 0) dX3_hasPlace_25 (by decide) ?_
      exact e_ret0 rfl dX3_hasPlace_26 (by grind) rfl
    ·
      refine e_iload_n dX3_hasPlace_12 rfl ?_
      refine e_aload_n dX3_hasPlace_13 rfl ?_
      refine e_getA kX3 (by first | assumption | exact ⟨by decide, rfl⟩) (by decide) fX3_21 rfl dX3_hasPlace_14 ?_
      refine e_alen (ci := 3) (n := 24) (by first | assumption | exact ⟨by decide, rfl⟩) rfl (by decide) dX3_hasPlace_17 ?_
      refine e_icmp_ge (tgt := 25) dX3_hasPlace_18 (by decide) (fun h18 => ?_) (fun h18 => ?_)
      ·
        refine e_iconst (v := 0) dX3_hasPlace_25 (by decide) ?_
        exact e_ret0 rfl dX3_hasPlace_26 (by grind) rfl
      ·
        refine e_iconst (v := 1) dX3_hasPlace_21 (by decide) ?_
        refine e_goto (tgt := 26) dX3_hasPlace_22 (by decide) ?_
        exact e_ret1 rfl dX3_hasPlace_26 (by grind) rfl
abbrev gBu (σ : rS) (o : Nat) (p : Int32) : Int32 := if hasP σ o p then σ o 3 p else -1
theorem c_X3_burdenAt {o : Nat} {p : Int32} {σ : rS} (h0 : isO o 3) : Ct mX3_burdenAt [.inr (o, 0), .inl p] σ (some (.inl (gBu σ o p))) (σ) := by
  refine C_of_E rfl rfl (Nat.le_of_ble_eq_true rfl) ?_
  refine e_aload_n dX3_burdenAt_0 rfl ?_
  refine e_iload_n dX3_burdenAt_1 rfl ?_
  refine e_V1 oX3_hasPlace lX3_32 ⟨Nat.le_of_ble_eq_true rfl, Nat.le_of_ble_eq_true rfl⟩ dX3_burdenAt_2 (by first | assumption | exact ⟨by decide, rfl⟩) (Nat.le_of_ble_eq_true rfl) (c_X3_hasPlace (by first | assumption | exact ⟨by decide, rfl⟩)) ?_
  refine e_if_eqB (tgt := 17) dX3_burdenAt_5 (by decide) (fun h5 => ?_) (fun h5 => ?_)
  ·
    refine e_iconst (v := -1) dX3_burdenAt_17 (by decide) ?_
    exact e_ireq rfl rfl dX3_burdenAt_18 (by first | rfl | grind) rfl
  ·
    refine e_aload_n dX3_burdenAt_8 rfl ?_
    refine e_getA kX3 (by first | assumption | exact ⟨by decide, rfl⟩) (by decide) fX3_21 rfl dX3_burdenAt_9 ?_
    refine e_iload_n dX3_burdenAt_12 rfl ?_
    refine e_iald (ci := 3) (by first | assumption | exact ⟨by decide, rfl⟩) rfl (vin 24 (by decide) (by grind)) dX3_burdenAt_13 ?_
    refine e_goto (tgt := 18) dX3_burdenAt_14 (by decide) ?_
    exact e_ireq rfl rfl dX3_burdenAt_18 (by first | rfl | grind) rfl
abbrev gSh (σ : rS) (o : Nat) (b : Int32) : Int32 := if 0 ≤ b ∧ b < 6 then σ o 1 b else 0
theorem c_X3_shareOf {o : Nat} {b : Int32} {σ : rS} (h0 : isO o 3) : Ct mX3_shareOf [.inr (o, 0), .inl b] σ (some (.inl (gSh σ o b))) (σ) := by
  refine C_of_E rfl rfl (Nat.le_of_ble_eq_true rfl) ?_
  refine e_iload_n dX3_shareOf_0 rfl ?_
  refine e_if_lt (tgt := 31) dX3_shareOf_1 (by decide) (fun h1 => ?_) (fun h1 => ?_)
  ·
    refine e_iconst (v := 0) dX3_shareOf_31 (by decide) ?_
    exact e_ireq rfl rfl dX3_shareOf_32 (by first | rfl | grind) rfl
  ·
    refine e_iload_n dX3_shareOf_4 rfl ?_
    refine e_aload_n dX3_shareOf_5 rfl ?_
    refine e_getA kX3 (by first | assumption | exact ⟨by decide, rfl⟩) (by decide) fX3_15 rfl dX3_shareOf_6 ?_
    refine e_alen (ci := 3) (n := 6) (by first | assumption | exact ⟨by decide, rfl⟩) rfl (by decide) dX3_shareOf_9 ?_
    refine e_icmp_ge (tgt := 31) dX3_shareOf_10 (by decide) (fun h10 => ?_) (fun h10 => ?_)
    ·
      refine e_iconst (v := 0) dX3_shareOf_31 (by decide) ?_
      exact e_ireq rfl rfl dX3_shareOf_32 (by first | rfl | grind) rfl
    ·
      refine e_iload_n dX3_shareOf_13 rfl ?_
      refine e_aload_n dX3_shareOf_14 rfl ?_
      refine e_getA kX3 (by first | assumption | exact ⟨by decide, rfl⟩) (by decide) fX3_9 rfl dX3_shareOf_15 ?_
      refine e_alen (ci := 3) (n := 6) (by first | assumption | exact ⟨by decide, rfl⟩) rfl (by decide) dX3_shareOf_18 ?_
      refine e_icmp_ge (tgt := 31) dX3_shareOf_19 (by decide) (fun h19 => ?_) (fun h19 => ?_)
      ·
        refine e_iconst (v := 0) dX3_shareOf_31 (by decide) ?_
        exact e_ireq rfl rfl dX3_shareOf_32 (by first | rfl | grind) rfl
      ·
        refine e_aload_n dX3_shareOf_22 rfl ?_
        refine e_getA kX3 (by first | assumption | exact ⟨by decide, rfl⟩) (by decide) fX3_15 rfl dX3_shareOf_23 ?_
        refine e_iload_n dX3_shareOf_26 rfl ?_
        refine e_iald (ci := 3) (by first | assumption | exact ⟨by decide, rfl⟩) rfl (vin 6 (by decide) (by grind)) dX3_shareOf_27 ?_
        refine e_goto (tgt := 32) dX3_shareOf_28 (by decide) ?_
        exact e_ireq rfl rfl dX3_shareOf_32 (by first | rfl | grind) rfl
theorem c_X3_hasBurden {o : Nat} {b : Int32} {σ : rS} (h0 : isO o 3) : Ct mX3_hasBurden [.inr (o, 0), .inl b] σ (some (.inl (bI (0 < gSh σ o b)))) (σ) := by
  refine C_of_E rfl rfl (Nat.le_of_ble_eq_true rfl) ?_
  refine e_aload_n dX3_hasBurden_0 rfl ?_
  refine e_iload_n dX3_hasBurden_1 rfl ?_
  refine e_V1 oX3_shareOf lX3_28 ⟨Nat.le_of_ble_eq_true rfl, Nat.le_of_ble_eq_true rfl⟩ dX3_hasBurden_2 (by first | assumption | exact ⟨by decide, rfl⟩) (Nat.le_of_ble_eq_true rfl) (c_X3_shareOf (by first | assumption | exact ⟨by decide, rfl⟩)) ?_
  refine e_if_le (tgt := 12) dX3_hasBurden_5 (by decide) (fun h5 => ?_) (fun h5 => ?_)
  ·
    refine e_iconst (v := 0) dX3_hasBurden_12 (by decide) ?_
    exact e_ret0 rfl dX3_hasBurden_13 (by grind) rfl
  ·
    refine e_iconst (v := 1) dX3_hasBurden_8 (by decide) ?_
    refine e_goto (tgt := 13) dX3_hasBurden_9 (by decide) ?_
    exact e_ret1 rfl dX3_hasBurden_13 (by grind) rfl
abbrev gPart (σ : rS) (o : Nat) (b a : Int32) : Int32 := if gSh σ o b ≤ 0 then 0 else σ o 0 b / gSh σ o b + (if a < σ o 0 b - σ o 0 b / gSh σ o b * gSh σ o b then 1 else 0)
theorem c_X3_partBehind {o : Nat} {b a : Int32} {σ : rS} (h0 : isO o 3) : Ct mX3_partBehind [.inr (o, 0), .inl b, .inl a] σ (some (.inl (gPart σ o b a))) (σ) := by
  refine C_of_E rfl rfl (Nat.le_of_ble_eq_true rfl) ?_
  refine e_aload_n dX3_partBehind_0 rfl ?_
  refine e_iload_n dX3_partBehind_1 rfl ?_
  refine e_V1 oX3_shareOf lX3_28 ⟨Nat.le_of_ble_eq_true rfl, Nat.le_of_ble_eq_true rfl⟩ dX3_partBehind_2 (by first | assumption | exact ⟨by decide, rfl⟩) (Nat.le_of_ble_eq_true rfl) (c_X3_shareOf (by first | assumption | exact ⟨by decide, rfl⟩)) ?_
  refine e_istore_n dX3_partBehind_5 (by decide) (Nat.le_of_ble_eq_true rfl) ?_
  refine e_iload_n dX3_partBehind_6 rfl ?_
  refine e_if_gt (tgt := 12) dX3_partBehind_7 (by decide) (fun h7 => ?_) (fun h7 => ?_)
  ·
    refine e_iload_n dX3_partBehind_12 rfl ?_
    refine e_aload_n dX3_partBehind_13 rfl ?_
    refine e_getA kX3 (by first | assumption | exact ⟨by decide, rfl⟩) (by decide) fX3_9 rfl dX3_partBehind_14 ?_
    refine e_iload_n dX3_partBehind_17 rfl ?_
    refine e_iald (ci := 3) (by first | assumption | exact ⟨by decide, rfl⟩) rfl (vin 6 (by decide) (by grind)) dX3_partBehind_18 ?_
    refine e_iload_n dX3_partBehind_19 rfl ?_
    refine e_irem dX3_partBehind_20 (by grind) ?_
    refine e_icmp_ge (tgt := 28) dX3_partBehind_21 (by decide) (fun h21 => ?_) (fun h21 => ?_)
    ·
      refine e_iconst (v := 0) dX3_partBehind_28 (by decide) ?_
      refine e_istore dX3_partBehind_29 (by decide) (Nat.le_of_ble_eq_true rfl) ?_
      refine e_aload_n dX3_partBehind_31 rfl ?_
      refine e_getA kX3 (by first | assumption | exact ⟨by decide, rfl⟩) (by decide) fX3_9 rfl dX3_partBehind_32 ?_
      refine e_iload_n dX3_partBehind_35 rfl ?_
      refine e_iald (ci := 3) (by first | assumption | exact ⟨by decide, rfl⟩) rfl (vin 6 (by decide) (by grind)) dX3_partBehind_36 ?_
      refine e_iload_n dX3_partBehind_37 rfl ?_
      refine e_idiv dX3_partBehind_38 (by grind) ?_
      refine e_iload dX3_partBehind_39 rfl ?_
      refine e_iadd dX3_partBehind_41 ?_
      exact e_ireq rfl rfl dX3_partBehind_42 (by first | rfl | grind) rfl
    ·
      refine e_iconst (v := 1) dX3_partBehind_24 (by decide) ?_
      refine e_goto (tgt := 29) dX3_partBehind_25 (by decide) ?_
      refine e_istore dX3_partBehind_29 (by decide) (Nat.le_of_ble_eq_true rfl) ?_
      refine e_aload_n dX3_partBehind_31 rfl ?_
      refine e_getA kX3 (by first | assumption | exact ⟨by decide, rfl⟩) (by decide) fX3_9 rfl dX3_partBehind_32 ?_
      refine e_iload_n dX3_partBehind_35 rfl ?_
      refine e_iald (ci := 3) (by first | assumption | exact ⟨by decide, rfl⟩) rfl (vin 6 (by decide) (by grind)) dX3_partBehind_36 ?_
      refine e_iload_n dX3_partBehind_37 rfl ?_
      refine e_idiv dX3_partBehind_38 (by grind) ?_
      refine e_iload dX3_partBehind_39 rfl ?_
      refine e_iadd dX3_partBehind_41 ?_
      exact e_ireq rfl rfl dX3_partBehind_42 (by first | rfl | grind) rfl
  ·
    refine e_iconst (v := 0) dX3_partBehind_10 (by decide) ?_
    exact e_ireq rfl rfl dX3_partBehind_11 (by first | rfl | grind) rfl
def sTell (σ : rS) (o : Nat) (b c h : Int32) : rS := if 0 ≤ b ∧ b < 6 then up (up σ o 0 b c) o 1 b h else σ
theorem c_X3_tellBurden {o : Nat} {b c h : Int32} {σ : rS} (h0 : isO o 3) : Ct mX3_tellBurden [.inr (o, 0), .inl b, .inl c, .inl h] σ none (sTell σ o b c h) := by
  refine C_of_E rfl rfl (Nat.le_of_ble_eq_true rfl) ?_
  refine e_iload_n dX3_tellBurden_0 rfl ?_
  refine e_if_lt (tgt := 36) dX3_tellBurden_1 (by decide) (fun h1 => ?_) (fun h1 => ?_)
  ·
    exact e_vreq rfl dX3_tellBurden_36 (by unfold sTell; first | rw [if_neg (by grind)] | rw [if_pos (by grind)])
  ·
    refine e_iload_n dX3_tellBurden_4 rfl ?_
    refine e_aload_n dX3_tellBurden_5 rfl ?_
    refine e_getA kX3 (by first | assumption | exact ⟨by decide, rfl⟩) (by decide) fX3_9 rfl dX3_tellBurden_6 ?_
    refine e_alen (ci := 3) (n := 6) (by first | assumption | exact ⟨by decide, rfl⟩) rfl (by decide) dX3_tellBurden_9 ?_
    refine e_icmp_ge (tgt := 36) dX3_tellBurden_10 (by decide) (fun h10 => ?_) (fun h10 => ?_)
    ·
      exact e_vreq rfl dX3_tellBurden_36 (by unfold sTell; first | rw [if_neg (by grind)] | rw [if_pos (by grind)])
    ·
      refine e_iload_n dX3_tellBurden_13 rfl ?_
      refine e_aload_n dX3_tellBurden_14 rfl ?_
      refine e_getA kX3 (by first | assumption | exact ⟨by decide, rfl⟩) (by decide) fX3_15 rfl dX3_tellBurden_15 ?_
      refine e_alen (ci := 3) (n := 6) (by first | assumption | exact ⟨by decide, rfl⟩) rfl (by decide) dX3_tellBurden_18 ?_
      refine e_icmp_ge (tgt := 36) dX3_tellBurden_19 (by decide) (fun h19 => ?_) (fun h19 => ?_)
      ·
        exact e_vreq rfl dX3_tellBurden_36 (by unfold sTell; first | rw [if_neg (by grind)] | rw [if_pos (by grind)])
      ·
        refine e_aload_n dX3_tellBurden_22 rfl ?_
        refine e_getA kX3 (by first | assumption | exact ⟨by decide, rfl⟩) (by decide) fX3_9 rfl dX3_tellBurden_23 ?_
        refine e_iload_n dX3_tellBurden_26 rfl ?_
        refine e_iload_n dX3_tellBurden_27 rfl ?_
        refine e_iast (ci := 3) (by first | assumption | exact ⟨by decide, rfl⟩) rfl (vin 6 (by decide) (by grind)) dX3_tellBurden_28 ?_
        refine e_aload_n dX3_tellBurden_29 rfl ?_
        refine e_getA kX3 (by first | assumption | exact ⟨by decide, rfl⟩) (by decide) fX3_15 rfl dX3_tellBurden_30 ?_
        refine e_iload_n dX3_tellBurden_33 rfl ?_
        refine e_iload_n dX3_tellBurden_34 rfl ?_
        refine e_iast (ci := 3) (by first | assumption | exact ⟨by decide, rfl⟩) rfl (vin 6 (by decide) (by grind)) dX3_tellBurden_35 ?_
        exact e_vreq rfl dX3_tellBurden_36 (by unfold sTell; first | rw [if_neg (by grind)] | rw [if_pos (by grind)])
def sSetg (σ : rS) (o : Nat) (k x : Int32) : rS := if 0 ≤ k ∧ k < 4 then up σ o 2 k x else σ
theorem c_X3_tellSetting {o : Nat} {k x : Int32} {σ : rS} (h0 : isO o 3) : Ct mX3_tellSetting [.inr (o, 0), .inl k, .inl x] σ none (sSetg σ o k x) := by
  refine C_of_E rfl rfl (Nat.le_of_ble_eq_true rfl) ?_
  refine e_iload_n dX3_tellSetting_0 rfl ?_
  refine e_if_lt (tgt := 20) dX3_tellSetting_1 (by decide) (fun h1 => ?_) (fun h1 => ?_)
  ·
    exact e_vreq rfl dX3_tellSetting_20 (by unfold sSetg; first | rw [if_neg (by grind)] | rw [if_pos (by grind)])
  ·
    refine e_iload_n dX3_tellSetting_4 rfl ?_
    refine e_aload_n dX3_tellSetting_5 rfl ?_
    refine e_getA kX3 (by first | assumption | exact ⟨by decide, rfl⟩) (by decide) fX3_18 rfl dX3_tellSetting_6 ?_
    refine e_alen (ci := 3) (n := 4) (by first | assumption | exact ⟨by decide, rfl⟩) rfl (by decide) dX3_tellSetting_9 ?_
    refine e_icmp_ge (tgt := 20) dX3_tellSetting_10 (by decide) (fun h10 => ?_) (fun h10 => ?_)
    ·
      exact e_vreq rfl dX3_tellSetting_20 (by unfold sSetg; first | rw [if_neg (by grind)] | rw [if_pos (by grind)])
    ·
      refine e_aload_n dX3_tellSetting_13 rfl ?_
      refine e_getA kX3 (by first | assumption | exact ⟨by decide, rfl⟩) (by decide) fX3_18 rfl dX3_tellSetting_14 ?_
      refine e_iload_n dX3_tellSetting_17 rfl ?_
      refine e_iload_n dX3_tellSetting_18 rfl ?_
      refine e_iast (ci := 3) (by first | assumption | exact ⟨by decide, rfl⟩) rfl (vin 4 (by decide) (by grind)) dX3_tellSetting_19 ?_
      exact e_vreq rfl dX3_tellSetting_20 (by unfold sSetg; first | rw [if_neg (by grind)] | rw [if_pos (by grind)])
