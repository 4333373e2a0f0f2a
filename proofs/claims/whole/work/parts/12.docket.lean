-- Docket
theorem isO_ne {a b d o : Nat} (h0 : isO d a) (h1 : isO o b) (h : a ≠ b) : ¬ d = o := by
  intro e
  subst e
  exact h (h0.2.symm.trans h1.2)
abbrev hasC (σ : rS) (d : Nat) (c : Int32) : Prop := 0 ≤ c ∧ c < σ d 8 0 ∧ c < 40
abbrev gC (σ : rS) (d k : Nat) (c z : Int32) : Int32 := if hasC σ d c then σ d k c else z
abbrev runB (σ : rS) (d : Nat) (c : Int32) : Prop := gC σ d 4 c (-1) = 0 ∨ gC σ d 4 c (-1) = 1
theorem c_X0_has {d : Nat} {c : Int32} {σ : rS} (h0 : isO d 0) : Ct mX0_has [.inr (d, 0), .inl c] σ (some (.inl (bI (hasC σ d c)))) (σ) := by
  refine C_of_E rfl rfl (Nat.le_of_ble_eq_true rfl) ?_
  refine e_iload_n dX0_has_0 rfl ?_
  refine e_if_lt (tgt := 22) dX0_has_1 (by decide) (fun h1 => ?_) (fun h1 => ?_)
  ·
    refine e_iconst (v := 0) dX0_has_22 (by decide) ?_
    exact e_ret0 rfl dX0_has_23 (by grind) rfl
  ·
    refine e_iload_n dX0_has_4 rfl ?_
    refine e_aload_n dX0_has_5 rfl ?_
    refine e_getI kX0 (by first | assumption | exact ⟨by decide, rfl⟩) (by decide) fX0_37 rfl dX0_has_6 ?_
    refine e_icmp_ge (tgt := 22) dX0_has_9 (by decide) (fun h9 => ?_) (fun h9 => ?_)
    ·
      refine e_iconst (v := 0) dX0_has_22 (by decide) ?_
      exact e_ret0 rfl dX0_has_23 (by grind) rfl
    ·
      refine e_iload_n dX0_has_12 rfl ?_
      refine e_bipush (v := 40) dX0_has_13 (by decide) ?_
      refine e_icmp_ge (tgt := 22) dX0_has_15 (by decide) (fun h15 => ?_) (fun h15 => ?_)
      ·
        refine e_iconst (v := 0) dX0_has_22 (by decide) ?_
        exact e_ret0 rfl dX0_has_23 (by grind) rfl
      ·
        refine e_iconst (v := 1) dX0_has_18 (by decide) ?_
        refine e_goto (tgt := 23) dX0_has_19 (by decide) ?_
        exact e_ret1 rfl dX0_has_23 (by grind) rfl
theorem c_X0_size {d : Nat} {σ : rS} (h0 : isO d 0) : Ct mX0_size [.inr (d, 0)] σ (some (.inl (σ d 8 0))) (σ) := by
  refine C_of_E rfl rfl (Nat.le_of_ble_eq_true rfl) ?_
  refine e_aload_n dX0_size_0 rfl ?_
  refine e_getI kX0 (by first | assumption | exact ⟨by decide, rfl⟩) (by decide) fX0_37 rfl dX0_size_1 ?_
  exact e_ireq rfl rfl dX0_size_4 (by first | rfl | grind) rfl
theorem c_X0_clear {d : Nat} {σ : rS} (h0 : isO d 0) : Ct mX0_clear [.inr (d, 0)] σ none (up σ d 8 0 0) := by
  refine C_of_E rfl rfl (Nat.le_of_ble_eq_true rfl) ?_
  refine e_aload_n dX0_clear_0 rfl ?_
  refine e_iconst (v := 0) dX0_clear_1 (by decide) ?_
  refine e_putI kX0 (by first | assumption | exact ⟨by decide, rfl⟩) (by decide) fX0_37 rfl rfl rfl dX0_clear_2 ?_
  exact e_vreq rfl dX0_clear_5 rfl
theorem c_X0_hasRoom {d : Nat} {σ : rS} (h0 : isO d 0) : Ct mX0_hasRoom [.inr (d, 0)] σ (some (.inl (bI (σ d 8 0 < 40)))) (σ) := by
  refine C_of_E rfl rfl (Nat.le_of_ble_eq_true rfl) ?_
  refine e_aload_n dX0_hasRoom_0 rfl ?_
  refine e_getI kX0 (by first | assumption | exact ⟨by decide, rfl⟩) (by decide) fX0_37 rfl dX0_hasRoom_1 ?_
  refine e_bipush (v := 40) dX0_hasRoom_4 (by decide) ?_
  refine e_icmp_ge (tgt := 13) dX0_hasRoom_6 (by decide) (fun h6 => ?_) (fun h6 => ?_)
  ·
    refine e_iconst (v := 0) dX0_hasRoom_13 (by decide) ?_
    exact e_ret0 rfl dX0_hasRoom_14 (by grind) rfl
  ·
    refine e_iconst (v := 1) dX0_hasRoom_9 (by decide) ?_
    refine e_goto (tgt := 14) dX0_hasRoom_10 (by decide) ?_
    exact e_ret1 rfl dX0_hasRoom_14 (by grind) rfl
def sEnt (σ : rS) (d : Nat) (x y p day dd : Int32) : rS := if 0 ≤ σ d 8 0 ∧ σ d 8 0 < 40 then up (up (up (up (up (up (up (up (up σ d 0 (σ d 8 0) x) d 1 (σ d 8 0) y) d 2 (σ d 8 0) p) d 3 (σ d 8 0) day) d 4 (σ d 8 0) 0) d 5 (σ d 8 0) (day + dd)) d 6 (σ d 8 0) 0) d 7 (σ d 8 0) 0) d 8 0 (σ d 8 0 + 1) else σ
theorem c_X0_enter {d : Nat} {x y p day dd : Int32} {σ : rS} (h0 : isO d 0) : Ct mX0_enter [.inr (d, 0), .inl x, .inl y, .inl p, .inl day, .inl dd] σ (some (.inl (if 0 ≤ σ d 8 0 ∧ σ d 8 0 < 40 then σ d 8 0 else -1))) (sEnt σ d x y p day dd) := by
  refine C_of_E rfl rfl (Nat.le_of_ble_eq_true rfl) ?_
  refine e_aload_n dX0_enter_0 rfl ?_
  refine e_getI kX0 (by first | assumption | exact ⟨by decide, rfl⟩) (by decide) fX0_37 rfl dX0_enter_1 ?_
  refine e_if_lt (tgt := 16) dX0_enter_4 (by decide) (fun h4 => ?_) (fun h4 => ?_)
  ·
    refine e_iconst (v := -1) dX0_enter_16 (by decide) ?_
    exact e_ireq rfl rfl dX0_enter_17 (by first | rfl | grind) (by unfold sEnt; first | rw [if_neg (by grind)] | (rw [if_pos (by grind)]; simp [up]))
  ·
    refine e_aload_n dX0_enter_7 rfl ?_
    refine e_getI kX0 (by first | assumption | exact ⟨by decide, rfl⟩) (by decide) fX0_37 rfl dX0_enter_8 ?_
    refine e_bipush (v := 40) dX0_enter_11 (by decide) ?_
    refine e_icmp_lt (tgt := 18) dX0_enter_13 (by decide) (fun h13 => ?_) (fun h13 => ?_)
    ·
      refine e_aload_n dX0_enter_18 rfl ?_
      refine e_getI kX0 (by first | assumption | exact ⟨by decide, rfl⟩) (by decide) fX0_37 rfl dX0_enter_19 ?_
      refine e_istore dX0_enter_22 (by decide) (Nat.le_of_ble_eq_true rfl) ?_
      refine e_aload_n dX0_enter_24 rfl ?_
      refine e_getA kX0 (by first | assumption | exact ⟨by decide, rfl⟩) (by decide) fX0_9 rfl dX0_enter_25 ?_
      refine e_iload dX0_enter_28 rfl ?_
      refine e_iload_n dX0_enter_30 rfl ?_
      refine e_iast (ci := 0) (by first | assumption | exact ⟨by decide, rfl⟩) rfl (vin 40 (by decide) (by grind)) dX0_enter_31 ?_
      refine e_aload_n dX0_enter_32 rfl ?_
      refine e_getA kX0 (by first | assumption | exact ⟨by decide, rfl⟩) (by decide) fX0_15 rfl dX0_enter_33 ?_
      refine e_iload dX0_enter_36 rfl ?_
      refine e_iload_n dX0_enter_38 rfl ?_
      refine e_iast (ci := 0) (by first | assumption | exact ⟨by decide, rfl⟩) rfl (vin 40 (by decide) (by grind)) dX0_enter_39 ?_
      refine e_aload_n dX0_enter_40 rfl ?_
      refine e_getA kX0 (by first | assumption | exact ⟨by decide, rfl⟩) (by decide) fX0_18 rfl dX0_enter_41 ?_
      refine e_iload dX0_enter_44 rfl ?_
      refine e_iload_n dX0_enter_46 rfl ?_
      refine e_iast (ci := 0) (by first | assumption | exact ⟨by decide, rfl⟩) rfl (vin 40 (by decide) (by grind)) dX0_enter_47 ?_
      refine e_aload_n dX0_enter_48 rfl ?_
      refine e_getA kX0 (by first | assumption | exact ⟨by decide, rfl⟩) (by decide) fX0_21 rfl dX0_enter_49 ?_
      refine e_iload dX0_enter_52 rfl ?_
      refine e_iload dX0_enter_54 rfl ?_
      refine e_iast (ci := 0) (by first | assumption | exact ⟨by decide, rfl⟩) rfl (vin 40 (by decide) (by grind)) dX0_enter_56 ?_
      refine e_aload_n dX0_enter_57 rfl ?_
      refine e_getA kX0 (by first | assumption | exact ⟨by decide, rfl⟩) (by decide) fX0_24 rfl dX0_enter_58 ?_
      refine e_iload dX0_enter_61 rfl ?_
      refine e_iconst (v := 0) dX0_enter_63 (by decide) ?_
      refine e_iast (ci := 0) (by first | assumption | exact ⟨by decide, rfl⟩) rfl (vin 40 (by decide) (by grind)) dX0_enter_64 ?_
      refine e_aload_n dX0_enter_65 rfl ?_
      refine e_getA kX0 (by first | assumption | exact ⟨by decide, rfl⟩) (by decide) fX0_27 rfl dX0_enter_66 ?_
      refine e_iload dX0_enter_69 rfl ?_
      refine e_iload dX0_enter_71 rfl ?_
      refine e_iload dX0_enter_73 rfl ?_
      refine e_iadd dX0_enter_75 ?_
      refine e_iast (ci := 0) (by first | assumption | exact ⟨by decide, rfl⟩) rfl (vin 40 (by decide) (by grind)) dX0_enter_76 ?_
      refine e_aload_n dX0_enter_77 rfl ?_
      refine e_getA kX0 (by first | assumption | exact ⟨by decide, rfl⟩) (by decide) fX0_30 rfl dX0_enter_78 ?_
      refine e_iload dX0_enter_81 rfl ?_
      refine e_iconst (v := 0) dX0_enter_83 (by decide) ?_
      refine e_zast (ci := 0) (by first | assumption | exact ⟨by decide, rfl⟩) rfl (vin 40 (by decide) (by grind)) (by first | exact bI_or | simp) dX0_enter_84 ?_
      refine e_aload_n dX0_enter_85 rfl ?_
      refine e_getA kX0 (by first | assumption | exact ⟨by decide, rfl⟩) (by decide) fX0_34 rfl dX0_enter_86 ?_
      refine e_iload dX0_enter_89 rfl ?_
      refine e_iconst (v := 0) dX0_enter_91 (by decide) ?_
      refine e_zast (ci := 0) (by first | assumption | exact ⟨by decide, rfl⟩) rfl (vin 40 (by decide) (by grind)) (by first | exact bI_or | simp) dX0_enter_92 ?_
      refine e_aload_n dX0_enter_93 rfl ?_
      refine e_dup dX0_enter_94 ?_
      refine e_getI kX0 (by first | assumption | exact ⟨by decide, rfl⟩) (by decide) fX0_37 rfl dX0_enter_95 ?_
      refine e_iconst (v := 1) dX0_enter_98 (by decide) ?_
      refine e_iadd dX0_enter_99 ?_
      refine e_putI kX0 (by first | assumption | exact ⟨by decide, rfl⟩) (by decide) fX0_37 rfl rfl rfl dX0_enter_100 ?_
      refine e_iload dX0_enter_103 rfl ?_
      exact e_ireq rfl rfl dX0_enter_105 (by first | rfl | grind) (by unfold sEnt; first | rw [if_neg (by grind)] | (rw [if_pos (by grind)]; simp [up]))
    ·
      refine e_iconst (v := -1) dX0_enter_16 (by decide) ?_
      exact e_ireq rfl rfl dX0_enter_17 (by first | rfl | grind) (by unfold sEnt; first | rw [if_neg (by grind)] | (rw [if_pos (by grind)]; simp [up]))
theorem c_X0_sayerOf {d : Nat} {c : Int32} {σ : rS} (h0 : isO d 0) : Ct mX0_sayerOf [.inr (d, 0), .inl c] σ (some (.inl (gC σ d 0 c (-1)))) (σ) := by
  refine C_of_E rfl rfl (Nat.le_of_ble_eq_true rfl) ?_
  refine e_aload_n dX0_sayerOf_0 rfl ?_
  refine e_iload_n dX0_sayerOf_1 rfl ?_
  refine e_V1 oX0_has lX0_41 ⟨Nat.le_of_ble_eq_true rfl, Nat.le_of_ble_eq_true rfl⟩ dX0_sayerOf_2 (by first | assumption | exact ⟨by decide, rfl⟩) (Nat.le_of_ble_eq_true rfl) (c_X0_has (by first | assumption | exact ⟨by decide, rfl⟩)) ?_
  refine e_if_eqB (tgt := 17) dX0_sayerOf_5 (by decide) (fun h5 => ?_) (fun h5 => ?_)
  ·
    refine e_iconst (v := -1) dX0_sayerOf_17 (by decide) ?_
    exact e_ireq rfl rfl dX0_sayerOf_18 (by first | rfl | grind) rfl
  ·
    refine e_aload_n dX0_sayerOf_8 rfl ?_
    refine e_getA kX0 (by first | assumption | exact ⟨by decide, rfl⟩) (by decide) fX0_9 rfl dX0_sayerOf_9 ?_
    refine e_iload_n dX0_sayerOf_12 rfl ?_
    refine e_iald (ci := 0) (by first | assumption | exact ⟨by decide, rfl⟩) rfl (vin 40 (by decide) (by grind)) dX0_sayerOf_13 ?_
    refine e_goto (tgt := 18) dX0_sayerOf_14 (by decide) ?_
    exact e_ireq rfl rfl dX0_sayerOf_18 (by first | rfl | grind) rfl
theorem c_X0_hearerOf {d : Nat} {c : Int32} {σ : rS} (h0 : isO d 0) : Ct mX0_hearerOf [.inr (d, 0), .inl c] σ (some (.inl (gC σ d 1 c (-1)))) (σ) := by
  refine C_of_E rfl rfl (Nat.le_of_ble_eq_true rfl) ?_
  refine e_aload_n dX0_hearerOf_0 rfl ?_
  refine e_iload_n dX0_hearerOf_1 rfl ?_
  refine e_V1 oX0_has lX0_41 ⟨Nat.le_of_ble_eq_true rfl, Nat.le_of_ble_eq_true rfl⟩ dX0_hearerOf_2 (by first | assumption | exact ⟨by decide, rfl⟩) (Nat.le_of_ble_eq_true rfl) (c_X0_has (by first | assumption | exact ⟨by decide, rfl⟩)) ?_
  refine e_if_eqB (tgt := 17) dX0_hearerOf_5 (by decide) (fun h5 => ?_) (fun h5 => ?_)
  ·
    refine e_iconst (v := -1) dX0_hearerOf_17 (by decide) ?_
    exact e_ireq rfl rfl dX0_hearerOf_18 (by first | rfl | grind) rfl
  ·
    refine e_aload_n dX0_hearerOf_8 rfl ?_
    refine e_getA kX0 (by first | assumption | exact ⟨by decide, rfl⟩) (by decide) fX0_15 rfl dX0_hearerOf_9 ?_
    refine e_iload_n dX0_hearerOf_12 rfl ?_
    refine e_iald (ci := 0) (by first | assumption | exact ⟨by decide, rfl⟩) rfl (vin 40 (by decide) (by grind)) dX0_hearerOf_13 ?_
    refine e_goto (tgt := 18) dX0_hearerOf_14 (by decide) ?_
    exact e_ireq rfl rfl dX0_hearerOf_18 (by first | rfl | grind) rfl
theorem c_X0_placeIn {d : Nat} {c : Int32} {σ : rS} (h0 : isO d 0) : Ct mX0_placeIn [.inr (d, 0), .inl c] σ (some (.inl (gC σ d 2 c (-1)))) (σ) := by
  refine C_of_E rfl rfl (Nat.le_of_ble_eq_true rfl) ?_
  refine e_aload_n dX0_placeIn_0 rfl ?_
  refine e_iload_n dX0_placeIn_1 rfl ?_
  refine e_V1 oX0_has lX0_41 ⟨Nat.le_of_ble_eq_true rfl, Nat.le_of_ble_eq_true rfl⟩ dX0_placeIn_2 (by first | assumption | exact ⟨by decide, rfl⟩) (Nat.le_of_ble_eq_true rfl) (c_X0_has (by first | assumption | exact ⟨by decide, rfl⟩)) ?_
  refine e_if_eqB (tgt := 17) dX0_placeIn_5 (by decide) (fun h5 => ?_) (fun h5 => ?_)
  ·
    refine e_iconst (v := -1) dX0_placeIn_17 (by decide) ?_
    exact e_ireq rfl rfl dX0_placeIn_18 (by first | rfl | grind) rfl
  ·
    refine e_aload_n dX0_placeIn_8 rfl ?_
    refine e_getA kX0 (by first | assumption | exact ⟨by decide, rfl⟩) (by decide) fX0_18 rfl dX0_placeIn_9 ?_
    refine e_iload_n dX0_placeIn_12 rfl ?_
    refine e_iald (ci := 0) (by first | assumption | exact ⟨by decide, rfl⟩) rfl (vin 40 (by decide) (by grind)) dX0_placeIn_13 ?_
    refine e_goto (tgt := 18) dX0_placeIn_14 (by decide) ?_
    exact e_ireq rfl rfl dX0_placeIn_18 (by first | rfl | grind) rfl
theorem c_X0_dayOf {d : Nat} {c : Int32} {σ : rS} (h0 : isO d 0) : Ct mX0_dayOf [.inr (d, 0), .inl c] σ (some (.inl (gC σ d 3 c (-1)))) (σ) := by
  refine C_of_E rfl rfl (Nat.le_of_ble_eq_true rfl) ?_
  refine e_aload_n dX0_dayOf_0 rfl ?_
  refine e_iload_n dX0_dayOf_1 rfl ?_
  refine e_V1 oX0_has lX0_41 ⟨Nat.le_of_ble_eq_true rfl, Nat.le_of_ble_eq_true rfl⟩ dX0_dayOf_2 (by first | assumption | exact ⟨by decide, rfl⟩) (Nat.le_of_ble_eq_true rfl) (c_X0_has (by first | assumption | exact ⟨by decide, rfl⟩)) ?_
  refine e_if_eqB (tgt := 17) dX0_dayOf_5 (by decide) (fun h5 => ?_) (fun h5 => ?_)
  ·
    refine e_iconst (v := -1) dX0_dayOf_17 (by decide) ?_
    exact e_ireq rfl rfl dX0_dayOf_18 (by first | rfl | grind) rfl
  ·
    refine e_aload_n dX0_dayOf_8 rfl ?_
    refine e_getA kX0 (by first | assumption | exact ⟨by decide, rfl⟩) (by decide) fX0_21 rfl dX0_dayOf_9 ?_
    refine e_iload_n dX0_dayOf_12 rfl ?_
    refine e_iald (ci := 0) (by first | assumption | exact ⟨by decide, rfl⟩) rfl (vin 40 (by decide) (by grind)) dX0_dayOf_13 ?_
    refine e_goto (tgt := 18) dX0_dayOf_14 (by decide) ?_
    exact e_ireq rfl rfl dX0_dayOf_18 (by first | rfl | grind) rfl
theorem c_X0_standingOf {d : Nat} {c : Int32} {σ : rS} (h0 : isO d 0) : Ct mX0_standingOf [.inr (d, 0), .inl c] σ (some (.inl (gC σ d 4 c (-1)))) (σ) := by
  refine C_of_E rfl rfl (Nat.le_of_ble_eq_true rfl) ?_
  refine e_aload_n dX0_standingOf_0 rfl ?_
  refine e_iload_n dX0_standingOf_1 rfl ?_
  refine e_V1 oX0_has lX0_41 ⟨Nat.le_of_ble_eq_true rfl, Nat.le_of_ble_eq_true rfl⟩ dX0_standingOf_2 (by first | assumption | exact ⟨by decide, rfl⟩) (Nat.le_of_ble_eq_true rfl) (c_X0_has (by first | assumption | exact ⟨by decide, rfl⟩)) ?_
  refine e_if_eqB (tgt := 17) dX0_standingOf_5 (by decide) (fun h5 => ?_) (fun h5 => ?_)
  ·
    refine e_iconst (v := -1) dX0_standingOf_17 (by decide) ?_
    exact e_ireq rfl rfl dX0_standingOf_18 (by first | rfl | grind) rfl
  ·
    refine e_aload_n dX0_standingOf_8 rfl ?_
    refine e_getA kX0 (by first | assumption | exact ⟨by decide, rfl⟩) (by decide) fX0_24 rfl dX0_standingOf_9 ?_
    refine e_iload_n dX0_standingOf_12 rfl ?_
    refine e_iald (ci := 0) (by first | assumption | exact ⟨by decide, rfl⟩) rfl (vin 40 (by decide) (by grind)) dX0_standingOf_13 ?_
    refine e_goto (tgt := 18) dX0_standingOf_14 (by decide) ?_
    exact e_ireq rfl rfl dX0_standingOf_18 (by first | rfl | grind) rfl
theorem c_X0_isRunning {d : Nat} {c : Int32} {σ : rS} (h0 : isO d 0) : Ct mX0_isRunning [.inr (d, 0), .inl c] σ (some (.inl (bI (runB σ d c)))) (σ) := by
  refine C_of_E rfl rfl (Nat.le_of_ble_eq_true rfl) ?_
  refine e_aload_n dX0_isRunning_0 rfl ?_
  refine e_iload_n dX0_isRunning_1 rfl ?_
  refine e_V1 oX0_standingOf lX0_74 ⟨Nat.le_of_ble_eq_true rfl, Nat.le_of_ble_eq_true rfl⟩ dX0_isRunning_2 (by first | assumption | exact ⟨by decide, rfl⟩) (Nat.le_of_ble_eq_true rfl) (c_X0_standingOf (by first | assumption | exact ⟨by decide, rfl⟩)) ?_
  refine e_istore_n dX0_isRunning_5 (by decide) (Nat.le_of_ble_eq_true rfl) ?_
  refine e_iload_n dX0_isRunning_6 rfl ?_
  refine e_if_eq (tgt := 15) dX0_isRunning_7 (by decide) (fun h7 => ?_) (fun h7 => ?_)
  ·
    refine e_iconst (v := 1) dX0_isRunning_15 (by decide) ?_
    refine e_goto (tgt := 20) dX0_isRunning_16 (by decide) ?_
    exact e_ret1 rfl dX0_isRunning_20 (by grind) rfl
  ·
    refine e_iload_n dX0_isRunning_10 rfl ?_
    refine e_iconst (v := 1) dX0_isRunning_11 (by decide) ?_
    refine e_icmp_ne (tgt := 19) dX0_isRunning_12 (by decide) (fun h12 => ?_) (fun h12 => ?_)
    ·
      refine e_iconst (v := 0) dX0_isRunning_19 (by decide) ?_
      exact e_ret0 rfl dX0_isRunning_20 (by grind) rfl
    ·
      refine e_iconst (v := 1) dX0_isRunning_15 (by decide) ?_
      refine e_goto (tgt := 20) dX0_isRunning_16 (by decide) ?_
      exact e_ret1 rfl dX0_isRunning_20 (by grind) rfl
theorem c_X0_lastDayOf {d : Nat} {c : Int32} {σ : rS} (h0 : isO d 0) : Ct mX0_lastDayOf [.inr (d, 0), .inl c] σ (some (.inl (if runB σ d c then σ d 5 c else -1))) (σ) := by
  refine C_of_E rfl rfl (Nat.le_of_ble_eq_true rfl) ?_
  refine e_aload_n dX0_lastDayOf_0 rfl ?_
  refine e_iload_n dX0_lastDayOf_1 rfl ?_
  refine e_V1 oX0_isRunning lX0_45 ⟨Nat.le_of_ble_eq_true rfl, Nat.le_of_ble_eq_true rfl⟩ dX0_lastDayOf_2 (by first | assumption | exact ⟨by decide, rfl⟩) (Nat.le_of_ble_eq_true rfl) (c_X0_isRunning (by first | assumption | exact ⟨by decide, rfl⟩)) ?_
  refine e_if_eqB (tgt := 17) dX0_lastDayOf_5 (by decide) (fun h5 => ?_) (fun h5 => ?_)
  ·
    refine e_iconst (v := -1) dX0_lastDayOf_17 (by decide) ?_
    exact e_ireq rfl rfl dX0_lastDayOf_18 (by first | rfl | grind) rfl
  ·
    refine e_aload_n dX0_lastDayOf_8 rfl ?_
    refine e_getA kX0 (by first | assumption | exact ⟨by decide, rfl⟩) (by decide) fX0_27 rfl dX0_lastDayOf_9 ?_
    refine e_iload_n dX0_lastDayOf_12 rfl ?_
    refine e_iald (ci := 0) (by first | assumption | exact ⟨by decide, rfl⟩) rfl (vin 40 (by decide) (by grind)) dX0_lastDayOf_13 ?_
    refine e_goto (tgt := 18) dX0_lastDayOf_14 (by decide) ?_
    exact e_ireq rfl rfl dX0_lastDayOf_18 (by first | rfl | grind) rfl
/-- whether one of c challenges from j on is open with this man -/
def enF (σ : rS) (d : Nat) (man : Int32) : Nat → Nat → Bool
  | 0, _ => false
  | c + 1, j => decide (runB σ d (nI j) ∧ (σ d 0 (nI j) = man ∨ σ d 1 (nI j) = man)) || enF σ d man c (j + 1)
theorem c_X0_engages {d n : Nat} {man : Int32} {σ : rS} (h0 : isO d 0) (hs : σ d 8 0 = nI n) (hn : n ≤ 40) : Ct mX0_engages [.inr (d, 0), .inl man] σ (some (.inl (bI (enF σ d man n 0 = true)))) (σ) := by
  refine C_of_E rfl rfl (Nat.le_of_ble_eq_true rfl) ?_
  have loop : ∀ c j, j + c = n → E mX0_engages 2 [.inr (d, 0), .inl man, .inl (nI j)] [] σ (some (.inl (bI (enF σ d man c j = true)))) σ := by
    intro c
    induction c with
    | zero =>
      intro j hj
      have hjn : j = n := by omega
      subst hjn
      refine e_iload_n dX0_engages_2 rfl ?_
      refine e_aload_n dX0_engages_3 rfl ?_
      refine e_getI kX0 (by first | assumption | exact ⟨by decide, rfl⟩) (by decide) fX0_37 rfl dX0_engages_4 ?_
      refine e_icmp_ge (tgt := 46) dX0_engages_7 (by decide) (fun h7 => ?_) (fun h7 => ?_)
      rotate_left
      · exfalso
        grind
      refine e_iconst (v := 0) dX0_engages_46 (by decide) ?_
      exact e_ret0 rfl dX0_engages_47 (by simp [enF]) rfl
    | succ c ih =>
      intro j hj
      obtain ⟨f1, f2, f3, f4⟩ := nI_facts (j := j) 40 (by omega) hn (by decide) rfl
      have e1 : enF σ d man (c + 1) j = (decide (runB σ d (nI j) ∧ (σ d 0 (nI j) = man ∨ σ d 1 (nI j) = man)) || enF σ d man c (j + 1)) := rfl
      refine e_iload_n dX0_engages_2 rfl ?_
      refine e_aload_n dX0_engages_3 rfl ?_
      refine e_getI kX0 (by first | assumption | exact ⟨by decide, rfl⟩) (by decide) fX0_37 rfl dX0_engages_4 ?_
      refine e_icmp_ge (tgt := 46) dX0_engages_7 (by decide) (fun h7 => ?_) (fun h7 => ?_)
      · exfalso
        grind
      refine e_aload_n dX0_engages_10 rfl ?_
      refine e_iload_n dX0_engages_11 rfl ?_
      refine e_V1 oX0_isRunning lX0_45 ⟨Nat.le_of_ble_eq_true rfl, Nat.le_of_ble_eq_true rfl⟩ dX0_engages_12 (by first | assumption | exact ⟨by decide, rfl⟩) (Nat.le_of_ble_eq_true rfl) (c_X0_isRunning (by first | assumption | exact ⟨by decide, rfl⟩)) ?_
      refine e_if_eqB (tgt := 40) dX0_engages_15 (by decide) (fun h15 => ?_) (fun h15 => ?_)
      ·
        refine e_inc (1) (by decide) dX0_engages_40 rfl (by decide) (Nat.le_of_ble_eq_true rfl) ?_
        refine e_goto (tgt := 2) dX0_engages_43 (by decide) ?_
        rw [e1, decide_eq_false (by grind), Bool.false_or]
        exact e_to (ih (j + 1) (by omega)) (by first | rfl | (simp [lset]; done) | (simp [lset]; grind)) rfl
      ·
        refine e_aload_n dX0_engages_18 rfl ?_
        refine e_getA kX0 (by first | assumption | exact ⟨by decide, rfl⟩) (by decide) fX0_9 rfl dX0_engages_19 ?_
        refine e_iload_n dX0_engages_22 rfl ?_
        refine e_iald (ci := 0) (by first | assumption | exact ⟨by decide, rfl⟩) rfl (vin 40 (by decide) (by grind)) dX0_engages_23 ?_
        refine e_iload_n dX0_engages_24 rfl ?_
        refine e_icmp_eq (tgt := 38) dX0_engages_25 (by decide) (fun h25 => ?_) (fun h25 => ?_)
        ·
          refine e_iconst (v := 1) dX0_engages_38 (by decide) ?_
          exact e_ret1 rfl dX0_engages_39 (by rw [e1, decide_eq_true (by grind)]; rfl) rfl
        ·
          refine e_aload_n dX0_engages_28 rfl ?_
          refine e_getA kX0 (by first | assumption | exact ⟨by decide, rfl⟩) (by decide) fX0_15 rfl dX0_engages_29 ?_
          refine e_iload_n dX0_engages_32 rfl ?_
          refine e_iald (ci := 0) (by first | assumption | exact ⟨by decide, rfl⟩) rfl (vin 40 (by decide) (by grind)) dX0_engages_33 ?_
          refine e_iload_n dX0_engages_34 rfl ?_
          refine e_icmp_ne (tgt := 40) dX0_engages_35 (by decide) (fun h35 => ?_) (fun h35 => ?_)
          ·
            refine e_inc (1) (by decide) dX0_engages_40 rfl (by decide) (Nat.le_of_ble_eq_true rfl) ?_
            refine e_goto (tgt := 2) dX0_engages_43 (by decide) ?_
            rw [e1, decide_eq_false (by grind), Bool.false_or]
            exact e_to (ih (j + 1) (by omega)) (by first | rfl | (simp [lset]; done) | (simp [lset]; grind)) rfl
          ·
            refine e_iconst (v := 1) dX0_engages_38 (by decide) ?_
            exact e_ret1 rfl dX0_engages_39 (by rw [e1, decide_eq_true (by grind)]; rfl) rfl
  refine e_iconst (v := 0) dX0_engages_0 (by decide) ?_
  refine e_istore_n dX0_engages_1 (by decide) (Nat.le_of_ble_eq_true rfl) ?_
  exact e_to (loop n 0 (by omega)) (by first | rfl | (simp [lset]; done) | (simp [lset]; grind)) rfl
def sTake (σ : rS) (d o : Nat) (c : Int32) : rS := if hasC σ d c then sLay (sFree (up σ d 4 c 2) o (σ d 0 c)) o (σ d 1 c) (σ d 2 c) else σ
theorem c_X0_take {d o : Nat} {c : Int32} {σ : rS} (h0 : isO d 0) (h1 : isO o 2) : Ct mX0_take [.inr (d, 0), .inl c, .inr (o, 0)] σ none (sTake σ d o c) := by
  refine C_of_E rfl rfl (Nat.le_of_ble_eq_true rfl) ?_
  refine e_aload_n dX0_take_0 rfl ?_
  refine e_iload_n dX0_take_1 rfl ?_
  refine e_V1 oX0_has lX0_41 ⟨Nat.le_of_ble_eq_true rfl, Nat.le_of_ble_eq_true rfl⟩ dX0_take_2 (by first | assumption | exact ⟨by decide, rfl⟩) (Nat.le_of_ble_eq_true rfl) (c_X0_has (by first | assumption | exact ⟨by decide, rfl⟩)) ?_
  refine e_if_eqB (tgt := 37) dX0_take_5 (by decide) (fun h5 => ?_) (fun h5 => ?_)
  ·
    exact e_vreq rfl dX0_take_37 (by unfold sTake; first | rw [if_neg (by grind)] | (rw [if_pos (by grind)]; simp [up]))
  ·
    refine e_aload_n dX0_take_8 rfl ?_
    refine e_getA kX0 (by first | assumption | exact ⟨by decide, rfl⟩) (by decide) fX0_24 rfl dX0_take_9 ?_
    refine e_iload_n dX0_take_12 rfl ?_
    refine e_iconst (v := 2) dX0_take_13 (by decide) ?_
    refine e_iast (ci := 0) (by first | assumption | exact ⟨by decide, rfl⟩) rfl (vin 40 (by decide) (by grind)) dX0_take_14 ?_
    refine e_aload_n dX0_take_15 rfl ?_
    refine e_aload_n dX0_take_16 rfl ?_
    refine e_getA kX0 (by first | assumption | exact ⟨by decide, rfl⟩) (by decide) fX0_18 rfl dX0_take_17 ?_
    refine e_iload_n dX0_take_20 rfl ?_
    refine e_iald (ci := 0) (by first | assumption | exact ⟨by decide, rfl⟩) rfl (vin 40 (by decide) (by grind)) dX0_take_21 ?_
    refine e_aload_n dX0_take_22 rfl ?_
    refine e_getA kX0 (by first | assumption | exact ⟨by decide, rfl⟩) (by decide) fX0_9 rfl dX0_take_23 ?_
    refine e_iload_n dX0_take_26 rfl ?_
    refine e_iald (ci := 0) (by first | assumption | exact ⟨by decide, rfl⟩) rfl (vin 40 (by decide) (by grind)) dX0_take_27 ?_
    refine e_aload_n dX0_take_28 rfl ?_
    refine e_getA kX0 (by first | assumption | exact ⟨by decide, rfl⟩) (by decide) fX0_15 rfl dX0_take_29 ?_
    refine e_iload_n dX0_take_32 rfl ?_
    refine e_iald (ci := 0) (by first | assumption | exact ⟨by decide, rfl⟩) rfl (vin 40 (by decide) (by grind)) dX0_take_33 ?_
    refine e_V3v oX2_handOver lX0_48 ⟨Nat.le_of_ble_eq_true rfl, Nat.le_of_ble_eq_true rfl⟩ dX0_take_34 (by first | assumption | exact ⟨by decide, rfl⟩) (Nat.le_of_ble_eq_true rfl) (c_X2_handOver (by first | assumption | exact ⟨by decide, rfl⟩)) ?_
    exact e_vreq rfl dX0_take_37 (by unfold sTake; first | rw [if_neg (by grind)] | (rw [if_pos (by grind)]; simp [up]))
def sChg (σ : rS) (d : Nat) (c l : Int32) : rS := if hasC σ d c then up (up σ d 4 c 1) d 5 c l else σ
theorem c_X0_change {d : Nat} {c l : Int32} {σ : rS} (h0 : isO d 0) : Ct mX0_change [.inr (d, 0), .inl c, .inl l] σ none (sChg σ d c l) := by
  refine C_of_E rfl rfl (Nat.le_of_ble_eq_true rfl) ?_
  refine e_aload_n dX0_change_0 rfl ?_
  refine e_iload_n dX0_change_1 rfl ?_
  refine e_V1 oX0_has lX0_41 ⟨Nat.le_of_ble_eq_true rfl, Nat.le_of_ble_eq_true rfl⟩ dX0_change_2 (by first | assumption | exact ⟨by decide, rfl⟩) (Nat.le_of_ble_eq_true rfl) (c_X0_has (by first | assumption | exact ⟨by decide, rfl⟩)) ?_
  refine e_if_eqB (tgt := 22) dX0_change_5 (by decide) (fun h5 => ?_) (fun h5 => ?_)
  ·
    exact e_vreq rfl dX0_change_22 (by unfold sChg; first | rw [if_neg (by grind)] | rw [if_pos (by grind)])
  ·
    refine e_aload_n dX0_change_8 rfl ?_
    refine e_getA kX0 (by first | assumption | exact ⟨by decide, rfl⟩) (by decide) fX0_24 rfl dX0_change_9 ?_
    refine e_iload_n dX0_change_12 rfl ?_
    refine e_iconst (v := 1) dX0_change_13 (by decide) ?_
    refine e_iast (ci := 0) (by first | assumption | exact ⟨by decide, rfl⟩) rfl (vin 40 (by decide) (by grind)) dX0_change_14 ?_
    refine e_aload_n dX0_change_15 rfl ?_
    refine e_getA kX0 (by first | assumption | exact ⟨by decide, rfl⟩) (by decide) fX0_27 rfl dX0_change_16 ?_
    refine e_iload_n dX0_change_19 rfl ?_
    refine e_iload_n dX0_change_20 rfl ?_
    refine e_iast (ci := 0) (by first | assumption | exact ⟨by decide, rfl⟩) rfl (vin 40 (by decide) (by grind)) dX0_change_21 ?_
    exact e_vreq rfl dX0_change_22 (by unfold sChg; first | rw [if_neg (by grind)] | rw [if_pos (by grind)])
theorem c_X0_hasSworn {d : Nat} {c b : Int32} {σ : rS} (h0 : isO d 0) : Ct mX0_hasSworn [.inr (d, 0), .inl c, .inl b] σ (some (.inl (bI (hasC σ d c ∧ ((¬ b = 0 ∧ ¬ σ d 6 c = 0) ∨ (b = 0 ∧ ¬ σ d 7 c = 0)))))) (σ) := by
  refine C_of_E rfl rfl (Nat.le_of_ble_eq_true rfl) ?_
  refine e_aload_n dX0_hasSworn_0 rfl ?_
  refine e_iload_n dX0_hasSworn_1 rfl ?_
  refine e_V1 oX0_has lX0_41 ⟨Nat.le_of_ble_eq_true rfl, Nat.le_of_ble_eq_true rfl⟩ dX0_hasSworn_2 (by first | assumption | exact ⟨by decide, rfl⟩) (Nat.le_of_ble_eq_true rfl) (c_X0_has (by first | assumption | exact ⟨by decide, rfl⟩)) ?_
  refine e_if_eqB (tgt := 37) dX0_hasSworn_5 (by decide) (fun h5 => ?_) (fun h5 => ?_)
  ·
    refine e_iconst (v := 0) dX0_hasSworn_37 (by decide) ?_
    exact e_ret0 rfl dX0_hasSworn_38 (by grind) rfl
  ·
    refine e_iload_n dX0_hasSworn_8 rfl ?_
    refine e_if_eq (tgt := 24) dX0_hasSworn_9 (by decide) (fun h9 => ?_) (fun h9 => ?_)
    ·
      refine e_aload_n dX0_hasSworn_24 rfl ?_
      refine e_getA kX0 (by first | assumption | exact ⟨by decide, rfl⟩) (by decide) fX0_34 rfl dX0_hasSworn_25 ?_
      refine e_iload_n dX0_hasSworn_28 rfl ?_
      refine e_zald (ci := 0) (by first | assumption | exact ⟨by decide, rfl⟩) rfl (vin 40 (by decide) (by grind)) dX0_hasSworn_29 ?_
      refine e_if_eq (tgt := 37) dX0_hasSworn_30 (by decide) (fun h30 => ?_) (fun h30 => ?_)
      ·
        refine e_iconst (v := 0) dX0_hasSworn_37 (by decide) ?_
        exact e_ret0 rfl dX0_hasSworn_38 (by grind) rfl
      ·
        refine e_iconst (v := 1) dX0_hasSworn_33 (by decide) ?_
        refine e_goto (tgt := 38) dX0_hasSworn_34 (by decide) ?_
        exact e_ret1 rfl dX0_hasSworn_38 (by grind) rfl
    ·
      refine e_aload_n dX0_hasSworn_12 rfl ?_
      refine e_getA kX0 (by first | assumption | exact ⟨by decide, rfl⟩) (by decide) fX0_30 rfl dX0_hasSworn_13 ?_
      refine e_iload_n dX0_hasSworn_16 rfl ?_
      refine e_zald (ci := 0) (by first | assumption | exact ⟨by decide, rfl⟩) rfl (vin 40 (by decide) (by grind)) dX0_hasSworn_17 ?_
      refine e_if_eq (tgt := 37) dX0_hasSworn_18 (by decide) (fun h18 => ?_) (fun h18 => ?_)
      ·
        refine e_iconst (v := 0) dX0_hasSworn_37 (by decide) ?_
        exact e_ret0 rfl dX0_hasSworn_38 (by grind) rfl
      ·
        refine e_goto (tgt := 33) dX0_hasSworn_21 (by decide) ?_
        refine e_iconst (v := 1) dX0_hasSworn_33 (by decide) ?_
        refine e_goto (tgt := 38) dX0_hasSworn_34 (by decide) ?_
        exact e_ret1 rfl dX0_hasSworn_38 (by grind) rfl
def sOath1 (σ : rS) (d : Nat) (c b : Int32) : rS := if b = 0 then up σ d 7 c 1 else up σ d 6 c 1
def sOath (σ : rS) (d o : Nat) (c b : Int32) : rS := if hasC σ d c then (if ¬ sOath1 σ d c b d 6 c = 0 ∧ ¬ sOath1 σ d c b d 7 c = 0 then sExch (up (sOath1 σ d c b) d 4 c 3) o (σ d 0 c) (σ d 1 c) else sOath1 σ d c b) else σ
theorem c_X0_hearOath {d o : Nat} {c b : Int32} {σ : rS} (h0 : isO d 0) (h1 : isO o 2) : Ct mX0_hearOath [.inr (d, 0), .inl c, .inl b, .inr (o, 0)] σ none (sOath σ d o c b) := by
  refine C_of_E rfl rfl (Nat.le_of_ble_eq_true rfl) ?_
  have hb1 : b = 0 → sOath1 σ d c b = up σ d 7 c 1 := fun h => if_pos h
  have hb2 : ¬ b = 0 → sOath1 σ d c b = up σ d 6 c 1 := fun h => if_neg h
  refine e_aload_n dX0_hearOath_0 rfl ?_
  refine e_iload_n dX0_hearOath_1 rfl ?_
  refine e_V1 oX0_has lX0_41 ⟨Nat.le_of_ble_eq_true rfl, Nat.le_of_ble_eq_true rfl⟩ dX0_hearOath_2 (by first | assumption | exact ⟨by decide, rfl⟩) (Nat.le_of_ble_eq_true rfl) (c_X0_has (by first | assumption | exact ⟨by decide, rfl⟩)) ?_
  refine e_if_neB (tgt := 9) dX0_hearOath_5 (by decide) (fun h5 => ?_) (fun h5 => ?_)
  ·
    refine e_iload_n dX0_hearOath_9 rfl ?_
    refine e_if_eq (tgt := 23) dX0_hearOath_10 (by decide) (fun h10 => ?_) (fun h10 => ?_)
    ·
      refine e_aload_n dX0_hearOath_23 rfl ?_
      refine e_getA kX0 (by first | assumption | exact ⟨by decide, rfl⟩) (by decide) fX0_34 rfl dX0_hearOath_24 ?_
      refine e_iload_n dX0_hearOath_27 rfl ?_
      refine e_iconst (v := 1) dX0_hearOath_28 (by decide) ?_
      refine e_zast (ci := 0) (by first | assumption | exact ⟨by decide, rfl⟩) rfl (vin 40 (by decide) (by grind)) (by first | exact bI_or | simp) dX0_hearOath_29 ?_
      refine e_aload_n dX0_hearOath_30 rfl ?_
      refine e_getA kX0 (by first | assumption | exact ⟨by decide, rfl⟩) (by decide) fX0_30 rfl dX0_hearOath_31 ?_
      refine e_iload_n dX0_hearOath_34 rfl ?_
      refine e_zald (ci := 0) (by first | assumption | exact ⟨by decide, rfl⟩) rfl (vin 40 (by decide) (by grind)) dX0_hearOath_35 ?_
      refine e_if_eq (tgt := 71) dX0_hearOath_36 (by decide) (fun h36 => ?_) (fun h36 => ?_)
      ·
        exact e_vreq rfl dX0_hearOath_71 (by unfold sOath; first | rw [if_neg (by assumption)] | (rw [if_pos (by assumption)]; (first | rw [hb1 (by assumption)] | rw [hb2 (by assumption)]); first | (rw [if_neg (by grind)]; done) | (rw [if_pos (by grind)]; simp [up])))
      ·
        refine e_aload_n dX0_hearOath_39 rfl ?_
        refine e_getA kX0 (by first | assumption | exact ⟨by decide, rfl⟩) (by decide) fX0_34 rfl dX0_hearOath_40 ?_
        refine e_iload_n dX0_hearOath_43 rfl ?_
        refine e_zald (ci := 0) (by first | assumption | exact ⟨by decide, rfl⟩) rfl (vin 40 (by decide) (by grind)) dX0_hearOath_44 ?_
        refine e_if_eq (tgt := 71) dX0_hearOath_45 (by decide) (fun h45 => ?_) (fun h45 => ?_)
        ·
          exact e_vreq rfl dX0_hearOath_71 (by unfold sOath; first | rw [if_neg (by assumption)] | (rw [if_pos (by assumption)]; (first | rw [hb1 (by assumption)] | rw [hb2 (by assumption)]); first | (rw [if_neg (by grind)]; done) | (rw [if_pos (by grind)]; simp [up])))
        ·
          refine e_aload_n dX0_hearOath_48 rfl ?_
          refine e_getA kX0 (by first | assumption | exact ⟨by decide, rfl⟩) (by decide) fX0_24 rfl dX0_hearOath_49 ?_
          refine e_iload_n dX0_hearOath_52 rfl ?_
          refine e_iconst (v := 3) dX0_hearOath_53 (by decide) ?_
          refine e_iast (ci := 0) (by first | assumption | exact ⟨by decide, rfl⟩) rfl (vin 40 (by decide) (by grind)) dX0_hearOath_54 ?_
          refine e_aload_n dX0_hearOath_55 rfl ?_
          refine e_aload_n dX0_hearOath_56 rfl ?_
          refine e_getA kX0 (by first | assumption | exact ⟨by decide, rfl⟩) (by decide) fX0_9 rfl dX0_hearOath_57 ?_
          refine e_iload_n dX0_hearOath_60 rfl ?_
          refine e_iald (ci := 0) (by first | assumption | exact ⟨by decide, rfl⟩) rfl (vin 40 (by decide) (by grind)) dX0_hearOath_61 ?_
          refine e_aload_n dX0_hearOath_62 rfl ?_
          refine e_getA kX0 (by first | assumption | exact ⟨by decide, rfl⟩) (by decide) fX0_15 rfl dX0_hearOath_63 ?_
          refine e_iload_n dX0_hearOath_66 rfl ?_
          refine e_iald (ci := 0) (by first | assumption | exact ⟨by decide, rfl⟩) rfl (vin 40 (by decide) (by grind)) dX0_hearOath_67 ?_
          refine e_V2v oX2_exchangeEstates lX0_54 ⟨Nat.le_of_ble_eq_true rfl, Nat.le_of_ble_eq_true rfl⟩ dX0_hearOath_68 (by first | assumption | exact ⟨by decide, rfl⟩) (Nat.le_of_ble_eq_true rfl) (c_X2_exchangeEstates (by first | assumption | exact ⟨by decide, rfl⟩)) ?_
          exact e_vreq rfl dX0_hearOath_71 (by unfold sOath; first | rw [if_neg (by assumption)] | (rw [if_pos (by assumption)]; (first | rw [hb1 (by assumption)] | rw [hb2 (by assumption)]); first | (rw [if_neg (by grind)]; done) | (rw [if_pos (by grind)]; simp [up])))
    ·
      refine e_aload_n dX0_hearOath_13 rfl ?_
      refine e_getA kX0 (by first | assumption | exact ⟨by decide, rfl⟩) (by decide) fX0_30 rfl dX0_hearOath_14 ?_
      refine e_iload_n dX0_hearOath_17 rfl ?_
      refine e_iconst (v := 1) dX0_hearOath_18 (by decide) ?_
      refine e_zast (ci := 0) (by first | assumption | exact ⟨by decide, rfl⟩) rfl (vin 40 (by decide) (by grind)) (by first | exact bI_or | simp) dX0_hearOath_19 ?_
      refine e_goto (tgt := 30) dX0_hearOath_20 (by decide) ?_
      refine e_aload_n dX0_hearOath_30 rfl ?_
      refine e_getA kX0 (by first | assumption | exact ⟨by decide, rfl⟩) (by decide) fX0_30 rfl dX0_hearOath_31 ?_
      refine e_iload_n dX0_hearOath_34 rfl ?_
      refine e_zald (ci := 0) (by first | assumption | exact ⟨by decide, rfl⟩) rfl (vin 40 (by decide) (by grind)) dX0_hearOath_35 ?_
      refine e_if_eq (tgt := 71) dX0_hearOath_36 (by decide) (fun h36 => ?_) (fun h36 => ?_)
      ·
        exact e_vreq rfl dX0_hearOath_71 (by unfold sOath; first | rw [if_neg (by assumption)] | (rw [if_pos (by assumption)]; (first | rw [hb1 (by assumption)] | rw [hb2 (by assumption)]); first | (rw [if_neg (by grind)]; done) | (rw [if_pos (by grind)]; simp [up])))
      ·
        refine e_aload_n dX0_hearOath_39 rfl ?_
        refine e_getA kX0 (by first | assumption | exact ⟨by decide, rfl⟩) (by decide) fX0_34 rfl dX0_hearOath_40 ?_
        refine e_iload_n dX0_hearOath_43 rfl ?_
        refine e_zald (ci := 0) (by first | assumption | exact ⟨by decide, rfl⟩) rfl (vin 40 (by decide) (by grind)) dX0_hearOath_44 ?_
        refine e_if_eq (tgt := 71) dX0_hearOath_45 (by decide) (fun h45 => ?_) (fun h45 => ?_)
        ·
          exact e_vreq rfl dX0_hearOath_71 (by unfold sOath; first | rw [if_neg (by assumption)] | (rw [if_pos (by assumption)]; (first | rw [hb1 (by assumption)] | rw [hb2 (by assumption)]); first | (rw [if_neg (by grind)]; done) | (rw [if_pos (by grind)]; simp [up])))
        ·
          refine e_aload_n dX0_hearOath_48 rfl ?_
          refine e_getA kX0 (by first | assumption | exact ⟨by decide, rfl⟩) (by decide) fX0_24 rfl dX0_hearOath_49 ?_
          refine e_iload_n dX0_hearOath_52 rfl ?_
          refine e_iconst (v := 3) dX0_hearOath_53 (by decide) ?_
          refine e_iast (ci := 0) (by first | assumption | exact ⟨by decide, rfl⟩) rfl (vin 40 (by decide) (by grind)) dX0_hearOath_54 ?_
          refine e_aload_n dX0_hearOath_55 rfl ?_
          refine e_aload_n dX0_hearOath_56 rfl ?_
          refine e_getA kX0 (by first | assumption | exact ⟨by decide, rfl⟩) (by decide) fX0_9 rfl dX0_hearOath_57 ?_
          refine e_iload_n dX0_hearOath_60 rfl ?_
          refine e_iald (ci := 0) (by first | assumption | exact ⟨by decide, rfl⟩) rfl (vin 40 (by decide) (by grind)) dX0_hearOath_61 ?_
          refine e_aload_n dX0_hearOath_62 rfl ?_
          refine e_getA kX0 (by first | assumption | exact ⟨by decide, rfl⟩) (by decide) fX0_15 rfl dX0_hearOath_63 ?_
          refine e_iload_n dX0_hearOath_66 rfl ?_
          refine e_iald (ci := 0) (by first | assumption | exact ⟨by decide, rfl⟩) rfl (vin 40 (by decide) (by grind)) dX0_hearOath_67 ?_
          refine e_V2v oX2_exchangeEstates lX0_54 ⟨Nat.le_of_ble_eq_true rfl, Nat.le_of_ble_eq_true rfl⟩ dX0_hearOath_68 (by first | assumption | exact ⟨by decide, rfl⟩) (Nat.le_of_ble_eq_true rfl) (c_X2_exchangeEstates (by first | assumption | exact ⟨by decide, rfl⟩)) ?_
          exact e_vreq rfl dX0_hearOath_71 (by unfold sOath; first | rw [if_neg (by assumption)] | (rw [if_pos (by assumption)]; (first | rw [hb1 (by assumption)] | rw [hb2 (by assumption)]); first | (rw [if_neg (by grind)]; done) | (rw [if_pos (by grind)]; simp [up])))
  ·
    exact e_vreq rfl dX0_hearOath_8 (by unfold sOath; first | rw [if_neg (by assumption)] | (rw [if_pos (by assumption)]; (first | rw [hb1 (by assumption)] | rw [hb2 (by assumption)]); first | (rw [if_neg (by grind)]; done) | (rw [if_pos (by grind)]; simp [up])))
abbrev verB (σ : rS) (d o : Nat) (c : Int32) : Prop := (σ d 4 c = 0 ∧ gM σ o 0 (σ d 0 c) 0 < gM σ o 0 (σ d 1 c) 0) ∨ (¬ σ d 4 c = 0 ∧ ¬ σ d 6 c = 0 ∧ σ d 7 c = 0)
def vV (σ : rS) (d o : Nat) (c : Int32) : Int32 := if hasC σ d c then (if verB σ d o c then 4 else 5) else -1
theorem c_X0_verdictOn {d o : Nat} {c : Int32} {σ : rS} (h0 : isO d 0) (h1 : isO o 2) : Ct mX0_verdictOn [.inr (d, 0), .inl c, .inr (o, 0)] σ (some (.inl (vV σ d o c))) (σ) := by
  refine C_of_E rfl rfl (Nat.le_of_ble_eq_true rfl) ?_
  refine e_aload_n dX0_verdictOn_0 rfl ?_
  refine e_iload_n dX0_verdictOn_1 rfl ?_
  refine e_V1 oX0_has lX0_41 ⟨Nat.le_of_ble_eq_true rfl, Nat.le_of_ble_eq_true rfl⟩ dX0_verdictOn_2 (by first | assumption | exact ⟨by decide, rfl⟩) (Nat.le_of_ble_eq_true rfl) (c_X0_has (by first | assumption | exact ⟨by decide, rfl⟩)) ?_
  refine e_if_neB (tgt := 10) dX0_verdictOn_5 (by decide) (fun h5 => ?_) (fun h5 => ?_)
  ·
    refine e_aload_n dX0_verdictOn_10 rfl ?_
    refine e_getA kX0 (by first | assumption | exact ⟨by decide, rfl⟩) (by decide) fX0_24 rfl dX0_verdictOn_11 ?_
    refine e_iload_n dX0_verdictOn_14 rfl ?_
    refine e_iald (ci := 0) (by first | assumption | exact ⟨by decide, rfl⟩) rfl (vin 40 (by decide) (by grind)) dX0_verdictOn_15 ?_
    refine e_if_ne (tgt := 51) dX0_verdictOn_16 (by decide) (fun h16 => ?_) (fun h16 => ?_)
    ·
      refine e_aload_n dX0_verdictOn_51 rfl ?_
      refine e_getA kX0 (by first | assumption | exact ⟨by decide, rfl⟩) (by decide) fX0_30 rfl dX0_verdictOn_52 ?_
      refine e_iload_n dX0_verdictOn_55 rfl ?_
      refine e_zald (ci := 0) (by first | assumption | exact ⟨by decide, rfl⟩) rfl (vin 40 (by decide) (by grind)) dX0_verdictOn_56 ?_
      refine e_if_eq (tgt := 73) dX0_verdictOn_57 (by decide) (fun h57 => ?_) (fun h57 => ?_)
      ·
        refine e_iconst (v := 0) dX0_verdictOn_73 (by decide) ?_
        refine e_istore_n dX0_verdictOn_74 (by decide) (Nat.le_of_ble_eq_true rfl) ?_
        refine e_iload_n dX0_verdictOn_75 rfl ?_
        refine e_if_eq (tgt := 83) dX0_verdictOn_76 (by decide) (fun h76 => ?_) (fun h76 => ?_)
        ·
          refine e_iconst (v := 5) dX0_verdictOn_83 (by decide) ?_
          exact e_ireq rfl rfl dX0_verdictOn_84 (by unfold vV verB; grind) rfl
        ·
          refine e_iconst (v := 4) dX0_verdictOn_79 (by decide) ?_
          refine e_goto (tgt := 84) dX0_verdictOn_80 (by decide) ?_
          exact e_ireq rfl rfl dX0_verdictOn_84 (by unfold vV verB; grind) rfl
      ·
        refine e_aload_n dX0_verdictOn_60 rfl ?_
        refine e_getA kX0 (by first | assumption | exact ⟨by decide, rfl⟩) (by decide) fX0_34 rfl dX0_verdictOn_61 ?_
        refine e_iload_n dX0_verdictOn_64 rfl ?_
        refine e_zald (ci := 0) (by first | assumption | exact ⟨by decide, rfl⟩) rfl (vin 40 (by decide) (by grind)) dX0_verdictOn_65 ?_
        refine e_if_ne (tgt := 73) dX0_verdictOn_66 (by decide) (fun h66 => ?_) (fun h66 => ?_)
        ·
          refine e_iconst (v := 0) dX0_verdictOn_73 (by decide) ?_
          refine e_istore_n dX0_verdictOn_74 (by decide) (Nat.le_of_ble_eq_true rfl) ?_
          refine e_iload_n dX0_verdictOn_75 rfl ?_
          refine e_if_eq (tgt := 83) dX0_verdictOn_76 (by decide) (fun h76 => ?_) (fun h76 => ?_)
          ·
            refine e_iconst (v := 5) dX0_verdictOn_83 (by decide) ?_
            exact e_ireq rfl rfl dX0_verdictOn_84 (by unfold vV verB; grind) rfl
          ·
            refine e_iconst (v := 4) dX0_verdictOn_79 (by decide) ?_
            refine e_goto (tgt := 84) dX0_verdictOn_80 (by decide) ?_
            exact e_ireq rfl rfl dX0_verdictOn_84 (by unfold vV verB; grind) rfl
        ·
          refine e_iconst (v := 1) dX0_verdictOn_69 (by decide) ?_
          refine e_goto (tgt := 74) dX0_verdictOn_70 (by decide) ?_
          refine e_istore_n dX0_verdictOn_74 (by decide) (Nat.le_of_ble_eq_true rfl) ?_
          refine e_iload_n dX0_verdictOn_75 rfl ?_
          refine e_if_eq (tgt := 83) dX0_verdictOn_76 (by decide) (fun h76 => ?_) (fun h76 => ?_)
          ·
            refine e_iconst (v := 5) dX0_verdictOn_83 (by decide) ?_
            exact e_ireq rfl rfl dX0_verdictOn_84 (by unfold vV verB; grind) rfl
          ·
            refine e_iconst (v := 4) dX0_verdictOn_79 (by decide) ?_
            refine e_goto (tgt := 84) dX0_verdictOn_80 (by decide) ?_
            exact e_ireq rfl rfl dX0_verdictOn_84 (by unfold vV verB; grind) rfl
    ·
      refine e_aload_n dX0_verdictOn_19 rfl ?_
      refine e_aload_n dX0_verdictOn_20 rfl ?_
      refine e_getA kX0 (by first | assumption | exact ⟨by decide, rfl⟩) (by decide) fX0_15 rfl dX0_verdictOn_21 ?_
      refine e_iload_n dX0_verdictOn_24 rfl ?_
      refine e_iald (ci := 0) (by first | assumption | exact ⟨by decide, rfl⟩) rfl (vin 40 (by decide) (by grind)) dX0_verdictOn_25 ?_
      refine e_V1 oX2_declaredOf lX0_70 ⟨Nat.le_of_ble_eq_true rfl, Nat.le_of_ble_eq_true rfl⟩ dX0_verdictOn_26 (by first | assumption | exact ⟨by decide, rfl⟩) (Nat.le_of_ble_eq_true rfl) (c_X2_declaredOf (by first | assumption | exact ⟨by decide, rfl⟩)) ?_
      refine e_aload_n dX0_verdictOn_29 rfl ?_
      refine e_aload_n dX0_verdictOn_30 rfl ?_
      refine e_getA kX0 (by first | assumption | exact ⟨by decide, rfl⟩) (by decide) fX0_9 rfl dX0_verdictOn_31 ?_
      refine e_iload_n dX0_verdictOn_34 rfl ?_
      refine e_iald (ci := 0) (by first | assumption | exact ⟨by decide, rfl⟩) rfl (vin 40 (by decide) (by grind)) dX0_verdictOn_35 ?_
      refine e_V1 oX2_declaredOf lX0_70 ⟨Nat.le_of_ble_eq_true rfl, Nat.le_of_ble_eq_true rfl⟩ dX0_verdictOn_36 (by first | assumption | exact ⟨by decide, rfl⟩) (Nat.le_of_ble_eq_true rfl) (c_X2_declaredOf (by first | assumption | exact ⟨by decide, rfl⟩)) ?_
      refine e_icmp_le (tgt := 46) dX0_verdictOn_39 (by decide) (fun h39 => ?_) (fun h39 => ?_)
      ·
        refine e_iconst (v := 0) dX0_verdictOn_46 (by decide) ?_
        refine e_istore_n dX0_verdictOn_47 (by decide) (Nat.le_of_ble_eq_true rfl) ?_
        refine e_goto (tgt := 75) dX0_verdictOn_48 (by decide) ?_
        refine e_iload_n dX0_verdictOn_75 rfl ?_
        refine e_if_eq (tgt := 83) dX0_verdictOn_76 (by decide) (fun h76 => ?_) (fun h76 => ?_)
        ·
          refine e_iconst (v := 5) dX0_verdictOn_83 (by decide) ?_
          exact e_ireq rfl rfl dX0_verdictOn_84 (by unfold vV verB; grind) rfl
        ·
          refine e_iconst (v := 4) dX0_verdictOn_79 (by decide) ?_
          refine e_goto (tgt := 84) dX0_verdictOn_80 (by decide) ?_
          exact e_ireq rfl rfl dX0_verdictOn_84 (by unfold vV verB; grind) rfl
      ·
        refine e_iconst (v := 1) dX0_verdictOn_42 (by decide) ?_
        refine e_goto (tgt := 47) dX0_verdictOn_43 (by decide) ?_
        refine e_istore_n dX0_verdictOn_47 (by decide) (Nat.le_of_ble_eq_true rfl) ?_
        refine e_goto (tgt := 75) dX0_verdictOn_48 (by decide) ?_
        refine e_iload_n dX0_verdictOn_75 rfl ?_
        refine e_if_eq (tgt := 83) dX0_verdictOn_76 (by decide) (fun h76 => ?_) (fun h76 => ?_)
        ·
          refine e_iconst (v := 5) dX0_verdictOn_83 (by decide) ?_
          exact e_ireq rfl rfl dX0_verdictOn_84 (by unfold vV verB; grind) rfl
        ·
          refine e_iconst (v := 4) dX0_verdictOn_79 (by decide) ?_
          refine e_goto (tgt := 84) dX0_verdictOn_80 (by decide) ?_
          exact e_ireq rfl rfl dX0_verdictOn_84 (by unfold vV verB; grind) rfl
  ·
    refine e_iconst (v := -1) dX0_verdictOn_8 (by decide) ?_
    exact e_ireq rfl rfl dX0_verdictOn_9 (by unfold vV verB; grind) rfl
def sCar (σ : rS) (d o : Nat) (c v : Int32) : rS := if hasC σ d c ∧ v = 4 then sLay (sFree σ o (σ d 0 c)) o (σ d 1 c) (σ d 2 c) else σ
theorem c_X0_carryOut {d o : Nat} {c v : Int32} {σ : rS} (h0 : isO d 0) (h1 : isO o 2) : Ct mX0_carryOut [.inr (d, 0), .inl c, .inl v, .inr (o, 0)] σ none (sCar σ d o c v) := by
  refine C_of_E rfl rfl (Nat.le_of_ble_eq_true rfl) ?_
  refine e_aload_n dX0_carryOut_0 rfl ?_
  refine e_iload_n dX0_carryOut_1 rfl ?_
  refine e_V1 oX0_has lX0_41 ⟨Nat.le_of_ble_eq_true rfl, Nat.le_of_ble_eq_true rfl⟩ dX0_carryOut_2 (by first | assumption | exact ⟨by decide, rfl⟩) (Nat.le_of_ble_eq_true rfl) (c_X0_has (by first | assumption | exact ⟨by decide, rfl⟩)) ?_
  refine e_if_eqB (tgt := 35) dX0_carryOut_5 (by decide) (fun h5 => ?_) (fun h5 => ?_)
  ·
    exact e_vreq rfl dX0_carryOut_35 (by unfold sCar; first | rw [if_neg (by grind)] | rw [if_pos (by grind)])
  ·
    refine e_iload_n dX0_carryOut_8 rfl ?_
    refine e_iconst (v := 4) dX0_carryOut_9 (by decide) ?_
    refine e_icmp_ne (tgt := 35) dX0_carryOut_10 (by decide) (fun h10 => ?_) (fun h10 => ?_)
    ·
      exact e_vreq rfl dX0_carryOut_35 (by unfold sCar; first | rw [if_neg (by grind)] | rw [if_pos (by grind)])
    ·
      refine e_aload_n dX0_carryOut_13 rfl ?_
      refine e_aload_n dX0_carryOut_14 rfl ?_
      refine e_getA kX0 (by first | assumption | exact ⟨by decide, rfl⟩) (by decide) fX0_18 rfl dX0_carryOut_15 ?_
      refine e_iload_n dX0_carryOut_18 rfl ?_
      refine e_iald (ci := 0) (by first | assumption | exact ⟨by decide, rfl⟩) rfl (vin 40 (by decide) (by grind)) dX0_carryOut_19 ?_
      refine e_aload_n dX0_carryOut_20 rfl ?_
      refine e_getA kX0 (by first | assumption | exact ⟨by decide, rfl⟩) (by decide) fX0_9 rfl dX0_carryOut_21 ?_
      refine e_iload_n dX0_carryOut_24 rfl ?_
      refine e_iald (ci := 0) (by first | assumption | exact ⟨by decide, rfl⟩) rfl (vin 40 (by decide) (by grind)) dX0_carryOut_25 ?_
      refine e_aload_n dX0_carryOut_26 rfl ?_
      refine e_getA kX0 (by first | assumption | exact ⟨by decide, rfl⟩) (by decide) fX0_15 rfl dX0_carryOut_27 ?_
      refine e_iload_n dX0_carryOut_30 rfl ?_
      refine e_iald (ci := 0) (by first | assumption | exact ⟨by decide, rfl⟩) rfl (vin 40 (by decide) (by grind)) dX0_carryOut_31 ?_
      refine e_V3v oX2_handOver lX0_48 ⟨Nat.le_of_ble_eq_true rfl, Nat.le_of_ble_eq_true rfl⟩ dX0_carryOut_32 (by first | assumption | exact ⟨by decide, rfl⟩) (Nat.le_of_ble_eq_true rfl) (c_X2_handOver (by first | assumption | exact ⟨by decide, rfl⟩)) ?_
      exact e_vreq rfl dX0_carryOut_35 (by unfold sCar; first | rw [if_neg (by grind)] | rw [if_pos (by grind)])
def sJud (σ : rS) (d o : Nat) (c : Int32) : rS := if hasC σ d c then sCar (up σ d 4 c (vV σ d o c)) d o c (vV σ d o c) else σ
theorem c_X0_judge {d o : Nat} {c : Int32} {σ : rS} (h0 : isO d 0) (h1 : isO o 2) : Ct mX0_judge [.inr (d, 0), .inl c, .inr (o, 0)] σ none (sJud σ d o c) := by
  refine C_of_E rfl rfl (Nat.le_of_ble_eq_true rfl) ?_
  refine e_aload_n dX0_judge_0 rfl ?_
  refine e_iload_n dX0_judge_1 rfl ?_
  refine e_V1 oX0_has lX0_41 ⟨Nat.le_of_ble_eq_true rfl, Nat.le_of_ble_eq_true rfl⟩ dX0_judge_2 (by first | assumption | exact ⟨by decide, rfl⟩) (Nat.le_of_ble_eq_true rfl) (c_X0_has (by first | assumption | exact ⟨by decide, rfl⟩)) ?_
  refine e_if_eqB (tgt := 32) dX0_judge_5 (by decide) (fun h5 => ?_) (fun h5 => ?_)
  ·
    exact e_vreq rfl dX0_judge_32 (by unfold sJud; first | rw [if_neg (by assumption)] | (rw [if_pos (by assumption)]; simp [up]))
  ·
    refine e_aload_n dX0_judge_8 rfl ?_
    refine e_getA kX0 (by first | assumption | exact ⟨by decide, rfl⟩) (by decide) fX0_24 rfl dX0_judge_9 ?_
    refine e_iload_n dX0_judge_12 rfl ?_
    refine e_aload_n dX0_judge_13 rfl ?_
    refine e_iload_n dX0_judge_14 rfl ?_
    refine e_aload_n dX0_judge_15 rfl ?_
    refine e_V2 oX0_verdictOn lX0_62 ⟨Nat.le_of_ble_eq_true rfl, Nat.le_of_ble_eq_true rfl⟩ dX0_judge_16 (by first | assumption | exact ⟨by decide, rfl⟩) (Nat.le_of_ble_eq_true rfl) (c_X0_verdictOn (by first | assumption | exact ⟨by decide, rfl⟩) (by first | assumption | exact ⟨by decide, rfl⟩)) ?_
    refine e_iast (ci := 0) (by first | assumption | exact ⟨by decide, rfl⟩) rfl (vin 40 (by decide) (by grind)) dX0_judge_19 ?_
    refine e_aload_n dX0_judge_20 rfl ?_
    refine e_iload_n dX0_judge_21 rfl ?_
    refine e_aload_n dX0_judge_22 rfl ?_
    refine e_getA kX0 (by first | assumption | exact ⟨by decide, rfl⟩) (by decide) fX0_24 rfl dX0_judge_23 ?_
    refine e_iload_n dX0_judge_26 rfl ?_
    refine e_iald (ci := 0) (by first | assumption | exact ⟨by decide, rfl⟩) rfl (vin 40 (by decide) (by grind)) dX0_judge_27 ?_
    refine e_aload_n dX0_judge_28 rfl ?_
    refine e_V3v oX0_carryOut lX0_66 ⟨Nat.le_of_ble_eq_true rfl, Nat.le_of_ble_eq_true rfl⟩ dX0_judge_29 (by first | assumption | exact ⟨by decide, rfl⟩) (Nat.le_of_ble_eq_true rfl) (c_X0_carryOut (by first | assumption | exact ⟨by decide, rfl⟩) (by first | assumption | exact ⟨by decide, rfl⟩)) ?_
    exact e_vreq rfl dX0_judge_32 (by unfold sJud; first | rw [if_neg (by assumption)] | (rw [if_pos (by assumption)]; simp [up]))
theorem sFree_fr {σ : rS} {o o' k' : Nat} {a i' : Int32} (h : ¬ (o' = o ∧ k' = 4)) : sFree σ o a o' k' i' = σ o' k' i' := by
  unfold sFree
  split
  · simp only [up]; grind
  · rfl
theorem sCar_fr {σ : rS} {d o o' k' : Nat} {c v i' : Int32} (h : ¬ (o' = o ∧ (k' = 4 ∨ k' = 5 ∨ k' = 6))) : sCar σ d o c v o' k' i' = σ o' k' i' := by
  unfold sCar
  split
  · rw [sLay_fr h, sFree_fr (by grind)]
  · rfl
theorem sJud_fr {σ : rS} {d o o' k' : Nat} {c i' : Int32} (h : ¬ (o' = o ∧ (k' = 4 ∨ k' = 5 ∨ k' = 6))) (h2 : ¬ (o' = d ∧ k' = 4)) : sJud σ d o c o' k' i' = σ o' k' i' := by
  unfold sJud
  split
  · rw [sCar_fr h]; simp only [up]; grind
  · rfl
def jbStep (d o : Nat) (day : Int32) (j : Nat) (τ : rS) : rS := if runB τ d (nI j) ∧ τ d 5 (nI j) < day then sJud τ d o (nI j) else τ
theorem jb_fr {d o : Nat} {day : Int32} {σ : rS} {o' k' : Nat} {i' : Int32} (h : ¬ (o' = o ∧ (k' = 4 ∨ k' = 5 ∨ k' = 6))) (h2 : ¬ (o' = d ∧ k' = 4)) : ∀ j, itS (jbStep d o day) j σ o' k' i' = σ o' k' i' := by
  intro j
  induction j with
  | zero => rfl
  | succ j ih =>
    show jbStep d o day j (itS (jbStep d o day) j σ) o' k' i' = _
    generalize itS (jbStep d o day) j σ = s at ih ⊢
    unfold jbStep
    split
    · rw [sJud_fr h h2]; exact ih
    · exact ih
theorem c_X0_judgeBeyond {d o n : Nat} {day : Int32} {σ : rS} (h0 : isO d 0) (h1 : isO o 2) (hs : σ d 8 0 = nI n) (hn : n ≤ 40) : Ct mX0_judgeBeyond [.inr (d, 0), .inl day, .inr (o, 0)] σ none (itS (jbStep d o day) n σ) := by
  refine C_of_E rfl rfl (Nat.le_of_ble_eq_true rfl) ?_
  have hdo : ¬ d = o := isO_ne h0 h1 (by decide)
  have loop : ∀ j, j ≤ n → E mX0_judgeBeyond 2 [.inr (d, 0), .inl day, .inr (o, 0), .inl (nI j)] [] (itS (jbStep d o day) j σ) none (itS (jbStep d o day) n σ) := by
    refine dn_ind n _ ?_ (fun j hj ih => ?_)
    · have hsz : itS (jbStep d o day) n σ d 8 0 = nI n := by rw [jb_fr (by grind) (by grind)]; exact hs
      refine e_iload_n dX0_judgeBeyond_2 rfl ?_
      refine e_aload_n dX0_judgeBeyond_3 rfl ?_
      refine e_getI kX0 (by first | assumption | exact ⟨by decide, rfl⟩) (by decide) fX0_37 rfl dX0_judgeBeyond_4 ?_
      refine e_icmp_ge (tgt := 40) dX0_judgeBeyond_7 (by decide) (fun h7 => ?_) (fun h7 => ?_)
      rotate_left
      · exfalso
        grind
      exact e_vreq rfl dX0_judgeBeyond_40 rfl
    · have hsz : itS (jbStep d o day) j σ d 8 0 = nI n := by rw [jb_fr (by grind) (by grind)]; exact hs
      obtain ⟨f1, f2, f3, f4⟩ := nI_facts 40 hj hn (by decide) rfl
      change E mX0_judgeBeyond 2 [.inr (d, 0), .inl day, .inr (o, 0), .inl (nI (j + 1))] [] (jbStep d o day j (itS (jbStep d o day) j σ)) _ _ at ih
      generalize itS (jbStep d o day) j σ = s at ih hsz ⊢
      refine e_iload_n dX0_judgeBeyond_2 rfl ?_
      refine e_aload_n dX0_judgeBeyond_3 rfl ?_
      refine e_getI kX0 (by first | assumption | exact ⟨by decide, rfl⟩) (by decide) fX0_37 rfl dX0_judgeBeyond_4 ?_
      refine e_icmp_ge (tgt := 40) dX0_judgeBeyond_7 (by decide) (fun h7 => ?_) (fun h7 => ?_)
      · exfalso
        grind
      refine e_aload_n dX0_judgeBeyond_10 rfl ?_
      refine e_iload_n dX0_judgeBeyond_11 rfl ?_
      refine e_V1 oX0_isRunning lX0_45 ⟨Nat.le_of_ble_eq_true rfl, Nat.le_of_ble_eq_true rfl⟩ dX0_judgeBeyond_12 (by first | assumption | exact ⟨by decide, rfl⟩) (Nat.le_of_ble_eq_true rfl) (c_X0_isRunning (by first | assumption | exact ⟨by decide, rfl⟩)) ?_
      refine e_if_eqB (tgt := 34) dX0_judgeBeyond_15 (by decide) (fun h15 => ?_) (fun h15 => ?_)
      ·
        refine e_inc (1) (by decide) dX0_judgeBeyond_34 rfl (by decide) (Nat.le_of_ble_eq_true rfl) ?_
        refine e_goto (tgt := 2) dX0_judgeBeyond_37 (by decide) ?_
        unfold jbStep at ih
        first | rw [if_pos (by grind)] at ih | rw [if_neg (by grind)] at ih
        exact e_to ih (by first | rfl | (simp [lset]; done) | (simp [lset]; grind)) rfl
      ·
        refine e_iload_n dX0_judgeBeyond_18 rfl ?_
        refine e_aload_n dX0_judgeBeyond_19 rfl ?_
        refine e_getA kX0 (by first | assumption | exact ⟨by decide, rfl⟩) (by decide) fX0_27 rfl dX0_judgeBeyond_20 ?_
        refine e_iload_n dX0_judgeBeyond_23 rfl ?_
        refine e_iald (ci := 0) (by first | assumption | exact ⟨by decide, rfl⟩) rfl (vin 40 (by decide) (by grind)) dX0_judgeBeyond_24 ?_
        refine e_icmp_le (tgt := 34) dX0_judgeBeyond_25 (by decide) (fun h25 => ?_) (fun h25 => ?_)
        ·
          refine e_inc (1) (by decide) dX0_judgeBeyond_34 rfl (by decide) (Nat.le_of_ble_eq_true rfl) ?_
          refine e_goto (tgt := 2) dX0_judgeBeyond_37 (by decide) ?_
          unfold jbStep at ih
          first | rw [if_pos (by grind)] at ih | rw [if_neg (by grind)] at ih
          exact e_to ih (by first | rfl | (simp [lset]; done) | (simp [lset]; grind)) rfl
        ·
          refine e_aload_n dX0_judgeBeyond_28 rfl ?_
          refine e_iload_n dX0_judgeBeyond_29 rfl ?_
          refine e_aload_n dX0_judgeBeyond_30 rfl ?_
          refine e_V2v oX0_judge lX0_58 ⟨Nat.le_of_ble_eq_true rfl, Nat.le_of_ble_eq_true rfl⟩ dX0_judgeBeyond_31 (by first | assumption | exact ⟨by decide, rfl⟩) (Nat.le_of_ble_eq_true rfl) (c_X0_judge (by first | assumption | exact ⟨by decide, rfl⟩) (by first | assumption | exact ⟨by decide, rfl⟩)) ?_
          refine e_inc (1) (by decide) dX0_judgeBeyond_34 rfl (by decide) (Nat.le_of_ble_eq_true rfl) ?_
          refine e_goto (tgt := 2) dX0_judgeBeyond_37 (by decide) ?_
          unfold jbStep at ih
          first | rw [if_pos (by grind)] at ih | rw [if_neg (by grind)] at ih
          exact e_to ih (by first | rfl | (simp [lset]; done) | (simp [lset]; grind)) rfl
  refine e_iconst (v := 0) dX0_judgeBeyond_0 (by decide) ?_
  refine e_istore_n dX0_judgeBeyond_1 (by decide) (Nat.le_of_ble_eq_true rfl) ?_
  exact e_to (loop 0 (Nat.zero_le _)) (by first | rfl | (simp [lset]; done) | (simp [lset]; grind)) rfl
def jaStep (d o : Nat) (j : Nat) (τ : rS) : rS := if runB τ d (nI j) then sJud τ d o (nI j) else τ
theorem ja_fr {d o : Nat} {σ : rS} {o' k' : Nat} {i' : Int32} (h : ¬ (o' = o ∧ (k' = 4 ∨ k' = 5 ∨ k' = 6))) (h2 : ¬ (o' = d ∧ k' = 4)) : ∀ j, itS (jaStep d o) j σ o' k' i' = σ o' k' i' := by
  intro j
  induction j with
  | zero => rfl
  | succ j ih =>
    show jaStep d o j (itS (jaStep d o) j σ) o' k' i' = _
    generalize itS (jaStep d o) j σ = s at ih ⊢
    unfold jaStep
    split
    · rw [sJud_fr h h2]; exact ih
    · exact ih
theorem c_X0_judgeAll {d o n : Nat} {σ : rS} (h0 : isO d 0) (h1 : isO o 2) (hs : σ d 8 0 = nI n) (hn : n ≤ 40) : Ct mX0_judgeAll [.inr (d, 0), .inr (o, 0)] σ none (itS (jaStep d o) n σ) := by
  refine C_of_E rfl rfl (Nat.le_of_ble_eq_true rfl) ?_
  have hdo : ¬ d = o := isO_ne h0 h1 (by decide)
  have loop : ∀ j, j ≤ n → E mX0_judgeAll 2 [.inr (d, 0), .inr (o, 0), .inl (nI j)] [] (itS (jaStep d o) j σ) none (itS (jaStep d o) n σ) := by
    refine dn_ind n _ ?_ (fun j hj ih => ?_)
    · have hsz : itS (jaStep d o) n σ d 8 0 = nI n := by rw [ja_fr (by grind) (by grind)]; exact hs
      refine e_iload_n dX0_judgeAll_2 rfl ?_
      refine e_aload_n dX0_judgeAll_3 rfl ?_
      refine e_getI kX0 (by first | assumption | exact ⟨by decide, rfl⟩) (by decide) fX0_37 rfl dX0_judgeAll_4 ?_
      refine e_icmp_ge (tgt := 30) dX0_judgeAll_7 (by decide) (fun h7 => ?_) (fun h7 => ?_)
      rotate_left
      · exfalso
        grind
      exact e_vreq rfl dX0_judgeAll_30 rfl
    · have hsz : itS (jaStep d o) j σ d 8 0 = nI n := by rw [ja_fr (by grind) (by grind)]; exact hs
      obtain ⟨f1, f2, f3, f4⟩ := nI_facts 40 hj hn (by decide) rfl
      change E mX0_judgeAll 2 [.inr (d, 0), .inr (o, 0), .inl (nI (j + 1))] [] (jaStep d o j (itS (jaStep d o) j σ)) _ _ at ih
      generalize itS (jaStep d o) j σ = s at ih hsz ⊢
      refine e_iload_n dX0_judgeAll_2 rfl ?_
      refine e_aload_n dX0_judgeAll_3 rfl ?_
      refine e_getI kX0 (by first | assumption | exact ⟨by decide, rfl⟩) (by decide) fX0_37 rfl dX0_judgeAll_4 ?_
      refine e_icmp_ge (tgt := 30) dX0_judgeAll_7 (by decide) (fun h7 => ?_) (fun h7 => ?_)
      · exfalso
        grind
      refine e_aload_n dX0_judgeAll_10 rfl ?_
      refine e_iload_n dX0_judgeAll_11 rfl ?_
      refine e_V1 oX0_isRunning lX0_45 ⟨Nat.le_of_ble_eq_true rfl, Nat.le_of_ble_eq_true rfl⟩ dX0_judgeAll_12 (by first | assumption | exact ⟨by decide, rfl⟩) (Nat.le_of_ble_eq_true rfl) (c_X0_isRunning (by first | assumption | exact ⟨by decide, rfl⟩)) ?_
      refine e_if_eqB (tgt := 24) dX0_judgeAll_15 (by decide) (fun h15 => ?_) (fun h15 => ?_)
      ·
        refine e_inc (1) (by decide) dX0_judgeAll_24 rfl (by decide) (Nat.le_of_ble_eq_true rfl) ?_
        refine e_goto (tgt := 2) dX0_judgeAll_27 (by decide) ?_
        unfold jaStep at ih
        first | rw [if_pos (by grind)] at ih | rw [if_neg (by grind)] at ih
        exact e_to ih (by first | rfl | (simp [lset]; done) | (simp [lset]; grind)) rfl
      ·
        refine e_aload_n dX0_judgeAll_18 rfl ?_
        refine e_iload_n dX0_judgeAll_19 rfl ?_
        refine e_aload_n dX0_judgeAll_20 rfl ?_
        refine e_V2v oX0_judge lX0_58 ⟨Nat.le_of_ble_eq_true rfl, Nat.le_of_ble_eq_true rfl⟩ dX0_judgeAll_21 (by first | assumption | exact ⟨by decide, rfl⟩) (Nat.le_of_ble_eq_true rfl) (c_X0_judge (by first | assumption | exact ⟨by decide, rfl⟩) (by first | assumption | exact ⟨by decide, rfl⟩)) ?_
        refine e_inc (1) (by decide) dX0_judgeAll_24 rfl (by decide) (Nat.le_of_ble_eq_true rfl) ?_
        refine e_goto (tgt := 2) dX0_judgeAll_27 (by decide) ?_
        unfold jaStep at ih
        first | rw [if_pos (by grind)] at ih | rw [if_neg (by grind)] at ih
        exact e_to ih (by first | rfl | (simp [lset]; done) | (simp [lset]; grind)) rfl
  refine e_iconst (v := 0) dX0_judgeAll_0 (by decide) ?_
  refine e_istore_n dX0_judgeAll_1 (by decide) (Nat.le_of_ble_eq_true rfl) ?_
  exact e_to (loop 0 (Nat.zero_le _)) (by first | rfl | (simp [lset]; done) | (simp [lset]; grind)) rfl
def fvStep (d o : Nat) (j : Nat) (τ : rS) : rS := if runB τ d (nI j) then sCar τ d o (nI j) (vV τ d o (nI j)) else τ
theorem fv_fr {d o : Nat} {σ : rS} {o' k' : Nat} {i' : Int32} (h : ¬ (o' = o ∧ (k' = 4 ∨ k' = 5 ∨ k' = 6))) : ∀ j, itS (fvStep d o) j σ o' k' i' = σ o' k' i' := by
  intro j
  induction j with
  | zero => rfl
  | succ j ih =>
    show fvStep d o j (itS (fvStep d o) j σ) o' k' i' = _
    generalize itS (fvStep d o) j σ = s at ih ⊢
    unfold fvStep
    split
    · rw [sCar_fr h]; exact ih
    · exact ih
theorem c_X0_foreseeVerdicts {d o n : Nat} {σ : rS} (h0 : isO d 0) (h1 : isO o 2) (hs : σ d 8 0 = nI n) (hn : n ≤ 40) : Ct mX0_foreseeVerdicts [.inr (d, 0), .inr (o, 0)] σ none (itS (fvStep d o) n σ) := by
  refine C_of_E rfl rfl (Nat.le_of_ble_eq_true rfl) ?_
  have hdo : ¬ d = o := isO_ne h0 h1 (by decide)
  have loop : ∀ j, j ≤ n → E mX0_foreseeVerdicts 2 [.inr (d, 0), .inr (o, 0), .inl (nI j)] [] (itS (fvStep d o) j σ) none (itS (fvStep d o) n σ) := by
    refine dn_ind n _ ?_ (fun j hj ih => ?_)
    · have hsz : itS (fvStep d o) n σ d 8 0 = nI n := by rw [fv_fr (by grind)]; exact hs
      refine e_iload_n dX0_foreseeVerdicts_2 rfl ?_
      refine e_aload_n dX0_foreseeVerdicts_3 rfl ?_
      refine e_getI kX0 (by first | assumption | exact ⟨by decide, rfl⟩) (by decide) fX0_37 rfl dX0_foreseeVerdicts_4 ?_
      refine e_icmp_ge (tgt := 36) dX0_foreseeVerdicts_7 (by decide) (fun h7 => ?_) (fun h7 => ?_)
      rotate_left
      · exfalso
        grind
      exact e_vreq rfl dX0_foreseeVerdicts_36 rfl
    · have hsz : itS (fvStep d o) j σ d 8 0 = nI n := by rw [fv_fr (by grind)]; exact hs
      obtain ⟨f1, f2, f3, f4⟩ := nI_facts 40 hj hn (by decide) rfl
      change E mX0_foreseeVerdicts 2 [.inr (d, 0), .inr (o, 0), .inl (nI (j + 1))] [] (fvStep d o j (itS (fvStep d o) j σ)) _ _ at ih
      generalize itS (fvStep d o) j σ = s at ih hsz ⊢
      refine e_iload_n dX0_foreseeVerdicts_2 rfl ?_
      refine e_aload_n dX0_foreseeVerdicts_3 rfl ?_
      refine e_getI kX0 (by first | assumption | exact ⟨by decide, rfl⟩) (by decide) fX0_37 rfl dX0_foreseeVerdicts_4 ?_
      refine e_icmp_ge (tgt := 36) dX0_foreseeVerdicts_7 (by decide) (fun h7 => ?_) (fun h7 => ?_)
      · exfalso
        grind
      refine e_aload_n dX0_foreseeVerdicts_10 rfl ?_
      refine e_iload_n dX0_foreseeVerdicts_11 rfl ?_
      refine e_V1 oX0_isRunning lX0_45 ⟨Nat.le_of_ble_eq_true rfl, Nat.le_of_ble_eq_true rfl⟩ dX0_foreseeVerdicts_12 (by first | assumption | exact ⟨by decide, rfl⟩) (Nat.le_of_ble_eq_true rfl) (c_X0_isRunning (by first | assumption | exact ⟨by decide, rfl⟩)) ?_
      refine e_if_eqB (tgt := 30) dX0_foreseeVerdicts_15 (by decide) (fun h15 => ?_) (fun h15 => ?_)
      ·
        refine e_inc (1) (by decide) dX0_foreseeVerdicts_30 rfl (by decide) (Nat.le_of_ble_eq_true rfl) ?_
        refine e_goto (tgt := 2) dX0_foreseeVerdicts_33 (by decide) ?_
        unfold fvStep at ih
        first | rw [if_pos (by grind)] at ih | rw [if_neg (by grind)] at ih
        exact e_to ih (by first | rfl | (simp [lset]; done) | (simp [lset]; grind)) rfl
      ·
        refine e_aload_n dX0_foreseeVerdicts_18 rfl ?_
        refine e_iload_n dX0_foreseeVerdicts_19 rfl ?_
        refine e_aload_n dX0_foreseeVerdicts_20 rfl ?_
        refine e_iload_n dX0_foreseeVerdicts_21 rfl ?_
        refine e_aload_n dX0_foreseeVerdicts_22 rfl ?_
        refine e_V2 oX0_verdictOn lX0_62 ⟨Nat.le_of_ble_eq_true rfl, Nat.le_of_ble_eq_true rfl⟩ dX0_foreseeVerdicts_23 (by first | assumption | exact ⟨by decide, rfl⟩) (Nat.le_of_ble_eq_true rfl) (c_X0_verdictOn (by first | assumption | exact ⟨by decide, rfl⟩) (by first | assumption | exact ⟨by decide, rfl⟩)) ?_
        refine e_aload_n dX0_foreseeVerdicts_26 rfl ?_
        refine e_V3v oX0_carryOut lX0_66 ⟨Nat.le_of_ble_eq_true rfl, Nat.le_of_ble_eq_true rfl⟩ dX0_foreseeVerdicts_27 (by first | assumption | exact ⟨by decide, rfl⟩) (Nat.le_of_ble_eq_true rfl) (c_X0_carryOut (by first | assumption | exact ⟨by decide, rfl⟩) (by first | assumption | exact ⟨by decide, rfl⟩)) ?_
        refine e_inc (1) (by decide) dX0_foreseeVerdicts_30 rfl (by decide) (Nat.le_of_ble_eq_true rfl) ?_
        refine e_goto (tgt := 2) dX0_foreseeVerdicts_33 (by decide) ?_
        unfold fvStep at ih
        first | rw [if_pos (by grind)] at ih | rw [if_neg (by grind)] at ih
        exact e_to ih (by first | rfl | (simp [lset]; done) | (simp [lset]; grind)) rfl
  refine e_iconst (v := 0) dX0_foreseeVerdicts_0 (by decide) ?_
  refine e_istore_n dX0_foreseeVerdicts_1 (by decide) (Nat.le_of_ble_eq_true rfl) ?_
  exact e_to (loop 0 (Nat.zero_le _)) (by first | rfl | (simp [lset]; done) | (simp [lset]; grind)) rfl
