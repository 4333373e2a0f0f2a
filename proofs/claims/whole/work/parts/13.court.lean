-- the court
/-- the shape: which statutes are in force, how many men, places, challenges -/
def shC (σ : rS) (q n m c : Nat) : Prop := (σ 0 5 0).toNatClampNeg = q ∧ isO q 3 ∧ σ 3 7 0 = nI n ∧ n ≤ 12 ∧ σ q 4 0 = nI m ∧ m ≤ 24 ∧ σ 5 8 0 = nI c ∧ c ≤ 40
theorem cl_le {i : Int32} {N : Nat} (L : Int32) (hL : L.toInt = N) (h : 0 ≤ i ∧ i < L) : i.toNatClampNeg ≤ N := by
  have h1 := Int32.lt_iff_toInt_lt.mp h.2
  have h2 : i.toNatClampNeg = i.toInt.toNat := rfl
  omega
theorem c_X5_areCoins {c : Int32} {σ : rS}  : Ct mX5_areCoins [.inl c] σ (some (.inl (bI (0 ≤ c ∧ c ≤ 100000)))) (σ) := by
  refine C_of_E rfl rfl (Nat.le_of_ble_eq_true rfl) ?_
  refine e_iload_n dX5_areCoins_0 rfl ?_
  refine e_if_lt (tgt := 14) dX5_areCoins_1 (by decide) (fun h1 => ?_) (fun h1 => ?_)
  ·
    refine e_iconst (v := 0) dX5_areCoins_14 (by decide) ?_
    exact e_ret0 rfl dX5_areCoins_15 (by grind) rfl
  ·
    refine e_iload_n dX5_areCoins_4 rfl ?_
    refine e_ldc dX5_areCoins_5 kX5_234 ?_
    refine e_icmp_gt (tgt := 14) dX5_areCoins_7 (by decide) (fun h7 => ?_) (fun h7 => ?_)
    ·
      refine e_iconst (v := 0) dX5_areCoins_14 (by decide) ?_
      exact e_ret0 rfl dX5_areCoins_15 (by grind) rfl
    ·
      refine e_iconst (v := 1) dX5_areCoins_10 (by decide) ?_
      refine e_goto (tgt := 15) dX5_areCoins_11 (by decide) ?_
      exact e_ret1 rfl dX5_areCoins_15 (by grind) rfl
theorem c_X5_isFitNow {man : Int32} {q : Nat} {σ : rS} (hl : (σ 0 5 0).toNatClampNeg = q) (h1 : isO q 3) : Ct mX5_isFitNow [.inr (0, 0), .inl man] σ (some (.inl (bI (¬ σ 0 7 0 = 0 ∧ fitB σ 3 q man (σ 0 8 0 - 1))))) (σ) := by
  refine C_of_E rfl rfl (Nat.le_of_ble_eq_true rfl) ?_
  refine e_aload_n dX5_isFitNow_0 rfl ?_
  refine e_getI kX5 (by first | assumption | exact ⟨by decide, rfl⟩) (by decide) fX5_52 rfl dX5_isFitNow_1 ?_
  refine e_if_eq (tgt := 32) dX5_isFitNow_4 (by decide) (fun h4 => ?_) (fun h4 => ?_)
  ·
    refine e_iconst (v := 0) dX5_isFitNow_32 (by decide) ?_
    exact e_ret0 rfl dX5_isFitNow_33 (by grind) rfl
  ·
    refine e_aload_n dX5_isFitNow_7 rfl ?_
    refine e_getO 3 kX5 (by first | assumption | exact ⟨by decide, rfl⟩) (by decide) fX5_28 rfl rfl dX5_isFitNow_8 ?_
    refine e_iload_n dX5_isFitNow_11 rfl ?_
    refine e_aload_n dX5_isFitNow_12 rfl ?_
    refine e_getD q kX5 (by first | assumption | exact ⟨by decide, rfl⟩) (by decide) fX5_45 rfl hl dX5_isFitNow_13 ?_
    refine e_aload_n dX5_isFitNow_16 rfl ?_
    refine e_getI kX5 (by first | assumption | exact ⟨by decide, rfl⟩) (by decide) fX5_56 rfl dX5_isFitNow_17 ?_
    refine e_iconst (v := 1) dX5_isFitNow_20 (by decide) ?_
    refine e_isub dX5_isFitNow_21 ?_
    refine e_V3 oX2_isFit lX5_235 ⟨Nat.le_of_ble_eq_true rfl, Nat.le_of_ble_eq_true rfl⟩ dX5_isFitNow_22 (by first | assumption | exact ⟨by decide, rfl⟩) (Nat.le_of_ble_eq_true rfl) (c_X2_isFit (by first | assumption | exact ⟨by decide, rfl⟩) (by first | assumption | exact ⟨by decide, rfl⟩)) ?_
    refine e_if_eqB (tgt := 32) dX5_isFitNow_25 (by decide) (fun h25 => ?_) (fun h25 => ?_)
    ·
      refine e_iconst (v := 0) dX5_isFitNow_32 (by decide) ?_
      exact e_ret0 rfl dX5_isFitNow_33 (by grind) rfl
    ·
      refine e_iconst (v := 1) dX5_isFitNow_28 (by decide) ?_
      refine e_goto (tgt := 33) dX5_isFitNow_29 (by decide) ?_
      exact e_ret1 rfl dX5_isFitNow_33 (by grind) rfl
theorem c_X1_faultKind {o : Nat} {σ : rS} (h0 : isO o 1) : Ct mX1_faultKind [.inr (o, 0)] σ (some (.inl (σ o 4 0))) (σ) := by
  refine C_of_E rfl rfl (Nat.le_of_ble_eq_true rfl) ?_
  refine e_aload_n dX1_faultKind_0 rfl ?_
  refine e_getI kX1 (by first | assumption | exact ⟨by decide, rfl⟩) (by decide) fX1_26 rfl dX1_faultKind_1 ?_
  exact e_ireq rfl rfl dX1_faultKind_4 (by first | rfl | grind) rfl
theorem c_X1_faultPlace {o : Nat} {σ : rS} (h0 : isO o 1) : Ct mX1_faultPlace [.inr (o, 0)] σ (some (.inl (σ o 5 0))) (σ) := by
  refine C_of_E rfl rfl (Nat.le_of_ble_eq_true rfl) ?_
  refine e_aload_n dX1_faultPlace_0 rfl ?_
  refine e_getI kX1 (by first | assumption | exact ⟨by decide, rfl⟩) (by decide) fX1_29 rfl dX1_faultPlace_1 ?_
  exact e_ireq rfl rfl dX1_faultPlace_4 (by first | rfl | grind) rfl
abbrev s5 (σ : rS) (a b c d e : Int32) : rS := apF 1 e 4 (apF 1 d 4 (apF 1 c 4 (apF 1 b 4 (apF 1 a 4 σ))))
theorem c_X5_feed {a b c d e : Int32} {σ : rS} (hl : 0 ≤ σ 1 1 0 ∧ σ 1 1 0 ≤ 600) : Ct mX5_feed [.inr (0, 0), .inl a, .inl b, .inl c, .inl d, .inl e] σ (some (.inl (if σ 1 1 0 + 20 ≤ 600 then σ 1 1 0 + 20 else -1))) (if σ 1 1 0 + 20 ≤ 600 then s5 σ a b c d e else σ) := by
  refine C_of_E rfl rfl (Nat.le_of_ble_eq_true rfl) ?_
  have e4 : nI 4 = 4 := rfl
  have L1 := apF_len (o := 1) (w := a) (σ := σ) 4
  have L2 := apF_len (o := 1) (w := b) (σ := apF 1 a 4 σ) 4
  have L3 := apF_len (o := 1) (w := c) (σ := apF 1 b 4 (apF 1 a 4 σ)) 4
  have L4 := apF_len (o := 1) (w := d) (σ := apF 1 c 4 (apF 1 b 4 (apF 1 a 4 σ))) 4
  have L5 := apF_len (o := 1) (w := e) (σ := apF 1 d 4 (apF 1 c 4 (apF 1 b 4 (apF 1 a 4 σ)))) 4
  refine e_aload_n dX5_feed_0 rfl ?_
  refine e_getO 1 kX5 (by first | assumption | exact ⟨by decide, rfl⟩) (by decide) fX5_10 rfl rfl dX5_feed_1 ?_
  refine e_bipush (v := 20) dX5_feed_4 (by decide) ?_
  refine e_V1 oX4_hasRoom lX5_66 ⟨Nat.le_of_ble_eq_true rfl, Nat.le_of_ble_eq_true rfl⟩ dX5_feed_6 (by first | assumption | exact ⟨by decide, rfl⟩) (Nat.le_of_ble_eq_true rfl) (c_X4_hasRoom (by first | assumption | exact ⟨by decide, rfl⟩)) ?_
  refine e_if_neB (tgt := 14) dX5_feed_9 (by decide) (fun h9 => ?_) (fun h9 => ?_)
  ·
    refine e_aload_n dX5_feed_14 rfl ?_
    refine e_getO 1 kX5 (by first | assumption | exact ⟨by decide, rfl⟩) (by decide) fX5_10 rfl rfl dX5_feed_15 ?_
    refine e_iload_n dX5_feed_18 rfl ?_
    refine e_V1v oX4_append lX5_70 ⟨Nat.le_of_ble_eq_true rfl, Nat.le_of_ble_eq_true rfl⟩ dX5_feed_19 (by first | assumption | exact ⟨by decide, rfl⟩) (Nat.le_of_ble_eq_true rfl) (c_X4_append (by first | assumption | exact ⟨by decide, rfl⟩) (by grind)) ?_
    refine e_aload_n dX5_feed_22 rfl ?_
    refine e_getO 1 kX5 (by first | assumption | exact ⟨by decide, rfl⟩) (by decide) fX5_10 rfl rfl dX5_feed_23 ?_
    refine e_iload_n dX5_feed_26 rfl ?_
    refine e_V1v oX4_append lX5_70 ⟨Nat.le_of_ble_eq_true rfl, Nat.le_of_ble_eq_true rfl⟩ dX5_feed_27 (by first | assumption | exact ⟨by decide, rfl⟩) (Nat.le_of_ble_eq_true rfl) (c_X4_append (by first | assumption | exact ⟨by decide, rfl⟩) (by grind)) ?_
    refine e_aload_n dX5_feed_30 rfl ?_
    refine e_getO 1 kX5 (by first | assumption | exact ⟨by decide, rfl⟩) (by decide) fX5_10 rfl rfl dX5_feed_31 ?_
    refine e_iload_n dX5_feed_34 rfl ?_
    refine e_V1v oX4_append lX5_70 ⟨Nat.le_of_ble_eq_true rfl, Nat.le_of_ble_eq_true rfl⟩ dX5_feed_35 (by first | assumption | exact ⟨by decide, rfl⟩) (Nat.le_of_ble_eq_true rfl) (c_X4_append (by first | assumption | exact ⟨by decide, rfl⟩) (by grind)) ?_
    refine e_aload_n dX5_feed_38 rfl ?_
    refine e_getO 1 kX5 (by first | assumption | exact ⟨by decide, rfl⟩) (by decide) fX5_10 rfl rfl dX5_feed_39 ?_
    refine e_iload dX5_feed_42 rfl ?_
    refine e_V1v oX4_append lX5_70 ⟨Nat.le_of_ble_eq_true rfl, Nat.le_of_ble_eq_true rfl⟩ dX5_feed_44 (by first | assumption | exact ⟨by decide, rfl⟩) (Nat.le_of_ble_eq_true rfl) (c_X4_append (by first | assumption | exact ⟨by decide, rfl⟩) (by grind)) ?_
    refine e_aload_n dX5_feed_47 rfl ?_
    refine e_getO 1 kX5 (by first | assumption | exact ⟨by decide, rfl⟩) (by decide) fX5_10 rfl rfl dX5_feed_48 ?_
    refine e_iload dX5_feed_51 rfl ?_
    refine e_V1v oX4_append lX5_70 ⟨Nat.le_of_ble_eq_true rfl, Nat.le_of_ble_eq_true rfl⟩ dX5_feed_53 (by first | assumption | exact ⟨by decide, rfl⟩) (Nat.le_of_ble_eq_true rfl) (c_X4_append (by first | assumption | exact ⟨by decide, rfl⟩) (by grind)) ?_
    refine e_aload_n dX5_feed_56 rfl ?_
    refine e_getO 1 kX5 (by first | assumption | exact ⟨by decide, rfl⟩) (by decide) fX5_10 rfl rfl dX5_feed_57 ?_
    refine e_V0 oX4_length lX5_74 ⟨Nat.le_of_ble_eq_true rfl, Nat.le_of_ble_eq_true rfl⟩ dX5_feed_60 (by first | assumption | exact ⟨by decide, rfl⟩) (Nat.le_of_ble_eq_true rfl) (c_X4_length (by first | assumption | exact ⟨by decide, rfl⟩)) ?_
    exact e_ireq rfl rfl dX5_feed_63 (by grind) (by first | rw [if_neg (by grind)] | rw [if_pos (by grind)])
  ·
    refine e_iconst (v := -1) dX5_feed_12 (by decide) ?_
    exact e_ireq rfl rfl dX5_feed_13 (by grind) (by first | rw [if_neg (by grind)] | rw [if_pos (by grind)])
theorem c_X5_fault {w : Int32} {σ : rS}  : Ct mX5_fault [.inr (0, 0), .inl w] σ (some (.inl (if w = 0 then σ 2 4 0 else if w = 1 then σ 2 5 0 else -1))) (σ) := by
  refine C_of_E rfl rfl (Nat.le_of_ble_eq_true rfl) ?_
  refine e_iload_n dX5_fault_0 rfl ?_
  refine e_look2 28 36 44 dX5_fault_1 (by decide) (by decide) (by decide) (fun h1 => ?_) (fun h1 => ?_) (fun h1 => ?_)
  ·
    refine e_aload_n dX5_fault_28 rfl ?_
    refine e_getO 2 kX5 (by first | assumption | exact ⟨by decide, rfl⟩) (by decide) fX5_21 rfl rfl dX5_fault_29 ?_
    refine e_V0 oX1_faultKind lX5_88 ⟨Nat.le_of_ble_eq_true rfl, Nat.le_of_ble_eq_true rfl⟩ dX5_fault_32 (by first | assumption | exact ⟨by decide, rfl⟩) (Nat.le_of_ble_eq_true rfl) (c_X1_faultKind (by first | assumption | exact ⟨by decide, rfl⟩)) ?_
    exact e_ireq rfl rfl dX5_fault_35 (by first | rfl | grind) rfl
  ·
    refine e_aload_n dX5_fault_36 rfl ?_
    refine e_getO 2 kX5 (by first | assumption | exact ⟨by decide, rfl⟩) (by decide) fX5_21 rfl rfl dX5_fault_37 ?_
    refine e_V0 oX1_faultPlace lX5_91 ⟨Nat.le_of_ble_eq_true rfl, Nat.le_of_ble_eq_true rfl⟩ dX5_fault_40 (by first | assumption | exact ⟨by decide, rfl⟩) (Nat.le_of_ble_eq_true rfl) (c_X1_faultPlace (by first | assumption | exact ⟨by decide, rfl⟩)) ?_
    exact e_ireq rfl rfl dX5_fault_43 (by first | rfl | grind) rfl
  ·
    refine e_iconst (v := -1) dX5_fault_44 (by decide) ?_
    exact e_ireq rfl rfl dX5_fault_45 (by first | rfl | grind) rfl
abbrev coB (d h : Int32) : Prop := (0 ≤ d ∧ d ≤ 100000) ∧ (0 ≤ h ∧ h ≤ 100000)
theorem c_X5_man {d h : Int32} {σ : rS}  : Ct mX5_man [.inr (0, 0), .inl d, .inl h] σ (some (.inl (if coB d h then (if 0 ≤ σ 3 7 0 ∧ σ 3 7 0 < 12 then σ 3 7 0 else -1) else -1))) (if coB d h then sEnter σ 3 d h else σ) := by
  refine C_of_E rfl rfl (Nat.le_of_ble_eq_true rfl) ?_
  refine e_iload_n dX5_man_0 rfl ?_
  refine e_S1 oX5_areCoins sX5_areCoins lX5_94 ⟨Nat.le_of_ble_eq_true rfl, Nat.le_of_ble_eq_true rfl⟩ dX5_man_1 (Nat.le_of_ble_eq_true rfl) (c_X5_areCoins) ?_
  refine e_if_eqB (tgt := 14) dX5_man_4 (by decide) (fun h4 => ?_) (fun h4 => ?_)
  ·
    refine e_iconst (v := -1) dX5_man_14 (by decide) ?_
    exact e_ireq rfl rfl dX5_man_15 (by grind) (by first | rw [if_neg (by grind)] | rw [if_pos (by grind)])
  ·
    refine e_iload_n dX5_man_7 rfl ?_
    refine e_S1 oX5_areCoins sX5_areCoins lX5_94 ⟨Nat.le_of_ble_eq_true rfl, Nat.le_of_ble_eq_true rfl⟩ dX5_man_8 (Nat.le_of_ble_eq_true rfl) (c_X5_areCoins) ?_
    refine e_if_neB (tgt := 16) dX5_man_11 (by decide) (fun h11 => ?_) (fun h11 => ?_)
    ·
      refine e_aload_n dX5_man_16 rfl ?_
      refine e_getO 3 kX5 (by first | assumption | exact ⟨by decide, rfl⟩) (by decide) fX5_28 rfl rfl dX5_man_17 ?_
      refine e_iload_n dX5_man_20 rfl ?_
      refine e_iload_n dX5_man_21 rfl ?_
      refine e_V2 oX2_enter lX5_97 ⟨Nat.le_of_ble_eq_true rfl, Nat.le_of_ble_eq_true rfl⟩ dX5_man_22 (by first | assumption | exact ⟨by decide, rfl⟩) (Nat.le_of_ble_eq_true rfl) (c_X2_enter (by first | assumption | exact ⟨by decide, rfl⟩)) ?_
      exact e_ireq rfl rfl dX5_man_25 (by grind) (by first | rw [if_neg (by grind)] | rw [if_pos (by grind)])
    ·
      refine e_iconst (v := -1) dX5_man_14 (by decide) ?_
      exact e_ireq rfl rfl dX5_man_15 (by grind) (by first | rw [if_neg (by grind)] | rw [if_pos (by grind)])
abbrev foB (σ : rS) (man n : Int32) : Prop := hasM σ 3 man ∧ 1 ≤ n ∧ n ≤ σ 3 1 man
theorem c_X5_found {man n : Int32} {σ : rS}  : Ct mX5_found [.inr (0, 0), .inl man, .inl n] σ (some (.inl (bI (foB σ man n)))) (if foB σ man n then sUnc σ 3 man n else σ) := by
  refine C_of_E rfl rfl (Nat.le_of_ble_eq_true rfl) ?_
  refine e_aload_n dX5_found_0 rfl ?_
  refine e_getO 3 kX5 (by first | assumption | exact ⟨by decide, rfl⟩) (by decide) fX5_28 rfl rfl dX5_found_1 ?_
  refine e_iload_n dX5_found_4 rfl ?_
  refine e_V1 oX2_has lX5_101 ⟨Nat.le_of_ble_eq_true rfl, Nat.le_of_ble_eq_true rfl⟩ dX5_found_5 (by first | assumption | exact ⟨by decide, rfl⟩) (Nat.le_of_ble_eq_true rfl) (c_X2_has (by first | assumption | exact ⟨by decide, rfl⟩)) ?_
  refine e_if_eqB (tgt := 28) dX5_found_8 (by decide) (fun h8 => ?_) (fun h8 => ?_)
  ·
    refine e_iconst (v := 0) dX5_found_28 (by decide) ?_
    exact e_ret0 rfl dX5_found_29 (by grind) (by first | rw [if_neg (by grind)] | rw [if_pos (by grind)])
  ·
    refine e_iload_n dX5_found_11 rfl ?_
    refine e_iconst (v := 1) dX5_found_12 (by decide) ?_
    refine e_icmp_lt (tgt := 28) dX5_found_13 (by decide) (fun h13 => ?_) (fun h13 => ?_)
    ·
      refine e_iconst (v := 0) dX5_found_28 (by decide) ?_
      exact e_ret0 rfl dX5_found_29 (by grind) (by first | rw [if_neg (by grind)] | rw [if_pos (by grind)])
    ·
      refine e_iload_n dX5_found_16 rfl ?_
      refine e_aload_n dX5_found_17 rfl ?_
      refine e_getO 3 kX5 (by first | assumption | exact ⟨by decide, rfl⟩) (by decide) fX5_28 rfl rfl dX5_found_18 ?_
      refine e_iload_n dX5_found_21 rfl ?_
      refine e_V1 oX2_hiddenOf lX5_104 ⟨Nat.le_of_ble_eq_true rfl, Nat.le_of_ble_eq_true rfl⟩ dX5_found_22 (by first | assumption | exact ⟨by decide, rfl⟩) (Nat.le_of_ble_eq_true rfl) (c_X2_hiddenOf (by first | assumption | exact ⟨by decide, rfl⟩)) ?_
      refine e_icmp_le (tgt := 30) dX5_found_25 (by decide) (fun h25 => ?_) (fun h25 => ?_)
      ·
        refine e_aload_n dX5_found_30 rfl ?_
        refine e_getO 3 kX5 (by first | assumption | exact ⟨by decide, rfl⟩) (by decide) fX5_28 rfl rfl dX5_found_31 ?_
        refine e_iload_n dX5_found_34 rfl ?_
        refine e_iload_n dX5_found_35 rfl ?_
        refine e_V2v oX2_uncover lX5_108 ⟨Nat.le_of_ble_eq_true rfl, Nat.le_of_ble_eq_true rfl⟩ dX5_found_36 (by first | assumption | exact ⟨by decide, rfl⟩) (Nat.le_of_ble_eq_true rfl) (c_X2_uncover (by first | assumption | exact ⟨by decide, rfl⟩)) ?_
        refine e_iconst (v := 1) dX5_found_39 (by decide) ?_
        exact e_ret1 rfl dX5_found_40 (by grind) (by first | rw [if_neg (by grind)] | rw [if_pos (by grind)])
      ·
        refine e_iconst (v := 0) dX5_found_28 (by decide) ?_
        exact e_ret0 rfl dX5_found_29 (by grind) (by first | rw [if_neg (by grind)] | rw [if_pos (by grind)])
theorem c_X5_richest {k : Int32} {n : Nat} {σ : rS} (hs : σ 3 7 0 = nI n) (hn : n ≤ 12) : Ct mX5_richest [.inr (0, 0), .inl k] σ (some (.inl (fmF σ 3 n k n 0))) (σ) := by
  refine C_of_E rfl rfl (Nat.le_of_ble_eq_true rfl) ?_
  refine e_aload_n dX5_richest_0 rfl ?_
  refine e_getO 3 kX5 (by first | assumption | exact ⟨by decide, rfl⟩) (by decide) fX5_28 rfl rfl dX5_richest_1 ?_
  refine e_iload_n dX5_richest_4 rfl ?_
  refine e_V1 oX2_manOfRank lX5_139 ⟨Nat.le_of_ble_eq_true rfl, Nat.le_of_ble_eq_true rfl⟩ dX5_richest_5 (by first | assumption | exact ⟨by decide, rfl⟩) (Nat.le_of_ble_eq_true rfl) (c_X2_manOfRank (by first | assumption | exact ⟨by decide, rfl⟩) hs hn) ?_
  exact e_ireq rfl rfl dX5_richest_8 (by first | rfl | grind) rfl
theorem c_X5_place {p w : Int32} {q : Nat} {σ : rS} (hl : (σ 0 5 0).toNatClampNeg = q) (h1 : isO q 3) : Ct mX5_place [.inr (0, 0), .inl p, .inl w] σ (some (.inl (if hasP σ q p then (if w = 0 then σ q 3 p else if w = 1 then gB σ 3 p else -2) else -2))) (σ) := by
  refine C_of_E rfl rfl (Nat.le_of_ble_eq_true rfl) ?_
  refine e_aload_n dX5_place_0 rfl ?_
  refine e_getD q kX5 (by first | assumption | exact ⟨by decide, rfl⟩) (by decide) fX5_45 rfl hl dX5_place_1 ?_
  refine e_iload_n dX5_place_4 rfl ?_
  refine e_V1 oX3_hasPlace lX5_142 ⟨Nat.le_of_ble_eq_true rfl, Nat.le_of_ble_eq_true rfl⟩ dX5_place_5 (by first | assumption | exact ⟨by decide, rfl⟩) (Nat.le_of_ble_eq_true rfl) (c_X3_hasPlace (by first | assumption | exact ⟨by decide, rfl⟩)) ?_
  refine e_if_neB (tgt := 14) dX5_place_8 (by decide) (fun h8 => ?_) (fun h8 => ?_)
  ·
    refine e_iload_n dX5_place_14 rfl ?_
    refine e_look2 40 49 58 dX5_place_15 (by decide) (by decide) (by decide) (fun h15 => ?_) (fun h15 => ?_) (fun h15 => ?_)
    ·
      refine e_aload_n dX5_place_40 rfl ?_
      refine e_getD q kX5 (by first | assumption | exact ⟨by decide, rfl⟩) (by decide) fX5_45 rfl hl dX5_place_41 ?_
      refine e_iload_n dX5_place_44 rfl ?_
      refine e_V1 oX3_burdenAt lX5_145 ⟨Nat.le_of_ble_eq_true rfl, Nat.le_of_ble_eq_true rfl⟩ dX5_place_45 (by first | assumption | exact ⟨by decide, rfl⟩) (Nat.le_of_ble_eq_true rfl) (c_X3_burdenAt (by first | assumption | exact ⟨by decide, rfl⟩)) ?_
      exact e_ireq rfl rfl dX5_place_48 (by grind) rfl
    ·
      refine e_aload_n dX5_place_49 rfl ?_
      refine e_getO 3 kX5 (by first | assumption | exact ⟨by decide, rfl⟩) (by decide) fX5_28 rfl rfl dX5_place_50 ?_
      refine e_iload_n dX5_place_53 rfl ?_
      refine e_V1 oX2_bearerAt lX5_148 ⟨Nat.le_of_ble_eq_true rfl, Nat.le_of_ble_eq_true rfl⟩ dX5_place_54 (by first | assumption | exact ⟨by decide, rfl⟩) (Nat.le_of_ble_eq_true rfl) (c_X2_bearerAt (by first | assumption | exact ⟨by decide, rfl⟩)) ?_
      exact e_ireq rfl rfl dX5_place_57 (by grind) rfl
    ·
      refine e_bipush (v := -2) dX5_place_58 (by decide) ?_
      exact e_ireq rfl rfl dX5_place_60 (by grind) rfl
  ·
    refine e_bipush (v := -2) dX5_place_11 (by decide) ?_
    exact e_ireq rfl rfl dX5_place_13 (by grind) rfl
abbrev sBeg0 (σ : rS) : rS := up (up (up (up σ 0 8 0 (σ 0 8 0 + 1)) 0 7 0 1) 0 9 0 0) 5 8 0 0
abbrev begB (σ : rS) : Prop := σ 0 7 0 = 0 ∧ σ 0 8 0 < 40
theorem c_X5_begin {q n m c : Nat} {σ : rS} (hS : shC σ q n m c) : Ct mX5_begin [.inr (0, 0)] σ (some (.inl (if begB σ then (fiF 3 q (σ 0 8 0) n (sBeg0 σ) m).1 else -1))) (if begB σ then (fiF 3 q (σ 0 8 0) n (sBeg0 σ) m).2 else σ) := by
  refine C_of_E rfl rfl (Nat.le_of_ble_eq_true rfl) ?_
  obtain ⟨hl, h1, hs, hn, hm, hm2, hc, hc2⟩ := hS
  have hq0 : ¬ q = 0 := isO_ne h1 (⟨by decide, rfl⟩ : isO 0 5) (by decide)
  have hq3 : ¬ q = 3 := isO_ne h1 (⟨by decide, rfl⟩ : isO 3 2) (by decide)
  have hq5 : ¬ q = 5 := isO_ne h1 (⟨by decide, rfl⟩ : isO 5 0) (by decide)
  refine e_aload_n dX5_begin_0 rfl ?_
  refine e_getI kX5 (by first | assumption | exact ⟨by decide, rfl⟩) (by decide) fX5_52 rfl dX5_begin_1 ?_
  refine e_if_ne (tgt := 16) dX5_begin_4 (by decide) (fun h4 => ?_) (fun h4 => ?_)
  ·
    refine e_iconst (v := -1) dX5_begin_16 (by decide) ?_
    exact e_ireq rfl rfl dX5_begin_17 (by first | rw [if_neg (by grind)] | rw [if_pos (by grind)]) (by first | rw [if_neg (by grind)] | rw [if_pos (by grind)])
  ·
    refine e_aload_n dX5_begin_7 rfl ?_
    refine e_getI kX5 (by first | assumption | exact ⟨by decide, rfl⟩) (by decide) fX5_56 rfl dX5_begin_8 ?_
    refine e_bipush (v := 40) dX5_begin_11 (by decide) ?_
    refine e_icmp_lt (tgt := 18) dX5_begin_13 (by decide) (fun h13 => ?_) (fun h13 => ?_)
    ·
      refine e_aload_n dX5_begin_18 rfl ?_
      refine e_getI kX5 (by first | assumption | exact ⟨by decide, rfl⟩) (by decide) fX5_56 rfl dX5_begin_19 ?_
      refine e_istore_n dX5_begin_22 (by decide) (Nat.le_of_ble_eq_true rfl) ?_
      refine e_aload_n dX5_begin_23 rfl ?_
      refine e_dup dX5_begin_24 ?_
      refine e_getI kX5 (by first | assumption | exact ⟨by decide, rfl⟩) (by decide) fX5_56 rfl dX5_begin_25 ?_
      refine e_iconst (v := 1) dX5_begin_28 (by decide) ?_
      refine e_iadd dX5_begin_29 ?_
      refine e_putI kX5 (by first | assumption | exact ⟨by decide, rfl⟩) (by decide) fX5_56 rfl rfl rfl dX5_begin_30 ?_
      refine e_aload_n dX5_begin_33 rfl ?_
      refine e_iconst (v := 1) dX5_begin_34 (by decide) ?_
      refine e_putZ kX5 (by first | assumption | exact ⟨by decide, rfl⟩) (by decide) fX5_52 rfl rfl rfl (by first | exact bI_or | simp) dX5_begin_35 ?_
      refine e_aload_n dX5_begin_38 rfl ?_
      refine e_iconst (v := 0) dX5_begin_39 (by decide) ?_
      refine e_putI kX5 (by first | assumption | exact ⟨by decide, rfl⟩) (by decide) fX5_60 rfl rfl rfl dX5_begin_40 ?_
      refine e_aload_n dX5_begin_43 rfl ?_
      refine e_getO 5 kX5 (by first | assumption | exact ⟨by decide, rfl⟩) (by decide) fX5_38 rfl rfl dX5_begin_44 ?_
      refine e_V0v oX0_clear lX5_151 ⟨Nat.le_of_ble_eq_true rfl, Nat.le_of_ble_eq_true rfl⟩ dX5_begin_47 (by first | assumption | exact ⟨by decide, rfl⟩) (Nat.le_of_ble_eq_true rfl) (c_X0_clear (by first | assumption | exact ⟨by decide, rfl⟩)) ?_
      refine e_aload_n dX5_begin_50 rfl ?_
      refine e_getO 3 kX5 (by first | assumption | exact ⟨by decide, rfl⟩) (by decide) fX5_28 rfl rfl dX5_begin_51 ?_
      refine e_aload_n dX5_begin_54 rfl ?_
      refine e_getD q kX5 (by first | assumption | exact ⟨by decide, rfl⟩) (by decide) fX5_45 rfl (by simp [up]; exact hl) dX5_begin_55 ?_
      refine e_iload_n dX5_begin_58 rfl ?_
      refine e_V2 oX2_fillPlaces lX5_152 ⟨Nat.le_of_ble_eq_true rfl, Nat.le_of_ble_eq_true rfl⟩ dX5_begin_59 (by first | assumption | exact ⟨by decide, rfl⟩) (Nat.le_of_ble_eq_true rfl) (c_X2_fillPlaces (n := n) (m := m) (by first | assumption | exact ⟨by decide, rfl⟩) (by first | assumption | exact ⟨by decide, rfl⟩) hq3 (by simp [up]; exact hs) hn (by simp [up, hq0, hq5]; exact hm) hm2) ?_
      exact e_ireq rfl rfl dX5_begin_62 (by first | rw [if_neg (by grind)] | rw [if_pos (by grind)]) (by first | rw [if_neg (by grind)] | rw [if_pos (by grind)])
    ·
      refine e_iconst (v := -1) dX5_begin_16 (by decide) ?_
      exact e_ireq rfl rfl dX5_begin_17 (by first | rw [if_neg (by grind)] | rw [if_pos (by grind)]) (by first | rw [if_neg (by grind)] | rw [if_pos (by grind)])
abbrev pasB (σ : rS) (k : Int32) : Prop := ¬ σ 0 7 0 = 0 ∧ 0 ≤ k ∧ k ≤ 400 ∧ σ 0 9 0 + k ≤ 400
theorem c_X5_pass {k : Int32} {c : Nat} {σ : rS} (hc : σ 5 8 0 = nI c) (hc2 : c ≤ 40) : Ct mX5_pass [.inr (0, 0), .inl k] σ (some (.inl (if pasB σ k then σ 0 9 0 + k else -1))) (if pasB σ k then itS (jbStep 5 3 (σ 0 9 0 + k)) c (up σ 0 9 0 (σ 0 9 0 + k)) else σ) := by
  refine C_of_E rfl rfl (Nat.le_of_ble_eq_true rfl) ?_
  refine e_aload_n dX5_pass_0 rfl ?_
  refine e_getI kX5 (by first | assumption | exact ⟨by decide, rfl⟩) (by decide) fX5_52 rfl dX5_pass_1 ?_
  refine e_if_eq (tgt := 30) dX5_pass_4 (by decide) (fun h4 => ?_) (fun h4 => ?_)
  ·
    refine e_iconst (v := -1) dX5_pass_30 (by decide) ?_
    exact e_ireq rfl rfl dX5_pass_31 (by first | rw [if_neg (by grind)] | (rw [if_pos (by grind), jb_fr (by decide) (by decide), up_self])) (by first | rw [if_neg (by grind)] | rw [if_pos (by grind)])
  ·
    refine e_iload_n dX5_pass_7 rfl ?_
    refine e_if_lt (tgt := 30) dX5_pass_8 (by decide) (fun h8 => ?_) (fun h8 => ?_)
    ·
      refine e_iconst (v := -1) dX5_pass_30 (by decide) ?_
      exact e_ireq rfl rfl dX5_pass_31 (by first | rw [if_neg (by grind)] | (rw [if_pos (by grind), jb_fr (by decide) (by decide), up_self])) (by first | rw [if_neg (by grind)] | rw [if_pos (by grind)])
    ·
      refine e_iload_n dX5_pass_11 rfl ?_
      refine e_sipush (v := 400) dX5_pass_12 (by decide) ?_
      refine e_icmp_gt (tgt := 30) dX5_pass_15 (by decide) (fun h15 => ?_) (fun h15 => ?_)
      ·
        refine e_iconst (v := -1) dX5_pass_30 (by decide) ?_
        exact e_ireq rfl rfl dX5_pass_31 (by first | rw [if_neg (by grind)] | (rw [if_pos (by grind), jb_fr (by decide) (by decide), up_self])) (by first | rw [if_neg (by grind)] | rw [if_pos (by grind)])
      ·
        refine e_aload_n dX5_pass_18 rfl ?_
        refine e_getI kX5 (by first | assumption | exact ⟨by decide, rfl⟩) (by decide) fX5_60 rfl dX5_pass_19 ?_
        refine e_iload_n dX5_pass_22 rfl ?_
        refine e_iadd dX5_pass_23 ?_
        refine e_sipush (v := 400) dX5_pass_24 (by decide) ?_
        refine e_icmp_le (tgt := 32) dX5_pass_27 (by decide) (fun h27 => ?_) (fun h27 => ?_)
        ·
          refine e_aload_n dX5_pass_32 rfl ?_
          refine e_dup dX5_pass_33 ?_
          refine e_getI kX5 (by first | assumption | exact ⟨by decide, rfl⟩) (by decide) fX5_60 rfl dX5_pass_34 ?_
          refine e_iload_n dX5_pass_37 rfl ?_
          refine e_iadd dX5_pass_38 ?_
          refine e_putI kX5 (by first | assumption | exact ⟨by decide, rfl⟩) (by decide) fX5_60 rfl rfl rfl dX5_pass_39 ?_
          refine e_aload_n dX5_pass_42 rfl ?_
          refine e_getO 5 kX5 (by first | assumption | exact ⟨by decide, rfl⟩) (by decide) fX5_38 rfl rfl dX5_pass_43 ?_
          refine e_aload_n dX5_pass_46 rfl ?_
          refine e_getI kX5 (by first | assumption | exact ⟨by decide, rfl⟩) (by decide) fX5_60 rfl dX5_pass_47 ?_
          rw [up_self]
          refine e_aload_n dX5_pass_50 rfl ?_
          refine e_getO 3 kX5 (by first | assumption | exact ⟨by decide, rfl⟩) (by decide) fX5_28 rfl rfl dX5_pass_51 ?_
          refine e_V2v oX0_judgeBeyond lX5_156 ⟨Nat.le_of_ble_eq_true rfl, Nat.le_of_ble_eq_true rfl⟩ dX5_pass_54 (by first | assumption | exact ⟨by decide, rfl⟩) (Nat.le_of_ble_eq_true rfl) (c_X0_judgeBeyond (n := c) (by first | assumption | exact ⟨by decide, rfl⟩) (by first | assumption | exact ⟨by decide, rfl⟩) (by simp [up]; exact hc) hc2) ?_
          refine e_aload_n dX5_pass_57 rfl ?_
          refine e_getI kX5 (by first | assumption | exact ⟨by decide, rfl⟩) (by decide) fX5_60 rfl dX5_pass_58 ?_
          exact e_ireq rfl rfl dX5_pass_61 (by first | rw [if_neg (by grind)] | (rw [if_pos (by grind), jb_fr (by decide) (by decide), up_self])) (by first | rw [if_neg (by grind)] | rw [if_pos (by grind)])
        ·
          refine e_iconst (v := -1) dX5_pass_30 (by decide) ?_
          exact e_ireq rfl rfl dX5_pass_31 (by first | rw [if_neg (by grind)] | (rw [if_pos (by grind), jb_fr (by decide) (by decide), up_self])) (by first | rw [if_neg (by grind)] | rw [if_pos (by grind)])
abbrev chB (σ : rS) (q c : Nat) (x y : Int32) : Prop := ¬ σ 0 7 0 = 0 ∧ σ 5 8 0 < 40 ∧ hasM σ 3 x ∧ hasM σ 3 y ∧ ¬ gM σ 3 4 x (-1) = -1 ∧ (¬ σ 0 7 0 = 0 ∧ fitB σ 3 q y (σ 0 8 0 - 1)) ∧ ¬ enF σ 5 x c 0 = true ∧ ¬ enF σ 5 y c 0 = true
theorem c_X5_challenge {x y : Int32} {q n m c : Nat} {σ : rS} (hS : shC σ q n m c) : Ct mX5_challenge [.inr (0, 0), .inl x, .inl y] σ (some (.inl (if chB σ q c x y then (if borB σ 3 y (gM σ 3 4 x (-1)) then -3 else if 0 ≤ σ 5 8 0 ∧ σ 5 8 0 < 40 then σ 5 8 0 else -1) else -1))) (if chB σ q c x y ∧ ¬ borB σ 3 y (gM σ 3 4 x (-1)) then sEnt σ 5 x y (gM σ 3 4 x (-1)) (σ 0 9 0) (gSet σ q 2) else σ) := by
  refine C_of_E rfl rfl (Nat.le_of_ble_eq_true rfl) ?_
  obtain ⟨hl, h1, hs, hn, hm, hm2, hc, hc2⟩ := hS
  refine e_aload_n dX5_challenge_0 rfl ?_
  refine e_getI kX5 (by first | assumption | exact ⟨by decide, rfl⟩) (by decide) fX5_52 rfl dX5_challenge_1 ?_
  refine e_if_eq (tgt := 39) dX5_challenge_4 (by decide) (fun h4 => ?_) (fun h4 => ?_)
  ·
    refine e_iconst (v := -1) dX5_challenge_39 (by decide) ?_
    exact e_ireq rfl rfl dX5_challenge_40 (by grind) (by first | rw [if_neg (by grind)] | rw [if_pos (by grind)])
  ·
    refine e_aload_n dX5_challenge_7 rfl ?_
    refine e_getO 5 kX5 (by first | assumption | exact ⟨by decide, rfl⟩) (by decide) fX5_38 rfl rfl dX5_challenge_8 ?_
    refine e_V0 oX0_hasRoom lX5_160 ⟨Nat.le_of_ble_eq_true rfl, Nat.le_of_ble_eq_true rfl⟩ dX5_challenge_11 (by first | assumption | exact ⟨by decide, rfl⟩) (Nat.le_of_ble_eq_true rfl) (c_X0_hasRoom (by first | assumption | exact ⟨by decide, rfl⟩)) ?_
    refine e_if_eqB (tgt := 39) dX5_challenge_14 (by decide) (fun h14 => ?_) (fun h14 => ?_)
    ·
      refine e_iconst (v := -1) dX5_challenge_39 (by decide) ?_
      exact e_ireq rfl rfl dX5_challenge_40 (by grind) (by first | rw [if_neg (by grind)] | rw [if_pos (by grind)])
    ·
      refine e_aload_n dX5_challenge_17 rfl ?_
      refine e_getO 3 kX5 (by first | assumption | exact ⟨by decide, rfl⟩) (by decide) fX5_28 rfl rfl dX5_challenge_18 ?_
      refine e_iload_n dX5_challenge_21 rfl ?_
      refine e_V1 oX2_has lX5_101 ⟨Nat.le_of_ble_eq_true rfl, Nat.le_of_ble_eq_true rfl⟩ dX5_challenge_22 (by first | assumption | exact ⟨by decide, rfl⟩) (Nat.le_of_ble_eq_true rfl) (c_X2_has (by first | assumption | exact ⟨by decide, rfl⟩)) ?_
      refine e_if_eqB (tgt := 39) dX5_challenge_25 (by decide) (fun h25 => ?_) (fun h25 => ?_)
      ·
        refine e_iconst (v := -1) dX5_challenge_39 (by decide) ?_
        exact e_ireq rfl rfl dX5_challenge_40 (by grind) (by first | rw [if_neg (by grind)] | rw [if_pos (by grind)])
      ·
        refine e_aload_n dX5_challenge_28 rfl ?_
        refine e_getO 3 kX5 (by first | assumption | exact ⟨by decide, rfl⟩) (by decide) fX5_28 rfl rfl dX5_challenge_29 ?_
        refine e_iload_n dX5_challenge_32 rfl ?_
        refine e_V1 oX2_has lX5_101 ⟨Nat.le_of_ble_eq_true rfl, Nat.le_of_ble_eq_true rfl⟩ dX5_challenge_33 (by first | assumption | exact ⟨by decide, rfl⟩) (Nat.le_of_ble_eq_true rfl) (c_X2_has (by first | assumption | exact ⟨by decide, rfl⟩)) ?_
        refine e_if_neB (tgt := 41) dX5_challenge_36 (by decide) (fun h36 => ?_) (fun h36 => ?_)
        ·
          refine e_aload_n dX5_challenge_41 rfl ?_
          refine e_getO 3 kX5 (by first | assumption | exact ⟨by decide, rfl⟩) (by decide) fX5_28 rfl rfl dX5_challenge_42 ?_
          refine e_iload_n dX5_challenge_45 rfl ?_
          refine e_V1 oX2_placeOf lX5_122 ⟨Nat.le_of_ble_eq_true rfl, Nat.le_of_ble_eq_true rfl⟩ dX5_challenge_46 (by first | assumption | exact ⟨by decide, rfl⟩) (Nat.le_of_ble_eq_true rfl) (c_X2_placeOf (by first | assumption | exact ⟨by decide, rfl⟩)) ?_
          refine e_istore_n dX5_challenge_49 (by decide) (Nat.le_of_ble_eq_true rfl) ?_
          refine e_iload_n dX5_challenge_50 rfl ?_
          refine e_iconst (v := -1) dX5_challenge_51 (by decide) ?_
          refine e_icmp_eq (tgt := 85) dX5_challenge_52 (by decide) (fun h52 => ?_) (fun h52 => ?_)
          ·
            refine e_iconst (v := -1) dX5_challenge_85 (by decide) ?_
            exact e_ireq rfl rfl dX5_challenge_86 (by grind) (by first | rw [if_neg (by grind)] | rw [if_pos (by grind)])
          ·
            refine e_aload_n dX5_challenge_55 rfl ?_
            refine e_iload_n dX5_challenge_56 rfl ?_
            refine e_V1 oX5_isFitNow lX5_131 ⟨Nat.le_of_ble_eq_true rfl, Nat.le_of_ble_eq_true rfl⟩ dX5_challenge_57 (by first | assumption | exact ⟨by decide, rfl⟩) (Nat.le_of_ble_eq_true rfl) (c_X5_isFitNow hl h1) ?_
            refine e_if_eqB (tgt := 85) dX5_challenge_60 (by decide) (fun h60 => ?_) (fun h60 => ?_)
            ·
              refine e_iconst (v := -1) dX5_challenge_85 (by decide) ?_
              exact e_ireq rfl rfl dX5_challenge_86 (by grind) (by first | rw [if_neg (by grind)] | rw [if_pos (by grind)])
            ·
              refine e_aload_n dX5_challenge_63 rfl ?_
              refine e_getO 5 kX5 (by first | assumption | exact ⟨by decide, rfl⟩) (by decide) fX5_38 rfl rfl dX5_challenge_64 ?_
              refine e_iload_n dX5_challenge_67 rfl ?_
              refine e_V1 oX0_engages lX5_163 ⟨Nat.le_of_ble_eq_true rfl, Nat.le_of_ble_eq_true rfl⟩ dX5_challenge_68 (by first | assumption | exact ⟨by decide, rfl⟩) (Nat.le_of_ble_eq_true rfl) (c_X0_engages (n := c) (by first | assumption | exact ⟨by decide, rfl⟩) hc hc2) ?_
              refine e_if_neB (tgt := 85) dX5_challenge_71 (by decide) (fun h71 => ?_) (fun h71 => ?_)
              ·
                refine e_iconst (v := -1) dX5_challenge_85 (by decide) ?_
                exact e_ireq rfl rfl dX5_challenge_86 (by grind) (by first | rw [if_neg (by grind)] | rw [if_pos (by grind)])
              ·
                refine e_aload_n dX5_challenge_74 rfl ?_
                refine e_getO 5 kX5 (by first | assumption | exact ⟨by decide, rfl⟩) (by decide) fX5_38 rfl rfl dX5_challenge_75 ?_
                refine e_iload_n dX5_challenge_78 rfl ?_
                refine e_V1 oX0_engages lX5_163 ⟨Nat.le_of_ble_eq_true rfl, Nat.le_of_ble_eq_true rfl⟩ dX5_challenge_79 (by first | assumption | exact ⟨by decide, rfl⟩) (Nat.le_of_ble_eq_true rfl) (c_X0_engages (n := c) (by first | assumption | exact ⟨by decide, rfl⟩) hc hc2) ?_
                refine e_if_eqB (tgt := 87) dX5_challenge_82 (by decide) (fun h82 => ?_) (fun h82 => ?_)
                ·
                  refine e_aload_n dX5_challenge_87 rfl ?_
                  refine e_getO 3 kX5 (by first | assumption | exact ⟨by decide, rfl⟩) (by decide) fX5_28 rfl rfl dX5_challenge_88 ?_
                  refine e_iload_n dX5_challenge_91 rfl ?_
                  refine e_iload_n dX5_challenge_92 rfl ?_
                  refine e_V2 oX2_hasBorne lX5_166 ⟨Nat.le_of_ble_eq_true rfl, Nat.le_of_ble_eq_true rfl⟩ dX5_challenge_93 (by first | assumption | exact ⟨by decide, rfl⟩) (Nat.le_of_ble_eq_true rfl) (c_X2_hasBorne (by first | assumption | exact ⟨by decide, rfl⟩)) ?_
                  refine e_if_eqB (tgt := 102) dX5_challenge_96 (by decide) (fun h96 => ?_) (fun h96 => ?_)
                  ·
                    refine e_aload_n dX5_challenge_102 rfl ?_
                    refine e_getO 5 kX5 (by first | assumption | exact ⟨by decide, rfl⟩) (by decide) fX5_38 rfl rfl dX5_challenge_103 ?_
                    refine e_iload_n dX5_challenge_106 rfl ?_
                    refine e_iload_n dX5_challenge_107 rfl ?_
                    refine e_iload_n dX5_challenge_108 rfl ?_
                    refine e_aload_n dX5_challenge_109 rfl ?_
                    refine e_getI kX5 (by first | assumption | exact ⟨by decide, rfl⟩) (by decide) fX5_60 rfl dX5_challenge_110 ?_
                    refine e_aload_n dX5_challenge_113 rfl ?_
                    refine e_getD q kX5 (by first | assumption | exact ⟨by decide, rfl⟩) (by decide) fX5_45 rfl hl dX5_challenge_114 ?_
                    refine e_iconst (v := 2) dX5_challenge_117 (by decide) ?_
                    refine e_V1 oX3_setting lX5_170 ⟨Nat.le_of_ble_eq_true rfl, Nat.le_of_ble_eq_true rfl⟩ dX5_challenge_118 (by first | assumption | exact ⟨by decide, rfl⟩) (Nat.le_of_ble_eq_true rfl) (c_X3_setting (by first | assumption | exact ⟨by decide, rfl⟩)) ?_
                    refine e_V5 oX0_enter lX5_173 ⟨Nat.le_of_ble_eq_true rfl, Nat.le_of_ble_eq_true rfl⟩ dX5_challenge_121 (by first | assumption | exact ⟨by decide, rfl⟩) (Nat.le_of_ble_eq_true rfl) (c_X0_enter (by first | assumption | exact ⟨by decide, rfl⟩)) ?_
                    exact e_ireq rfl rfl dX5_challenge_124 (by grind) (by first | rw [if_neg (by grind)] | rw [if_pos (by grind)])
                  ·
                    refine e_bipush (v := -3) dX5_challenge_99 (by decide) ?_
                    exact e_ireq rfl rfl dX5_challenge_101 (by grind) (by first | rw [if_neg (by grind)] | rw [if_pos (by grind)])
                ·
                  refine e_iconst (v := -1) dX5_challenge_85 (by decide) ?_
                  exact e_ireq rfl rfl dX5_challenge_86 (by grind) (by first | rw [if_neg (by grind)] | rw [if_pos (by grind)])
        ·
          refine e_iconst (v := -1) dX5_challenge_39 (by decide) ?_
          exact e_ireq rfl rfl dX5_challenge_40 (by grind) (by first | rw [if_neg (by grind)] | rw [if_pos (by grind)])
theorem c_X5_answer {k b : Int32} {q : Nat} {σ : rS} (hl : (σ 0 5 0).toNatClampNeg = q) (h1 : isO q 3) : Ct mX5_answer [.inr (0, 0), .inl k, .inl b] σ (some (.inl (bI (gC σ 5 4 k (-1) = 0)))) (if gC σ 5 4 k (-1) = 0 then (if b = 0 then sChg σ 5 k (σ 0 9 0 + gSet σ q 3) else sTake σ 5 3 k) else σ) := by
  refine C_of_E rfl rfl (Nat.le_of_ble_eq_true rfl) ?_
  refine e_aload_n dX5_answer_0 rfl ?_
  refine e_getO 5 kX5 (by first | assumption | exact ⟨by decide, rfl⟩) (by decide) fX5_38 rfl rfl dX5_answer_1 ?_
  refine e_iload_n dX5_answer_4 rfl ?_
  refine e_V1 oX0_standingOf lX5_176 ⟨Nat.le_of_ble_eq_true rfl, Nat.le_of_ble_eq_true rfl⟩ dX5_answer_5 (by first | assumption | exact ⟨by decide, rfl⟩) (Nat.le_of_ble_eq_true rfl) (c_X0_standingOf (by first | assumption | exact ⟨by decide, rfl⟩)) ?_
  refine e_if_eq (tgt := 13) dX5_answer_8 (by decide) (fun h8 => ?_) (fun h8 => ?_)
  ·
    refine e_iload_n dX5_answer_13 rfl ?_
    refine e_if_eq (tgt := 32) dX5_answer_14 (by decide) (fun h14 => ?_) (fun h14 => ?_)
    ·
      refine e_aload_n dX5_answer_32 rfl ?_
      refine e_getO 5 kX5 (by first | assumption | exact ⟨by decide, rfl⟩) (by decide) fX5_38 rfl rfl dX5_answer_33 ?_
      refine e_iload_n dX5_answer_36 rfl ?_
      refine e_aload_n dX5_answer_37 rfl ?_
      refine e_getI kX5 (by first | assumption | exact ⟨by decide, rfl⟩) (by decide) fX5_60 rfl dX5_answer_38 ?_
      refine e_aload_n dX5_answer_41 rfl ?_
      refine e_getD q kX5 (by first | assumption | exact ⟨by decide, rfl⟩) (by decide) fX5_45 rfl hl dX5_answer_42 ?_
      refine e_iconst (v := 3) dX5_answer_45 (by decide) ?_
      refine e_V1 oX3_setting lX5_170 ⟨Nat.le_of_ble_eq_true rfl, Nat.le_of_ble_eq_true rfl⟩ dX5_answer_46 (by first | assumption | exact ⟨by decide, rfl⟩) (Nat.le_of_ble_eq_true rfl) (c_X3_setting (by first | assumption | exact ⟨by decide, rfl⟩)) ?_
      refine e_iadd dX5_answer_49 ?_
      refine e_V2v oX0_change lX5_182 ⟨Nat.le_of_ble_eq_true rfl, Nat.le_of_ble_eq_true rfl⟩ dX5_answer_50 (by first | assumption | exact ⟨by decide, rfl⟩) (Nat.le_of_ble_eq_true rfl) (c_X0_change (by first | assumption | exact ⟨by decide, rfl⟩)) ?_
      refine e_iconst (v := 1) dX5_answer_53 (by decide) ?_
      exact e_ret1 rfl dX5_answer_54 (by grind) (by first | rw [if_neg (by grind)] | (rw [if_pos (by grind)]; first | rw [if_neg (by grind)] | rw [if_pos (by grind)]))
    ·
      refine e_aload_n dX5_answer_17 rfl ?_
      refine e_getO 5 kX5 (by first | assumption | exact ⟨by decide, rfl⟩) (by decide) fX5_38 rfl rfl dX5_answer_18 ?_
      refine e_iload_n dX5_answer_21 rfl ?_
      refine e_aload_n dX5_answer_22 rfl ?_
      refine e_getO 3 kX5 (by first | assumption | exact ⟨by decide, rfl⟩) (by decide) fX5_28 rfl rfl dX5_answer_23 ?_
      refine e_V2v oX0_take lX5_179 ⟨Nat.le_of_ble_eq_true rfl, Nat.le_of_ble_eq_true rfl⟩ dX5_answer_26 (by first | assumption | exact ⟨by decide, rfl⟩) (Nat.le_of_ble_eq_true rfl) (c_X0_take (by first | assumption | exact ⟨by decide, rfl⟩) (by first | assumption | exact ⟨by decide, rfl⟩)) ?_
      refine e_goto (tgt := 53) dX5_answer_29 (by decide) ?_
      refine e_iconst (v := 1) dX5_answer_53 (by decide) ?_
      exact e_ret1 rfl dX5_answer_54 (by grind) (by first | rw [if_neg (by grind)] | (rw [if_pos (by grind)]; first | rw [if_neg (by grind)] | rw [if_pos (by grind)]))
  ·
    refine e_iconst (v := 0) dX5_answer_11 (by decide) ?_
    exact e_ret0 rfl dX5_answer_12 (by grind) (by first | rw [if_neg (by grind)] | (rw [if_pos (by grind)]; first | rw [if_neg (by grind)] | rw [if_pos (by grind)]))
abbrev swB (σ : rS) (k b : Int32) : Prop := gC σ 5 4 k (-1) = 1 ∧ ¬ (hasC σ 5 k ∧ ((¬ b = 0 ∧ ¬ σ 5 6 k = 0) ∨ (b = 0 ∧ ¬ σ 5 7 k = 0)))
theorem c_X5_swear {k b : Int32} {σ : rS}  : Ct mX5_swear [.inr (0, 0), .inl k, .inl b] σ (some (.inl (bI (swB σ k b)))) (if swB σ k b then sOath σ 5 3 k b else σ) := by
  refine C_of_E rfl rfl (Nat.le_of_ble_eq_true rfl) ?_
  refine e_aload_n dX5_swear_0 rfl ?_
  refine e_getO 5 kX5 (by first | assumption | exact ⟨by decide, rfl⟩) (by decide) fX5_38 rfl rfl dX5_swear_1 ?_
  refine e_iload_n dX5_swear_4 rfl ?_
  refine e_V1 oX0_standingOf lX5_176 ⟨Nat.le_of_ble_eq_true rfl, Nat.le_of_ble_eq_true rfl⟩ dX5_swear_5 (by first | assumption | exact ⟨by decide, rfl⟩) (Nat.le_of_ble_eq_true rfl) (c_X0_standingOf (by first | assumption | exact ⟨by decide, rfl⟩)) ?_
  refine e_iconst (v := 1) dX5_swear_8 (by decide) ?_
  refine e_icmp_ne (tgt := 24) dX5_swear_9 (by decide) (fun h9 => ?_) (fun h9 => ?_)
  ·
    refine e_iconst (v := 0) dX5_swear_24 (by decide) ?_
    exact e_ret0 rfl dX5_swear_25 (by grind) (by first | rw [if_neg (by grind)] | rw [if_pos (by grind)])
  ·
    refine e_aload_n dX5_swear_12 rfl ?_
    refine e_getO 5 kX5 (by first | assumption | exact ⟨by decide, rfl⟩) (by decide) fX5_38 rfl rfl dX5_swear_13 ?_
    refine e_iload_n dX5_swear_16 rfl ?_
    refine e_iload_n dX5_swear_17 rfl ?_
    refine e_V2 oX0_hasSworn lX5_185 ⟨Nat.le_of_ble_eq_true rfl, Nat.le_of_ble_eq_true rfl⟩ dX5_swear_18 (by first | assumption | exact ⟨by decide, rfl⟩) (Nat.le_of_ble_eq_true rfl) (c_X0_hasSworn (by first | assumption | exact ⟨by decide, rfl⟩)) ?_
    refine e_if_eqB (tgt := 26) dX5_swear_21 (by decide) (fun h21 => ?_) (fun h21 => ?_)
    ·
      refine e_aload_n dX5_swear_26 rfl ?_
      refine e_getO 5 kX5 (by first | assumption | exact ⟨by decide, rfl⟩) (by decide) fX5_38 rfl rfl dX5_swear_27 ?_
      refine e_iload_n dX5_swear_30 rfl ?_
      refine e_iload_n dX5_swear_31 rfl ?_
      refine e_aload_n dX5_swear_32 rfl ?_
      refine e_getO 3 kX5 (by first | assumption | exact ⟨by decide, rfl⟩) (by decide) fX5_28 rfl rfl dX5_swear_33 ?_
      refine e_V3v oX0_hearOath lX5_189 ⟨Nat.le_of_ble_eq_true rfl, Nat.le_of_ble_eq_true rfl⟩ dX5_swear_36 (by first | assumption | exact ⟨by decide, rfl⟩) (Nat.le_of_ble_eq_true rfl) (c_X0_hearOath (by first | assumption | exact ⟨by decide, rfl⟩) (by first | assumption | exact ⟨by decide, rfl⟩)) ?_
      refine e_iconst (v := 1) dX5_swear_39 (by decide) ?_
      exact e_ret1 rfl dX5_swear_40 (by grind) (by first | rw [if_neg (by grind)] | rw [if_pos (by grind)])
    ·
      refine e_iconst (v := 0) dX5_swear_24 (by decide) ?_
      exact e_ret0 rfl dX5_swear_25 (by grind) (by first | rw [if_neg (by grind)] | rw [if_pos (by grind)])
theorem c_X5_told {k w : Int32} {σ : rS}  : Ct mX5_told [.inr (0, 0), .inl k, .inl w] σ (some (.inl (if w = 0 then gC σ 5 0 k (-1) else if w = 1 then gC σ 5 1 k (-1) else if w = 2 then gC σ 5 2 k (-1) else if w = 3 then gC σ 5 3 k (-1) else if w = 4 then gC σ 5 4 k (-1) else if w = 5 then (if runB σ 5 k then σ 5 5 k else -1) else -1))) (σ) := by
  refine C_of_E rfl rfl (Nat.le_of_ble_eq_true rfl) ?_
  refine e_iload_n dX5_told_0 rfl ?_
  refine e_tab6 40 49 58 67 76 85 94 dX5_told_1 (by decide) (by decide) (by decide) (by decide) (by decide) (by decide) (by decide) (fun h1 => ?_) (fun h1 => ?_) (fun h1 => ?_) (fun h1 => ?_) (fun h1 => ?_) (fun h1 => ?_) (fun h1 => ?_)
  ·
    refine e_aload_n dX5_told_40 rfl ?_
    refine e_getO 5 kX5 (by first | assumption | exact ⟨by decide, rfl⟩) (by decide) fX5_38 rfl rfl dX5_told_41 ?_
    refine e_iload_n dX5_told_44 rfl ?_
    refine e_V1 oX0_sayerOf lX5_193 ⟨Nat.le_of_ble_eq_true rfl, Nat.le_of_ble_eq_true rfl⟩ dX5_told_45 (by first | assumption | exact ⟨by decide, rfl⟩) (Nat.le_of_ble_eq_true rfl) (c_X0_sayerOf (by first | assumption | exact ⟨by decide, rfl⟩)) ?_
    exact e_ireq rfl rfl dX5_told_48 (by grind) rfl
  ·
    refine e_aload_n dX5_told_49 rfl ?_
    refine e_getO 5 kX5 (by first | assumption | exact ⟨by decide, rfl⟩) (by decide) fX5_38 rfl rfl dX5_told_50 ?_
    refine e_iload_n dX5_told_53 rfl ?_
    refine e_V1 oX0_hearerOf lX5_196 ⟨Nat.le_of_ble_eq_true rfl, Nat.le_of_ble_eq_true rfl⟩ dX5_told_54 (by first | assumption | exact ⟨by decide, rfl⟩) (Nat.le_of_ble_eq_true rfl) (c_X0_hearerOf (by first | assumption | exact ⟨by decide, rfl⟩)) ?_
    exact e_ireq rfl rfl dX5_told_57 (by grind) rfl
  ·
    refine e_aload_n dX5_told_58 rfl ?_
    refine e_getO 5 kX5 (by first | assumption | exact ⟨by decide, rfl⟩) (by decide) fX5_38 rfl rfl dX5_told_59 ?_
    refine e_iload_n dX5_told_62 rfl ?_
    refine e_V1 oX0_placeIn lX5_199 ⟨Nat.le_of_ble_eq_true rfl, Nat.le_of_ble_eq_true rfl⟩ dX5_told_63 (by first | assumption | exact ⟨by decide, rfl⟩) (Nat.le_of_ble_eq_true rfl) (c_X0_placeIn (by first | assumption | exact ⟨by decide, rfl⟩)) ?_
    exact e_ireq rfl rfl dX5_told_66 (by grind) rfl
  ·
    refine e_aload_n dX5_told_67 rfl ?_
    refine e_getO 5 kX5 (by first | assumption | exact ⟨by decide, rfl⟩) (by decide) fX5_38 rfl rfl dX5_told_68 ?_
    refine e_iload_n dX5_told_71 rfl ?_
    refine e_V1 oX0_dayOf lX5_202 ⟨Nat.le_of_ble_eq_true rfl, Nat.le_of_ble_eq_true rfl⟩ dX5_told_72 (by first | assumption | exact ⟨by decide, rfl⟩) (Nat.le_of_ble_eq_true rfl) (c_X0_dayOf (by first | assumption | exact ⟨by decide, rfl⟩)) ?_
    exact e_ireq rfl rfl dX5_told_75 (by grind) rfl
  ·
    refine e_aload_n dX5_told_76 rfl ?_
    refine e_getO 5 kX5 (by first | assumption | exact ⟨by decide, rfl⟩) (by decide) fX5_38 rfl rfl dX5_told_77 ?_
    refine e_iload_n dX5_told_80 rfl ?_
    refine e_V1 oX0_standingOf lX5_176 ⟨Nat.le_of_ble_eq_true rfl, Nat.le_of_ble_eq_true rfl⟩ dX5_told_81 (by first | assumption | exact ⟨by decide, rfl⟩) (Nat.le_of_ble_eq_true rfl) (c_X0_standingOf (by first | assumption | exact ⟨by decide, rfl⟩)) ?_
    exact e_ireq rfl rfl dX5_told_84 (by grind) rfl
  ·
    refine e_aload_n dX5_told_85 rfl ?_
    refine e_getO 5 kX5 (by first | assumption | exact ⟨by decide, rfl⟩) (by decide) fX5_38 rfl rfl dX5_told_86 ?_
    refine e_iload_n dX5_told_89 rfl ?_
    refine e_V1 oX0_lastDayOf lX5_205 ⟨Nat.le_of_ble_eq_true rfl, Nat.le_of_ble_eq_true rfl⟩ dX5_told_90 (by first | assumption | exact ⟨by decide, rfl⟩) (Nat.le_of_ble_eq_true rfl) (c_X0_lastDayOf (by first | assumption | exact ⟨by decide, rfl⟩)) ?_
    exact e_ireq rfl rfl dX5_told_93 (by grind) rfl
  ·
    refine e_iconst (v := -1) dX5_told_94 (by decide) ?_
    exact e_ireq rfl rfl dX5_told_95 (by grind) rfl
abbrev seS (o q : Nat) (year : Int32) (m : Nat) (σ : rS) : rS := sLd2 o 24 (sLd1 o 12 (seF o q year σ m).2)
theorem ld1_fr {σ : rS} {o o' k' : Nat} {i' : Int32} (h : ¬ (o' = o ∧ k' = 4)) : ∀ j, sLd1 o j σ o' k' i' = σ o' k' i' := by
  intro j
  induction j with
  | zero => rfl
  | succ j ih => show up (sLd1 o j σ) o 4 (nI j) (-1) o' k' i' = _; simp only [up]; grind
theorem ld2_fr {σ : rS} {o o' k' : Nat} {i' : Int32} (h : ¬ (o' = o ∧ k' = 5)) : ∀ j, sLd2 o j σ o' k' i' = σ o' k' i' := by
  intro j
  induction j with
  | zero => rfl
  | succ j ih => show up (sLd2 o j σ) o 5 (nI j) (-1) o' k' i' = _; simp only [up]; grind
theorem seS_fr {σ : rS} {o q m o' k' : Nat} {year i' : Int32} (h : ¬ (o' = o ∧ (k' = 0 ∨ k' = 2 ∨ k' = 3 ∨ k' = 4 ∨ k' = 5))) : seS o q year m σ o' k' i' = σ o' k' i' := by
  unfold seS
  rw [ld2_fr (by grind), ld1_fr (by grind), seF_fr (by grind)]
abbrev sEnd1 (c : Nat) (σ : rS) : rS := itS (jaStep 5 3) c σ
theorem c_X5_end {q n m c : Nat} {σ : rS} (hS : shC σ q n m c) : Ct mX5_end [.inr (0, 0)] σ (some (.inl (if ¬ σ 0 7 0 = 0 then (seF 3 q (σ 0 8 0 - 1) (sEnd1 c σ) m).1 else -1))) (if ¬ σ 0 7 0 = 0 then up (up (seS 3 q (σ 0 8 0 - 1) m (sEnd1 c σ)) 0 10 0 (σ 0 10 0 + (seF 3 q (σ 0 8 0 - 1) (sEnd1 c σ) m).1)) 0 7 0 0 else σ) := by
  refine C_of_E rfl rfl (Nat.le_of_ble_eq_true rfl) ?_
  obtain ⟨hl, h1, hs, hn, hm, hm2, hc, hc2⟩ := hS
  have hq3 : ¬ q = 3 := isO_ne h1 (⟨by decide, rfl⟩ : isO 3 2) (by decide)
  have hq5 : ¬ q = 5 := isO_ne h1 (⟨by decide, rfl⟩ : isO 5 0) (by decide)
  refine e_aload_n dX5_end_0 rfl ?_
  refine e_getI kX5 (by first | assumption | exact ⟨by decide, rfl⟩) (by decide) fX5_52 rfl dX5_end_1 ?_
  refine e_if_ne (tgt := 9) dX5_end_4 (by decide) (fun h4 => ?_) (fun h4 => ?_)
  ·
    refine e_aload_n dX5_end_9 rfl ?_
    refine e_getO 5 kX5 (by first | assumption | exact ⟨by decide, rfl⟩) (by decide) fX5_38 rfl rfl dX5_end_10 ?_
    refine e_aload_n dX5_end_13 rfl ?_
    refine e_getO 3 kX5 (by first | assumption | exact ⟨by decide, rfl⟩) (by decide) fX5_28 rfl rfl dX5_end_14 ?_
    refine e_V1v oX0_judgeAll lX5_208 ⟨Nat.le_of_ble_eq_true rfl, Nat.le_of_ble_eq_true rfl⟩ dX5_end_17 (by first | assumption | exact ⟨by decide, rfl⟩) (Nat.le_of_ble_eq_true rfl) (c_X0_judgeAll (n := c) (by first | assumption | exact ⟨by decide, rfl⟩) (by first | assumption | exact ⟨by decide, rfl⟩) hc hc2) ?_
    refine e_aload_n dX5_end_20 rfl ?_
    refine e_getO 3 kX5 (by first | assumption | exact ⟨by decide, rfl⟩) (by decide) fX5_28 rfl rfl dX5_end_21 ?_
    refine e_aload_n dX5_end_24 rfl ?_
    refine e_getD q kX5 (by first | assumption | exact ⟨by decide, rfl⟩) (by decide) fX5_45 rfl (by rw [ja_fr (by decide) (by decide)]; exact hl) dX5_end_25 ?_
    refine e_aload_n dX5_end_28 rfl ?_
    refine e_getI kX5 (by first | assumption | exact ⟨by decide, rfl⟩) (by decide) fX5_56 rfl dX5_end_29 ?_
    rw [ja_fr (by decide) (by decide)]
    refine e_iconst (v := 1) dX5_end_32 (by decide) ?_
    refine e_isub dX5_end_33 ?_
    refine e_V2 oX2_settle lX5_212 ⟨Nat.le_of_ble_eq_true rfl, Nat.le_of_ble_eq_true rfl⟩ dX5_end_34 (by first | assumption | exact ⟨by decide, rfl⟩) (Nat.le_of_ble_eq_true rfl) (c_X2_settle (m := m) (by first | assumption | exact ⟨by decide, rfl⟩) (by first | assumption | exact ⟨by decide, rfl⟩) hq3 (by rw [ja_fr (by grind) (by grind)]; exact hm) hm2) ?_
    refine e_istore_n dX5_end_37 (by decide) (Nat.le_of_ble_eq_true rfl) ?_
    refine e_aload_n dX5_end_38 rfl ?_
    refine e_dup dX5_end_39 ?_
    refine e_getI kX5 (by first | assumption | exact ⟨by decide, rfl⟩) (by decide) fX5_63 rfl dX5_end_40 ?_
    rw [ld2_fr (by decide), ld1_fr (by decide), seF_fr (by decide), ja_fr (by decide) (by decide)]
    refine e_iload_n dX5_end_43 rfl ?_
    refine e_iadd dX5_end_44 ?_
    refine e_putI kX5 (by first | assumption | exact ⟨by decide, rfl⟩) (by decide) fX5_63 rfl rfl rfl dX5_end_45 ?_
    refine e_aload_n dX5_end_48 rfl ?_
    refine e_iconst (v := 0) dX5_end_49 (by decide) ?_
    refine e_putZ kX5 (by first | assumption | exact ⟨by decide, rfl⟩) (by decide) fX5_52 rfl rfl rfl (by first | exact bI_or | simp) dX5_end_50 ?_
    refine e_iload_n dX5_end_53 rfl ?_
    exact e_ireq rfl rfl dX5_end_54 (by first | rw [if_neg (by grind)] | rw [if_pos (by grind)]) (by first | rw [if_neg (by grind)] | rw [if_pos (by grind)])
  ·
    refine e_iconst (v := -1) dX5_end_7 (by decide) ?_
    exact e_ireq rfl rfl dX5_end_8 (by first | rw [if_neg (by grind)] | rw [if_pos (by grind)]) (by first | rw [if_neg (by grind)] | rw [if_pos (by grind)])
theorem c_X5_part {p : Int32} {q : Nat} {σ : rS} (hl : (σ 0 5 0).toNatClampNeg = q) (h1 : isO q 3) : Ct mX5_part [.inr (0, 0), .inl p] σ (some (.inl (if hasP σ q p ∧ ¬ gB σ 3 p = -1 then gPart σ q (gBu σ q p) (paF σ 3 q p p.toNatClampNeg) else -1))) (σ) := by
  refine C_of_E rfl rfl (Nat.le_of_ble_eq_true rfl) ?_
  refine e_aload_n dX5_part_0 rfl ?_
  refine e_getD q kX5 (by first | assumption | exact ⟨by decide, rfl⟩) (by decide) fX5_45 rfl hl dX5_part_1 ?_
  refine e_iload_n dX5_part_4 rfl ?_
  refine e_V1 oX3_hasPlace lX5_142 ⟨Nat.le_of_ble_eq_true rfl, Nat.le_of_ble_eq_true rfl⟩ dX5_part_5 (by first | assumption | exact ⟨by decide, rfl⟩) (Nat.le_of_ble_eq_true rfl) (c_X3_hasPlace (by first | assumption | exact ⟨by decide, rfl⟩)) ?_
  refine e_if_eqB (tgt := 23) dX5_part_8 (by decide) (fun h8 => ?_) (fun h8 => ?_)
  ·
    refine e_iconst (v := -1) dX5_part_23 (by decide) ?_
    exact e_ireq rfl rfl dX5_part_24 (by first | rw [if_neg (by grind)] | rw [if_pos (by grind)]) rfl
  ·
    refine e_aload_n dX5_part_11 rfl ?_
    refine e_getO 3 kX5 (by first | assumption | exact ⟨by decide, rfl⟩) (by decide) fX5_28 rfl rfl dX5_part_12 ?_
    refine e_iload_n dX5_part_15 rfl ?_
    refine e_V1 oX2_bearerAt lX5_148 ⟨Nat.le_of_ble_eq_true rfl, Nat.le_of_ble_eq_true rfl⟩ dX5_part_16 (by first | assumption | exact ⟨by decide, rfl⟩) (Nat.le_of_ble_eq_true rfl) (c_X2_bearerAt (by first | assumption | exact ⟨by decide, rfl⟩)) ?_
    refine e_iconst (v := -1) dX5_part_19 (by decide) ?_
    refine e_icmp_ne (tgt := 25) dX5_part_20 (by decide) (fun h20 => ?_) (fun h20 => ?_)
    ·
      refine e_aload_n dX5_part_25 rfl ?_
      refine e_getO 3 kX5 (by first | assumption | exact ⟨by decide, rfl⟩) (by decide) fX5_28 rfl rfl dX5_part_26 ?_
      refine e_aload_n dX5_part_29 rfl ?_
      refine e_getD q kX5 (by first | assumption | exact ⟨by decide, rfl⟩) (by decide) fX5_45 rfl hl dX5_part_30 ?_
      refine e_iload_n dX5_part_33 rfl ?_
      refine e_V2 oX2_partAt lX5_215 ⟨Nat.le_of_ble_eq_true rfl, Nat.le_of_ble_eq_true rfl⟩ dX5_part_34 (by first | assumption | exact ⟨by decide, rfl⟩) (Nat.le_of_ble_eq_true rfl) (c_X2_partAt (n := p.toNatClampNeg) (by first | assumption | exact ⟨by decide, rfl⟩) (by first | assumption | exact ⟨by decide, rfl⟩) (nI_cl (by grind)).symm (cl_le 24 (by decide) (by grind))) ?_
      exact e_ireq rfl rfl dX5_part_37 (by first | rw [if_neg (by grind)] | rw [if_pos (by grind)]) rfl
    ·
      refine e_iconst (v := -1) dX5_part_23 (by decide) ?_
      exact e_ireq rfl rfl dX5_part_24 (by first | rw [if_neg (by grind)] | rw [if_pos (by grind)]) rfl
abbrev gaB (σ : rS) (x y : Int32) : Prop := hasM σ 3 x ∧ hasM σ 3 y ∧ ¬ x = y ∧ ¬ gM σ 3 4 x (-1) = -1
abbrev woM (σ : rS) (x : Int32) : Int32 := gM σ 3 0 x 0 + gM σ 3 1 x 0
abbrev gaD (σ : rS) (q : Nat) (x : Int32) : Int32 := gPart σ q (gBu σ q (gM σ 3 4 x (-1))) (paF σ 3 q (gM σ 3 4 x (-1)) (gM σ 3 4 x (-1)).toNatClampNeg)
theorem c_X5_gain {x y : Int32} {q : Nat} {σ : rS} (hl : (σ 0 5 0).toNatClampNeg = q) (h1 : isO q 3) (hp : ∀ x, hasM σ 3 x → σ 3 4 x = -1 ∨ isPl (σ 3 4 x)) : Ct mX5_gain [.inr (0, 0), .inl x, .inl y] σ (some (.inl (if gaB σ x y then ((if woM σ x ≤ woM σ y - gaD σ q x then woM σ x else woM σ y - gaD σ q x) - (woM σ x - gaD σ q x)) else -2147483648))) (σ) := by
  refine C_of_E rfl rfl (Nat.le_of_ble_eq_true rfl) ?_
  refine e_aload_n dX5_gain_0 rfl ?_
  refine e_getO 3 kX5 (by first | assumption | exact ⟨by decide, rfl⟩) (by decide) fX5_28 rfl rfl dX5_gain_1 ?_
  refine e_iload_n dX5_gain_4 rfl ?_
  refine e_V1 oX2_has lX5_101 ⟨Nat.le_of_ble_eq_true rfl, Nat.le_of_ble_eq_true rfl⟩ dX5_gain_5 (by first | assumption | exact ⟨by decide, rfl⟩) (Nat.le_of_ble_eq_true rfl) (c_X2_has (by first | assumption | exact ⟨by decide, rfl⟩)) ?_
  refine e_if_eqB (tgt := 39) dX5_gain_8 (by decide) (fun h8 => ?_) (fun h8 => ?_)
  ·
    refine e_ldc dX5_gain_39 kX5_220 ?_
    exact e_ireq rfl rfl dX5_gain_41 (by grind) rfl
  ·
    refine e_aload_n dX5_gain_11 rfl ?_
    refine e_getO 3 kX5 (by first | assumption | exact ⟨by decide, rfl⟩) (by decide) fX5_28 rfl rfl dX5_gain_12 ?_
    refine e_iload_n dX5_gain_15 rfl ?_
    refine e_V1 oX2_has lX5_101 ⟨Nat.le_of_ble_eq_true rfl, Nat.le_of_ble_eq_true rfl⟩ dX5_gain_16 (by first | assumption | exact ⟨by decide, rfl⟩) (Nat.le_of_ble_eq_true rfl) (c_X2_has (by first | assumption | exact ⟨by decide, rfl⟩)) ?_
    refine e_if_eqB (tgt := 39) dX5_gain_19 (by decide) (fun h19 => ?_) (fun h19 => ?_)
    ·
      refine e_ldc dX5_gain_39 kX5_220 ?_
      exact e_ireq rfl rfl dX5_gain_41 (by grind) rfl
    ·
      refine e_iload_n dX5_gain_22 rfl ?_
      refine e_iload_n dX5_gain_23 rfl ?_
      refine e_icmp_eq (tgt := 39) dX5_gain_24 (by decide) (fun h24 => ?_) (fun h24 => ?_)
      ·
        refine e_ldc dX5_gain_39 kX5_220 ?_
        exact e_ireq rfl rfl dX5_gain_41 (by grind) rfl
      ·
        refine e_aload_n dX5_gain_27 rfl ?_
        refine e_getO 3 kX5 (by first | assumption | exact ⟨by decide, rfl⟩) (by decide) fX5_28 rfl rfl dX5_gain_28 ?_
        refine e_iload_n dX5_gain_31 rfl ?_
        refine e_V1 oX2_placeOf lX5_122 ⟨Nat.le_of_ble_eq_true rfl, Nat.le_of_ble_eq_true rfl⟩ dX5_gain_32 (by first | assumption | exact ⟨by decide, rfl⟩) (Nat.le_of_ble_eq_true rfl) (c_X2_placeOf (by first | assumption | exact ⟨by decide, rfl⟩)) ?_
        refine e_iconst (v := -1) dX5_gain_35 (by decide) ?_
        refine e_icmp_ne (tgt := 42) dX5_gain_36 (by decide) (fun h36 => ?_) (fun h36 => ?_)
        ·
          have hpx := hp x (by grind)
          refine e_aload_n dX5_gain_42 rfl ?_
          refine e_getO 3 kX5 (by first | assumption | exact ⟨by decide, rfl⟩) (by decide) fX5_28 rfl rfl dX5_gain_43 ?_
          refine e_aload_n dX5_gain_46 rfl ?_
          refine e_getD q kX5 (by first | assumption | exact ⟨by decide, rfl⟩) (by decide) fX5_45 rfl hl dX5_gain_47 ?_
          refine e_aload_n dX5_gain_50 rfl ?_
          refine e_getO 3 kX5 (by first | assumption | exact ⟨by decide, rfl⟩) (by decide) fX5_28 rfl rfl dX5_gain_51 ?_
          refine e_iload_n dX5_gain_54 rfl ?_
          refine e_V1 oX2_placeOf lX5_122 ⟨Nat.le_of_ble_eq_true rfl, Nat.le_of_ble_eq_true rfl⟩ dX5_gain_55 (by first | assumption | exact ⟨by decide, rfl⟩) (Nat.le_of_ble_eq_true rfl) (c_X2_placeOf (by first | assumption | exact ⟨by decide, rfl⟩)) ?_
          refine e_V2 oX2_partAt lX5_215 ⟨Nat.le_of_ble_eq_true rfl, Nat.le_of_ble_eq_true rfl⟩ dX5_gain_58 (by first | assumption | exact ⟨by decide, rfl⟩) (Nat.le_of_ble_eq_true rfl) (c_X2_partAt (n := (gM σ 3 4 x (-1)).toNatClampNeg) (by first | assumption | exact ⟨by decide, rfl⟩) (by first | assumption | exact ⟨by decide, rfl⟩) (nI_cl (by grind)).symm (cl_le 24 (by decide) (by grind))) ?_
          refine e_istore_n dX5_gain_61 (by decide) (Nat.le_of_ble_eq_true rfl) ?_
          refine e_aload_n dX5_gain_62 rfl ?_
          refine e_getO 3 kX5 (by first | assumption | exact ⟨by decide, rfl⟩) (by decide) fX5_28 rfl rfl dX5_gain_63 ?_
          refine e_iload_n dX5_gain_66 rfl ?_
          refine e_V1 oX2_worthOf lX5_221 ⟨Nat.le_of_ble_eq_true rfl, Nat.le_of_ble_eq_true rfl⟩ dX5_gain_67 (by first | assumption | exact ⟨by decide, rfl⟩) (Nat.le_of_ble_eq_true rfl) (c_X2_worthOf (by first | assumption | exact ⟨by decide, rfl⟩)) ?_
          refine e_istore dX5_gain_70 (by decide) (Nat.le_of_ble_eq_true rfl) ?_
          refine e_aload_n dX5_gain_72 rfl ?_
          refine e_getO 3 kX5 (by first | assumption | exact ⟨by decide, rfl⟩) (by decide) fX5_28 rfl rfl dX5_gain_73 ?_
          refine e_iload_n dX5_gain_76 rfl ?_
          refine e_V1 oX2_worthOf lX5_221 ⟨Nat.le_of_ble_eq_true rfl, Nat.le_of_ble_eq_true rfl⟩ dX5_gain_77 (by first | assumption | exact ⟨by decide, rfl⟩) (Nat.le_of_ble_eq_true rfl) (c_X2_worthOf (by first | assumption | exact ⟨by decide, rfl⟩)) ?_
          refine e_istore dX5_gain_80 (by decide) (Nat.le_of_ble_eq_true rfl) ?_
          refine e_iload dX5_gain_82 rfl ?_
          refine e_iload_n dX5_gain_84 rfl ?_
          refine e_isub dX5_gain_85 ?_
          refine e_iload dX5_gain_86 rfl ?_
          refine e_icmp_lt (tgt := 95) dX5_gain_88 (by decide) (fun h88 => ?_) (fun h88 => ?_)
          ·
            refine e_iconst (v := 0) dX5_gain_95 (by decide) ?_
            refine e_istore dX5_gain_96 (by decide) (Nat.le_of_ble_eq_true rfl) ?_
            refine e_iload dX5_gain_98 rfl ?_
            refine e_if_eq (tgt := 108) dX5_gain_100 (by decide) (fun h100 => ?_) (fun h100 => ?_)
            ·
              refine e_iload dX5_gain_108 rfl ?_
              refine e_iload_n dX5_gain_110 rfl ?_
              refine e_isub dX5_gain_111 ?_
              refine e_istore dX5_gain_112 (by decide) (Nat.le_of_ble_eq_true rfl) ?_
              refine e_iload dX5_gain_114 rfl ?_
              refine e_iload_n dX5_gain_116 rfl ?_
              refine e_isub dX5_gain_117 ?_
              refine e_istore dX5_gain_118 (by decide) (Nat.le_of_ble_eq_true rfl) ?_
              refine e_iload dX5_gain_120 rfl ?_
              refine e_iload dX5_gain_122 rfl ?_
              refine e_isub dX5_gain_124 ?_
              exact e_ireq rfl rfl dX5_gain_125 (by grind) rfl
            ·
              refine e_iload dX5_gain_103 rfl ?_
              refine e_goto (tgt := 112) dX5_gain_105 (by decide) ?_
              refine e_istore dX5_gain_112 (by decide) (Nat.le_of_ble_eq_true rfl) ?_
              refine e_iload dX5_gain_114 rfl ?_
              refine e_iload_n dX5_gain_116 rfl ?_
              refine e_isub dX5_gain_117 ?_
              refine e_istore dX5_gain_118 (by decide) (Nat.le_of_ble_eq_true rfl) ?_
              refine e_iload dX5_gain_120 rfl ?_
              refine e_iload dX5_gain_122 rfl ?_
              refine e_isub dX5_gain_124 ?_
              exact e_ireq rfl rfl dX5_gain_125 (by grind) rfl
          ·
            refine e_iconst (v := 1) dX5_gain_91 (by decide) ?_
            refine e_goto (tgt := 96) dX5_gain_92 (by decide) ?_
            refine e_istore dX5_gain_96 (by decide) (Nat.le_of_ble_eq_true rfl) ?_
            refine e_iload dX5_gain_98 rfl ?_
            refine e_if_eq (tgt := 108) dX5_gain_100 (by decide) (fun h100 => ?_) (fun h100 => ?_)
            ·
              refine e_iload dX5_gain_108 rfl ?_
              refine e_iload_n dX5_gain_110 rfl ?_
              refine e_isub dX5_gain_111 ?_
              refine e_istore dX5_gain_112 (by decide) (Nat.le_of_ble_eq_true rfl) ?_
              refine e_iload dX5_gain_114 rfl ?_
              refine e_iload_n dX5_gain_116 rfl ?_
              refine e_isub dX5_gain_117 ?_
              refine e_istore dX5_gain_118 (by decide) (Nat.le_of_ble_eq_true rfl) ?_
              refine e_iload dX5_gain_120 rfl ?_
              refine e_iload dX5_gain_122 rfl ?_
              refine e_isub dX5_gain_124 ?_
              exact e_ireq rfl rfl dX5_gain_125 (by grind) rfl
            ·
              refine e_iload dX5_gain_103 rfl ?_
              refine e_goto (tgt := 112) dX5_gain_105 (by decide) ?_
              refine e_istore dX5_gain_112 (by decide) (Nat.le_of_ble_eq_true rfl) ?_
              refine e_iload dX5_gain_114 rfl ?_
              refine e_iload_n dX5_gain_116 rfl ?_
              refine e_isub dX5_gain_117 ?_
              refine e_istore dX5_gain_118 (by decide) (Nat.le_of_ble_eq_true rfl) ?_
              refine e_iload dX5_gain_120 rfl ?_
              refine e_iload dX5_gain_122 rfl ?_
              refine e_isub dX5_gain_124 ?_
              exact e_ireq rfl rfl dX5_gain_125 (by grind) rfl
        ·
          refine e_ldc dX5_gain_39 kX5_220 ?_
          exact e_ireq rfl rfl dX5_gain_41 (by grind) rfl
theorem c_X5_count {w : Int32} {q : Nat} {σ : rS} (hl : (σ 0 5 0).toNatClampNeg = q) (h1 : isO q 3) : Ct mX5_count [.inr (0, 0), .inl w] σ (some (.inl (if w = 0 then σ 3 7 0 else if w = 1 then σ q 4 0 else if w = 2 then σ 0 8 0 else if w = 3 then (if ¬ σ 0 7 0 = 0 then σ 0 9 0 else -1) else if w = 4 then σ 5 8 0 else if w = 5 then σ 0 10 0 else -1))) (σ) := by
  refine C_of_E rfl rfl (Nat.le_of_ble_eq_true rfl) ?_
  refine e_iload_n dX5_count_0 rfl ?_
  refine e_tab6 40 48 56 61 77 85 90 dX5_count_1 (by decide) (by decide) (by decide) (by decide) (by decide) (by decide) (by decide) (fun h1 => ?_) (fun h1 => ?_) (fun h1 => ?_) (fun h1 => ?_) (fun h1 => ?_) (fun h1 => ?_) (fun h1 => ?_)
  ·
    refine e_aload_n dX5_count_40 rfl ?_
    refine e_getO 3 kX5 (by first | assumption | exact ⟨by decide, rfl⟩) (by decide) fX5_28 rfl rfl dX5_count_41 ?_
    refine e_V0 oX2_size lX5_230 ⟨Nat.le_of_ble_eq_true rfl, Nat.le_of_ble_eq_true rfl⟩ dX5_count_44 (by first | assumption | exact ⟨by decide, rfl⟩) (Nat.le_of_ble_eq_true rfl) (c_X2_size (by first | assumption | exact ⟨by decide, rfl⟩)) ?_
    exact e_ireq rfl rfl dX5_count_47 (by grind) rfl
  ·
    refine e_aload_n dX5_count_48 rfl ?_
    refine e_getD q kX5 (by first | assumption | exact ⟨by decide, rfl⟩) (by decide) fX5_45 rfl hl dX5_count_49 ?_
    refine e_V0 oX3_places lX5_85 ⟨Nat.le_of_ble_eq_true rfl, Nat.le_of_ble_eq_true rfl⟩ dX5_count_52 (by first | assumption | exact ⟨by decide, rfl⟩) (Nat.le_of_ble_eq_true rfl) (c_X3_places (by first | assumption | exact ⟨by decide, rfl⟩)) ?_
    exact e_ireq rfl rfl dX5_count_55 (by grind) rfl
  ·
    refine e_aload_n dX5_count_56 rfl ?_
    refine e_getI kX5 (by first | assumption | exact ⟨by decide, rfl⟩) (by decide) fX5_56 rfl dX5_count_57 ?_
    exact e_ireq rfl rfl dX5_count_60 (by grind) rfl
  ·
    refine e_aload_n dX5_count_61 rfl ?_
    refine e_getI kX5 (by first | assumption | exact ⟨by decide, rfl⟩) (by decide) fX5_52 rfl dX5_count_62 ?_
    refine e_if_eq (tgt := 75) dX5_count_65 (by decide) (fun h65 => ?_) (fun h65 => ?_)
    ·
      refine e_iconst (v := -1) dX5_count_75 (by decide) ?_
      exact e_ireq rfl rfl dX5_count_76 (by grind) rfl
    ·
      refine e_aload_n dX5_count_68 rfl ?_
      refine e_getI kX5 (by first | assumption | exact ⟨by decide, rfl⟩) (by decide) fX5_60 rfl dX5_count_69 ?_
      refine e_goto (tgt := 76) dX5_count_72 (by decide) ?_
      exact e_ireq rfl rfl dX5_count_76 (by grind) rfl
  ·
    refine e_aload_n dX5_count_77 rfl ?_
    refine e_getO 5 kX5 (by first | assumption | exact ⟨by decide, rfl⟩) (by decide) fX5_38 rfl rfl dX5_count_78 ?_
    refine e_V0 oX0_size lX5_233 ⟨Nat.le_of_ble_eq_true rfl, Nat.le_of_ble_eq_true rfl⟩ dX5_count_81 (by first | assumption | exact ⟨by decide, rfl⟩) (Nat.le_of_ble_eq_true rfl) (c_X0_size (by first | assumption | exact ⟨by decide, rfl⟩)) ?_
    exact e_ireq rfl rfl dX5_count_84 (by grind) rfl
  ·
    refine e_aload_n dX5_count_85 rfl ?_
    refine e_getI kX5 (by first | assumption | exact ⟨by decide, rfl⟩) (by decide) fX5_63 rfl dX5_count_86 ?_
    exact e_ireq rfl rfl dX5_count_89 (by grind) rfl
  ·
    refine e_iconst (v := -1) dX5_count_90 (by decide) ?_
    exact e_ireq rfl rfl dX5_count_91 (by grind) rfl
-- ahead
abbrev yrS (o q n m : Nat) (year : Int32) (τ : rS) : rS := seS o q year m (fiF o q year n τ m).2
theorem yrS_fr {σ : rS} {o q n m o' k' : Nat} {year i' : Int32} (h : ¬ (o' = o ∧ ¬ k' = 7)) : yrS o q n m year σ o' k' i' = σ o' k' i' := by
  have h1 : seS o q year m (fiF o q year n σ m).2 o' k' i' = (fiF o q year n σ m).2 o' k' i' := seS_fr (by grind)
  exact h1.trans (fiF_fr (by grind) m)
theorem cpy_fr {σ : rS} {o a o' k' : Nat} {i' : Int32} (h : ¬ o' = o) : sCopy o a σ o' k' i' = σ o' k' i' := by
  have hA : ∀ j τ, itS (cpA o a) j τ o' k' i' = τ o' k' i' := by
    intro j τ
    induction j with
    | zero => rfl
    | succ j ih => show cpA o a j (itS (cpA o a) j τ) o' k' i' = _; generalize itS (cpA o a) j τ = υ at ih ⊢; unfold cpA; simp only [up]; grind
  have hB : ∀ j τ, itS (cpB o a) j τ o' k' i' = τ o' k' i' := by
    intro j τ
    induction j with
    | zero => rfl
    | succ j ih => show cpB o a j (itS (cpB o a) j τ) o' k' i' = _; generalize itS (cpB o a) j τ = υ at ih ⊢; unfold cpB; simp only [up]; grind
  unfold sCopy
  rw [hB, hA]
  simp only [up]; grind
theorem cpy_sz {σ : rS} {o a : Nat} (h : ¬ a = o) : sCopy o a σ o 7 0 = σ a 7 0 := by
  have hA : ∀ j τ, itS (cpA o a) j τ o 7 0 = τ o 7 0 := by
    intro j τ
    induction j with
    | zero => rfl
    | succ j ih => show cpA o a j (itS (cpA o a) j τ) o 7 0 = _; generalize itS (cpA o a) j τ = υ at ih ⊢; unfold cpA; simp only [up]; grind
  have hB : ∀ j τ, itS (cpB o a) j τ o 7 0 = τ o 7 0 := by
    intro j τ
    induction j with
    | zero => rfl
    | succ j ih => show cpB o a j (itS (cpB o a) j τ) o 7 0 = _; generalize itS (cpB o a) j τ = υ at ih ⊢; unfold cpB; simp only [up]; grind
  unfold sCopy
  rw [hB, hA, up_self]
/-- the years ahead, from the state in which the year is over -/
def ahF (q n m : Nat) (yb : Int32) : Nat → rS → rS := itS (fun i τ => yrS 4 q n m (yb + nI i) τ)
theorem ahF_fr {σ : rS} {q n m o' k' : Nat} {yb i' : Int32} (h : ¬ (o' = 4 ∧ ¬ k' = 7)) : ∀ j, ahF q n m yb j σ o' k' i' = σ o' k' i' := by
  intro j
  induction j with
  | zero => rfl
  | succ j ih =>
    have h1 : yrS 4 q n m (yb + nI j) (ahF q n m yb j σ) o' k' i' = ahF q n m yb j σ o' k' i' := yrS_fr h
    exact h1.trans ih
/-- what the years ahead begin with -/
abbrev ah0 (σ : rS) (q m c : Nat) : rS := if ¬ σ 0 7 0 = 0 then seS 4 q (σ 0 8 0 - 1) m (itS (fvStep 5 4) c (sCopy 4 3 σ)) else sCopy 4 3 σ
theorem ah0_fr {σ : rS} {q m c o' k' : Nat} {i' : Int32} (h : ¬ o' = 4) : ah0 σ q m c o' k' i' = σ o' k' i' := by
  unfold ah0
  split
  · have h1 : seS 4 q (σ 0 8 0 - 1) m (itS (fvStep 5 4) c (sCopy 4 3 σ)) o' k' i' = itS (fvStep 5 4) c (sCopy 4 3 σ) o' k' i' := seS_fr (by grind)
    rw [h1, fv_fr (by grind), cpy_fr h]
  · exact cpy_fr h
theorem ah0_sz {σ : rS} {q m c : Nat} : ah0 σ q m c 4 7 0 = σ 3 7 0 := by
  unfold ah0
  split
  · have h1 : seS 4 q (σ 0 8 0 - 1) m (itS (fvStep 5 4) c (sCopy 4 3 σ)) 4 7 0 = itS (fvStep 5 4) c (sCopy 4 3 σ) 4 7 0 := seS_fr (by grind)
    rw [h1, fv_fr (by grind), cpy_sz (by decide)]
  · exact cpy_sz (by decide)
theorem c_X5_ahead {k : Int32} {q n m c K : Nat} {σ : rS} (hS : shC σ q n m c) (hk : 0 ≤ k ∧ k ≤ 20 → k = nI K ∧ K ≤ 20) : Ct mX5_ahead [.inr (0, 0), .inl k] σ (some (.inl (if 0 ≤ k ∧ k ≤ 20 then (fiF 4 q (σ 0 8 0 + k) n (ahF q n m (σ 0 8 0) K (ah0 σ q m c)) m).1 else -1))) (if 0 ≤ k ∧ k ≤ 20 then (fiF 4 q (σ 0 8 0 + k) n (ahF q n m (σ 0 8 0) K (ah0 σ q m c)) m).2 else σ) := by
  refine C_of_E rfl rfl (Nat.le_of_ble_eq_true rfl) ?_
  obtain ⟨hl, h1, hs, hn, hm, hm2, hc, hc2⟩ := hS
  have hq0 : ¬ q = 0 := isO_ne h1 (⟨by decide, rfl⟩ : isO 0 5) (by decide)
  have hq3 : ¬ q = 3 := isO_ne h1 (⟨by decide, rfl⟩ : isO 3 2) (by decide)
  have hq4 : ¬ q = 4 := isO_ne h1 (⟨by decide, rfl⟩ : isO 4 2) (by decide)
  have hq5 : ¬ q = 5 := isO_ne h1 (⟨by decide, rfl⟩ : isO 5 0) (by decide)
  have main : 0 ≤ k ∧ k ≤ 20 → E mX5_ahead 61 [.inr (0, 0), .inl k, .inl 0] [] (ah0 σ q m c) (some (.inl (fiF 4 q (σ 0 8 0 + k) n (ahF q n m (σ 0 8 0) K (ah0 σ q m c)) m).1)) (fiF 4 q (σ 0 8 0 + k) n (ahF q n m (σ 0 8 0) K (ah0 σ q m c)) m).2 := by
    intro hkk
    obtain ⟨rfl, hK⟩ := hk hkk
    have b1 : ∀ k' i', ah0 σ q m c 0 k' i' = σ 0 k' i' := fun k' i' => ah0_fr (by decide)
    have b2 : ah0 σ q m c q 4 0 = nI m := by rw [ah0_fr hq4]; exact hm
    have b3 : ah0 σ q m c 4 7 0 = nI n := by rw [ah0_sz]; exact hs
    generalize ah0 σ q m c = τ at b1 b2 b3 ⊢
    have loop : ∀ j, j ≤ K → E mX5_ahead 61 [.inr (0, 0), .inl (nI K), .inl (nI j)] [] (ahF q n m (σ 0 8 0) j τ) (some (.inl (fiF 4 q (σ 0 8 0 + nI K) n (ahF q n m (σ 0 8 0) K τ) m).1)) (fiF 4 q (σ 0 8 0 + nI K) n (ahF q n m (σ 0 8 0) K τ) m).2 := by
      refine dn_ind K _ ?_ (fun j hj ih => ?_)
      · have g1 : ∀ k' i', ahF q n m (σ 0 8 0) K τ 0 k' i' = σ 0 k' i' := fun k' i' => (ahF_fr (by grind) K).trans (b1 k' i')
        have g2 : ahF q n m (σ 0 8 0) K τ q 4 0 = nI m := (ahF_fr (by grind) K).trans b2
        have g3 : ahF q n m (σ 0 8 0) K τ 4 7 0 = nI n := (ahF_fr (by grind) K).trans b3
        generalize ahF q n m (σ 0 8 0) K τ = υ at g1 g2 g3 ⊢
        refine e_iload_n dX5_ahead_61 rfl ?_
        refine e_iload_n dX5_ahead_62 rfl ?_
        refine e_icmp_ge (tgt := 108) dX5_ahead_63 (by decide) (fun h63 => ?_) (fun h63 => ?_)
        rotate_left
        · exfalso
          grind
        refine e_aload_n dX5_ahead_108 rfl ?_
        refine e_getO 4 kX5 (by first | assumption | exact ⟨by decide, rfl⟩) (by decide) fX5_32 rfl rfl dX5_ahead_109 ?_
        refine e_aload_n dX5_ahead_112 rfl ?_
        refine e_getD q kX5 (by first | assumption | exact ⟨by decide, rfl⟩) (by decide) fX5_45 rfl (by rw [g1]; exact hl) dX5_ahead_113 ?_
        refine e_aload_n dX5_ahead_116 rfl ?_
        refine e_getI kX5 (by first | assumption | exact ⟨by decide, rfl⟩) (by decide) fX5_56 rfl dX5_ahead_117 ?_
        rw [g1]
        refine e_iload_n dX5_ahead_120 rfl ?_
        refine e_iadd dX5_ahead_121 ?_
        refine e_V2 oX2_fillPlaces lX5_152 ⟨Nat.le_of_ble_eq_true rfl, Nat.le_of_ble_eq_true rfl⟩ dX5_ahead_122 (by first | assumption | exact ⟨by decide, rfl⟩) (Nat.le_of_ble_eq_true rfl) (c_X2_fillPlaces (n := n) (m := m) (by first | assumption | exact ⟨by decide, rfl⟩) (by first | assumption | exact ⟨by decide, rfl⟩) hq4 g3 hn g2 hm2) ?_
        exact e_ireq rfl rfl dX5_ahead_125 (by first | rfl | grind) rfl
      · have g1 : ∀ k' i', ahF q n m (σ 0 8 0) j τ 0 k' i' = σ 0 k' i' := fun k' i' => (ahF_fr (by grind) j).trans (b1 k' i')
        have g2 : ahF q n m (σ 0 8 0) j τ q 4 0 = nI m := (ahF_fr (by grind) j).trans b2
        have g3 : ahF q n m (σ 0 8 0) j τ 4 7 0 = nI n := (ahF_fr (by grind) j).trans b3
        obtain ⟨f1, f2, f3, f4⟩ := nI_facts 20 hj hK (by decide) rfl
        change E mX5_ahead 61 [.inr (0, 0), .inl (nI K), .inl (nI (j + 1))] [] (yrS 4 q n m (σ 0 8 0 + nI j) (ahF q n m (σ 0 8 0) j τ)) _ _ at ih
        generalize ahF q n m (σ 0 8 0) j τ = υ at g1 g2 g3 ih ⊢
        have w1 : ∀ k' i', (fiF 4 q (σ 0 8 0 + nI j) n υ m).2 0 k' i' = σ 0 k' i' := fun k' i' => (fiF_fr (by grind) m).trans (g1 k' i')
        have w2 : (fiF 4 q (σ 0 8 0 + nI j) n υ m).2 q 4 0 = nI m := (fiF_fr (by grind) m).trans g2
        refine e_iload_n dX5_ahead_61 rfl ?_
        refine e_iload_n dX5_ahead_62 rfl ?_
        refine e_icmp_ge (tgt := 108) dX5_ahead_63 (by decide) (fun h63 => ?_) (fun h63 => ?_)
        · exfalso
          grind
        refine e_aload_n dX5_ahead_66 rfl ?_
        refine e_getO 4 kX5 (by first | assumption | exact ⟨by decide, rfl⟩) (by decide) fX5_32 rfl rfl dX5_ahead_67 ?_
        refine e_aload_n dX5_ahead_70 rfl ?_
        refine e_getD q kX5 (by first | assumption | exact ⟨by decide, rfl⟩) (by decide) fX5_45 rfl (by first | (rw [g1]; exact hl) | (rw [w1]; exact hl)) dX5_ahead_71 ?_
        refine e_aload_n dX5_ahead_74 rfl ?_
        refine e_getI kX5 (by first | assumption | exact ⟨by decide, rfl⟩) (by decide) fX5_56 rfl dX5_ahead_75 ?_
        rw [g1]
        refine e_iload_n dX5_ahead_78 rfl ?_
        refine e_iadd dX5_ahead_79 ?_
        refine e_V2 oX2_fillPlaces lX5_152 ⟨Nat.le_of_ble_eq_true rfl, Nat.le_of_ble_eq_true rfl⟩ dX5_ahead_80 (by first | assumption | exact ⟨by decide, rfl⟩) (Nat.le_of_ble_eq_true rfl) (c_X2_fillPlaces (n := n) (m := m) (by first | assumption | exact ⟨by decide, rfl⟩) (by first | assumption | exact ⟨by decide, rfl⟩) hq4 g3 hn g2 hm2) ?_
        refine e_pop dX5_ahead_83 ?_
        refine e_aload_n dX5_ahead_84 rfl ?_
        refine e_getO 4 kX5 (by first | assumption | exact ⟨by decide, rfl⟩) (by decide) fX5_32 rfl rfl dX5_ahead_85 ?_
        refine e_aload_n dX5_ahead_88 rfl ?_
        refine e_getD q kX5 (by first | assumption | exact ⟨by decide, rfl⟩) (by decide) fX5_45 rfl (by first | (rw [g1]; exact hl) | (rw [w1]; exact hl)) dX5_ahead_89 ?_
        refine e_aload_n dX5_ahead_92 rfl ?_
        refine e_getI kX5 (by first | assumption | exact ⟨by decide, rfl⟩) (by decide) fX5_56 rfl dX5_ahead_93 ?_
        rw [w1]
        refine e_iload_n dX5_ahead_96 rfl ?_
        refine e_iadd dX5_ahead_97 ?_
        refine e_V2 oX2_settle lX5_212 ⟨Nat.le_of_ble_eq_true rfl, Nat.le_of_ble_eq_true rfl⟩ dX5_ahead_98 (by first | assumption | exact ⟨by decide, rfl⟩) (Nat.le_of_ble_eq_true rfl) (c_X2_settle (m := m) (by first | assumption | exact ⟨by decide, rfl⟩) (by first | assumption | exact ⟨by decide, rfl⟩) hq4 w2 hm2) ?_
        refine e_pop dX5_ahead_101 ?_
        refine e_inc (1) (by decide) dX5_ahead_102 rfl (by decide) (Nat.le_of_ble_eq_true rfl) ?_
        refine e_goto (tgt := 61) dX5_ahead_105 (by decide) ?_
        exact e_to ih (by first | rfl | (simp [lset]; done) | (simp [lset]; grind)) rfl
    exact loop 0 (Nat.zero_le _)
  have y1 : ∀ k' i', sCopy 4 3 σ 0 k' i' = σ 0 k' i' := fun k' i' => cpy_fr (by decide)
  have z1 : ∀ k' i', itS (fvStep 5 4) c (sCopy 4 3 σ) 0 k' i' = σ 0 k' i' := fun k' i' => (fv_fr (by grind) c).trans (y1 k' i')
  have z2 : itS (fvStep 5 4) c (sCopy 4 3 σ) q 4 0 = nI m := (fv_fr (by grind) c).trans ((cpy_fr hq4).trans hm)
  refine e_iload_n dX5_ahead_0 rfl ?_
  refine e_if_lt (tgt := 10) dX5_ahead_1 (by decide) (fun h1 => ?_) (fun h1 => ?_)
  ·
    refine e_iconst (v := -1) dX5_ahead_10 (by decide) ?_
    exact e_ireq rfl rfl dX5_ahead_11 (by first | rw [if_neg (by grind)] | rw [if_pos (by grind)]) (by first | rw [if_neg (by grind)] | rw [if_pos (by grind)])
  ·
    refine e_iload_n dX5_ahead_4 rfl ?_
    refine e_bipush (v := 20) dX5_ahead_5 (by decide) ?_
    refine e_icmp_le (tgt := 12) dX5_ahead_7 (by decide) (fun h7 => ?_) (fun h7 => ?_)
    ·
      refine e_aload_n dX5_ahead_12 rfl ?_
      refine e_getO 4 kX5 (by first | assumption | exact ⟨by decide, rfl⟩) (by decide) fX5_32 rfl rfl dX5_ahead_13 ?_
      refine e_aload_n dX5_ahead_16 rfl ?_
      refine e_getO 3 kX5 (by first | assumption | exact ⟨by decide, rfl⟩) (by decide) fX5_28 rfl rfl dX5_ahead_17 ?_
      refine e_V1v oX2_copyFrom lX5_224 ⟨Nat.le_of_ble_eq_true rfl, Nat.le_of_ble_eq_true rfl⟩ dX5_ahead_20 (by first | assumption | exact ⟨by decide, rfl⟩) (Nat.le_of_ble_eq_true rfl) (c_X2_copyFrom (by first | assumption | exact ⟨by decide, rfl⟩) (by first | assumption | exact ⟨by decide, rfl⟩) (by decide)) ?_
      refine e_aload_n dX5_ahead_23 rfl ?_
      refine e_getI kX5 (by first | assumption | exact ⟨by decide, rfl⟩) (by decide) fX5_52 rfl dX5_ahead_24 ?_
      rw [y1]
      refine e_if_eq (tgt := 59) dX5_ahead_27 (by decide) (fun h27 => ?_) (fun h27 => ?_)
      ·
        refine e_iconst (v := 0) dX5_ahead_59 (by decide) ?_
        refine e_istore_n dX5_ahead_60 (by decide) (Nat.le_of_ble_eq_true rfl) ?_
        rw [if_pos (by grind), if_pos (by grind)]
        exact e_to (main (by grind)) (by first | rfl | (simp [lset]; done) | (simp [lset]; grind)) (by unfold ah0; first | rw [if_neg (by grind)] | rw [if_pos (by grind)])
      ·
        refine e_aload_n dX5_ahead_30 rfl ?_
        refine e_getO 5 kX5 (by first | assumption | exact ⟨by decide, rfl⟩) (by decide) fX5_38 rfl rfl dX5_ahead_31 ?_
        refine e_aload_n dX5_ahead_34 rfl ?_
        refine e_getO 4 kX5 (by first | assumption | exact ⟨by decide, rfl⟩) (by decide) fX5_32 rfl rfl dX5_ahead_35 ?_
        refine e_V1v oX0_foreseeVerdicts lX5_227 ⟨Nat.le_of_ble_eq_true rfl, Nat.le_of_ble_eq_true rfl⟩ dX5_ahead_38 (by first | assumption | exact ⟨by decide, rfl⟩) (Nat.le_of_ble_eq_true rfl) (c_X0_foreseeVerdicts (n := c) (by first | assumption | exact ⟨by decide, rfl⟩) (by first | assumption | exact ⟨by decide, rfl⟩) ((cpy_fr (by decide)).trans hc) hc2) ?_
        refine e_aload_n dX5_ahead_41 rfl ?_
        refine e_getO 4 kX5 (by first | assumption | exact ⟨by decide, rfl⟩) (by decide) fX5_32 rfl rfl dX5_ahead_42 ?_
        refine e_aload_n dX5_ahead_45 rfl ?_
        refine e_getD q kX5 (by first | assumption | exact ⟨by decide, rfl⟩) (by decide) fX5_45 rfl (by rw [z1]; exact hl) dX5_ahead_46 ?_
        refine e_aload_n dX5_ahead_49 rfl ?_
        refine e_getI kX5 (by first | assumption | exact ⟨by decide, rfl⟩) (by decide) fX5_56 rfl dX5_ahead_50 ?_
        rw [z1]
        refine e_iconst (v := 1) dX5_ahead_53 (by decide) ?_
        refine e_isub dX5_ahead_54 ?_
        refine e_V2 oX2_settle lX5_212 ⟨Nat.le_of_ble_eq_true rfl, Nat.le_of_ble_eq_true rfl⟩ dX5_ahead_55 (by first | assumption | exact ⟨by decide, rfl⟩) (Nat.le_of_ble_eq_true rfl) (c_X2_settle (m := m) (by first | assumption | exact ⟨by decide, rfl⟩) (by first | assumption | exact ⟨by decide, rfl⟩) hq4 z2 hm2) ?_
        refine e_pop dX5_ahead_58 ?_
        refine e_iconst (v := 0) dX5_ahead_59 (by decide) ?_
        refine e_istore_n dX5_ahead_60 (by decide) (Nat.le_of_ble_eq_true rfl) ?_
        rw [if_pos (by grind), if_pos (by grind)]
        exact e_to (main (by grind)) (by first | rfl | (simp [lset]; done) | (simp [lset]; grind)) (by unfold ah0; first | rw [if_neg (by grind)] | rw [if_pos (by grind)])
    ·
      refine e_iconst (v := -1) dX5_ahead_10 (by decide) ?_
      exact e_ireq rfl rfl dX5_ahead_11 (by first | rw [if_neg (by grind)] | rw [if_pos (by grind)]) (by first | rw [if_neg (by grind)] | rw [if_pos (by grind)])
