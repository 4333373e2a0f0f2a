abbrev d6 : List Value := .null :: .int 0 :: .int 0 :: .null :: .null :: .null :: .int 0 :: .null :: .int 0 :: .int 0 :: .int 0 :: .null :: .null :: .null :: .null :: .int 0 :: .int 0 :: .int 0 :: .null :: .null :: .int 0 :: .int 0 :: .null :: .null :: .null :: .null :: .null :: .null :: .null :: .null :: .null :: .int 0 :: .int 0 :: .int 0 :: .int 0 :: .int 0 :: .int 0 :: []
theorem EK_ws {M : rM} {rm : Room} {g : rG} {sz : Nat} {A : Nat → Prop} {Wp : va_W → Prop} {pc : Nat} {ls : List (Nat × Value)} {st : List Value} {ws ws' : va_W} {cells slots : Nat} (h : ws = ws') (k : EK M rm g sz A Wp pc ls st ws' cells slots) : EK M rm g sz A Wp pc ls st ws cells slots := by
  subst h
  exact k
/-- j cells of -1 -/
def mF1 (j : Nat) : Nat → Int32 := fun t => if t < j then -1 else 0
theorem mF1_0 : (fun _ => 0) = mF1 0 := by
  funext t
  unfold mF1
  rw [if_neg (Nat.not_lt_zero t)]
theorem mF1_s (j : Nat) : upd (mF1 j) j (-1) = mF1 (j + 1) := by
  funext t
  unfold mF1 upd
  by_cases h : t = j
  · subst h; simp
  · by_cases h2 : t < j
    · simp [h, h2, show t < j + 1 by omega]
    · simp [h, h2, show ¬ t < j + 1 by omega]
/-- j cells of the words' row -/
def wF (j : Nat) : Nat → Int32 := fun t => if t < j then wtb.getD t 0 else 0
theorem wF_0 : (fun _ => 0) = wF 0 := by
  funext t
  unfold wF
  rw [if_neg (Nat.not_lt_zero t)]
theorem wF_s (j : Nat) : upd (wF j) j (wtb.getD j 0) = wF (j + 1) := by
  funext t
  unfold wF upd
  by_cases h : t = j
  · subst h; simp
  · by_cases h2 : t < j
    · simp [h, h2, show t < j + 1 by omega]
    · simp [h, h2, show ¬ t < j + 1 by omega]
abbrev zA (g : rG) (kd n : Nat) : va_E := .inl (g.2.1 kd, (n, .inl (fun _ => 0)))
abbrev wX0 (g : rG) (h : Nat) (q : Nat → Nat) : va_W := [(h, .inr (0, [.ref (q 0), .ref (q 1), .ref (q 2), .ref (q 3), .ref (q 4), .ref (q 5), .ref (q 6), .ref (q 7), .int 0])), (q 0, zA g 1 40), (q 1, zA g 1 40), (q 2, zA g 1 40), (q 3, zA g 1 40), (q 4, zA g 1 40), (q 5, zA g 1 40), (q 6, zA g 3 40), (q 7, zA g 3 40)]
abbrev wX1 (g : rG) (h t : Nat) (q : Nat → Nat) : va_W := [(h, .inr (1, [.ref t, .ref (q 1), .int 0, .int 0, .int 0, .int (-1)])), (q 1, zA g 3 4)]
abbrev wX2 (g : rG) (h : Nat) (q : Nat → Nat) : va_W := [(h, .inr (2, [.ref (q 0), .ref (q 1), .ref (q 2), .ref (q 3), .ref (q 4), .ref (q 5), .ref (q 6), .int 0])), (q 0, zA g 1 12), (q 1, zA g 1 12), (q 2, zA g 1 12), (q 3, zA g 1 12), (q 4, .inl (g.2.1 1, (12, .inl (mF1 12)))), (q 5, .inl (g.2.1 1, (24, .inl (mF1 24)))), (q 6, zA g 1 24)]
abbrev wX3 (g : rG) (h : Nat) (q : Nat → Nat) : va_W := [(h, .inr (3, [.ref (q 0), .ref (q 1), .ref (q 2), .ref (q 3), .int 0])), (q 0, zA g 1 6), (q 1, zA g 1 6), (q 2, zA g 1 4), (q 3, zA g 1 24)]
abbrev wX4 (g : rG) (h : Nat) (q : Nat → Nat) : va_W := [(h, .inr (4, [.ref (q 0), .int 0])), (q 0, zA g 2 600)]
abbrev wX6 (g : rG) (h : Nat) (q : Nat → Nat) : va_W := [(h, .inr (6, .ref (q 0) :: .int 0 :: .int 0 :: .ref (q 3) :: .ref (q 4) :: .ref (q 5) :: .int 0 :: .ref (q 7) :: .int 0 :: .int (-1) :: .int 0 :: .ref (q 11) :: .ref (q 12) :: .ref (q 13) :: .ref (q 14) :: .int 0 :: .int 0 :: .int 0 :: .ref (q 18) :: .ref (q 19) :: .int 0 :: .int 0 :: .ref (q 22) :: .ref (q 23) :: .ref (q 24) :: .ref (q 25) :: .ref (q 26) :: .ref (q 27) :: .ref (q 28) :: .ref (q 29) :: .ref (q 30) :: .int 0 :: .int 0 :: .int 0 :: .int 0 :: .int 0 :: .int 0 :: [])), (q 0, zA g 1 600), (q 3, zA g 1 12), (q 4, zA g 1 12), (q 5, zA g 1 8), (q 7, zA g 1 24), (q 11, zA g 1 24), (q 12, zA g 1 24), (q 13, zA g 1 24), (q 14, zA g 1 12), (q 18, zA g 1 48), (q 19, zA g 3 288), (q 22, zA g 1 40), (q 23, zA g 1 40), (q 24, zA g 1 40), (q 25, zA g 1 40), (q 26, zA g 1 40), (q 27, zA g 1 40), (q 28, zA g 3 40), (q 29, zA g 3 40), (q 30, .inl (g.2.1 1, (42, .inl (wF 42))))]
theorem K_X4 {g : rG} {h : Nat} : Kt mX4_init rmX4 g [.ref h] [(h, .inr (4, [.null, .int 0]))] (fun w => ∃ q : Nat → Nat, w = wX4 g h q) := by
  refine K_of_EK rfl rfl rfl (Nat.le_of_ble_eq_true rfl) (fun sz => ?_)
  refine k_aload_n (a := h) 0 dX4_init_0 rfl ?_
  refine k_obj obX4 w_inst w_code dX4_init_1 (by decide) (by decide) ?_
  refine k_aload_n (a := h) 0 dX4_init_4 rfl ?_
  refine k_sipush (600) dX4_init_5 rfl ?_
  refine k_newa 2 600 w_arr_byte rfl (fun _ => rfl) rfl ra_byte (by decide) rfl (by decide) (by decide) (by decide) dX4_init_8 (fun q1 => ?_)
  refine k_putF 0 kX4 (by decide) fX4_9 rfl rfl ⟨rfl, rfl⟩ (Nat.le_of_ble_eq_true rfl) dX4_init_10 ?_
  refine k_aload_n (a := h) 0 dX4_init_13 rfl ?_
  refine k_iconst (0) dX4_init_14 rfl ?_
  refine k_put 1 kX4 (by decide) fX4_15 rfl ⟨rfl, rfl⟩ (Nat.le_of_ble_eq_true rfl) dX4_init_15 ?_
  exact k_ret rfl (by decide) (by decide) dX4_init_18 ⟨(fun k => if k = 0 then q1 else 0), rfl⟩
theorem K_X0 {g : rG} {h : Nat} : Kt mX0_init rmX0 g [.ref h] [(h, .inr (0, [.null, .null, .null, .null, .null, .null, .null, .null, .int 0]))] (fun w => ∃ q : Nat → Nat, w = wX0 g h q) := by
  refine K_of_EK rfl rfl rfl (Nat.le_of_ble_eq_true rfl) (fun sz => ?_)
  refine k_aload_n (a := h) 0 dX0_init_0 rfl ?_
  refine k_obj obX0 w_inst w_code dX0_init_1 (by decide) (by decide) ?_
  refine k_aload_n (a := h) 0 dX0_init_4 rfl ?_
  refine k_bipush (40) dX0_init_5 rfl ?_
  refine k_newa 1 40 w_arr_int rfl (fun _ => rfl) rfl ra_int (by decide) rfl (by decide) (by decide) (by decide) dX0_init_7 (fun q1 => ?_)
  refine k_putF 0 kX0 (by decide) fX0_9 rfl rfl ⟨rfl, rfl⟩ (Nat.le_of_ble_eq_true rfl) dX0_init_9 ?_
  refine k_aload_n (a := h) 0 dX0_init_12 rfl ?_
  refine k_bipush (40) dX0_init_13 rfl ?_
  refine k_newa 1 40 w_arr_int rfl (fun _ => rfl) rfl ra_int (by decide) rfl (by decide) (by decide) (by decide) dX0_init_15 (fun q2 => ?_)
  refine k_putF 1 kX0 (by decide) fX0_15 rfl rfl ⟨rfl, rfl⟩ (Nat.le_of_ble_eq_true rfl) dX0_init_17 ?_
  refine k_aload_n (a := h) 0 dX0_init_20 rfl ?_
  refine k_bipush (40) dX0_init_21 rfl ?_
  refine k_newa 1 40 w_arr_int rfl (fun _ => rfl) rfl ra_int (by decide) rfl (by decide) (by decide) (by decide) dX0_init_23 (fun q3 => ?_)
  refine k_putF 2 kX0 (by decide) fX0_18 rfl rfl ⟨rfl, rfl⟩ (Nat.le_of_ble_eq_true rfl) dX0_init_25 ?_
  refine k_aload_n (a := h) 0 dX0_init_28 rfl ?_
  refine k_bipush (40) dX0_init_29 rfl ?_
  refine k_newa 1 40 w_arr_int rfl (fun _ => rfl) rfl ra_int (by decide) rfl (by decide) (by decide) (by decide) dX0_init_31 (fun q4 => ?_)
  refine k_putF 3 kX0 (by decide) fX0_21 rfl rfl ⟨rfl, rfl⟩ (Nat.le_of_ble_eq_true rfl) dX0_init_33 ?_
  refine k_aload_n (a := h) 0 dX0_init_36 rfl ?_
  refine k_bipush (40) dX0_init_37 rfl ?_
  refine k_newa 1 40 w_arr_int rfl (fun _ => rfl) rfl ra_int (by decide) rfl (by decide) (by decide) (by decide) dX0_init_39 (fun q5 => ?_)
  refine k_putF 4 kX0 (by decide) fX0_24 rfl rfl ⟨rfl, rfl⟩ (Nat.le_of_ble_eq_true rfl) dX0_init_41 ?_
  refine k_aload_n (a := h) 0 dX0_init_44 rfl ?_
  refine k_bipush (40) dX0_init_45 rfl ?_
  refine k_newa 1 40 w_arr_int rfl (fun _ => rfl) rfl ra_int (by decide) rfl (by decide) (by decide) (by decide) dX0_init_47 (fun q6 => ?_)
  refine k_putF 5 kX0 (by decide) fX0_27 rfl rfl ⟨rfl, rfl⟩ (Nat.le_of_ble_eq_true rfl) dX0_init_49 ?_
  refine k_aload_n (a := h) 0 dX0_init_52 rfl ?_
  refine k_bipush (40) dX0_init_53 rfl ?_
  refine k_newa 3 40 w_arr_boolean rfl (fun _ => rfl) rfl ra_bool (by decide) rfl (by decide) (by decide) (by decide) dX0_init_55 (fun q7 => ?_)
  refine k_putF 6 kX0 (by decide) fX0_30 rfl rfl ⟨rfl, rfl⟩ (Nat.le_of_ble_eq_true rfl) dX0_init_57 ?_
  refine k_aload_n (a := h) 0 dX0_init_60 rfl ?_
  refine k_bipush (40) dX0_init_61 rfl ?_
  refine k_newa 3 40 w_arr_boolean rfl (fun _ => rfl) rfl ra_bool (by decide) rfl (by decide) (by decide) (by decide) dX0_init_63 (fun q8 => ?_)
  refine k_putF 7 kX0 (by decide) fX0_34 rfl rfl ⟨rfl, rfl⟩ (Nat.le_of_ble_eq_true rfl) dX0_init_65 ?_
  refine k_aload_n (a := h) 0 dX0_init_68 rfl ?_
  refine k_iconst (0) dX0_init_69 rfl ?_
  refine k_put 8 kX0 (by decide) fX0_37 rfl ⟨rfl, rfl⟩ (Nat.le_of_ble_eq_true rfl) dX0_init_70 ?_
  exact k_ret rfl (by decide) (by decide) dX0_init_73 ⟨(fun k => if k = 0 then q1 else if k = 1 then q2 else if k = 2 then q3 else if k = 3 then q4 else if k = 4 then q5 else if k = 5 then q6 else if k = 6 then q7 else if k = 7 then q8 else 0), rfl⟩
theorem K_X3 {g : rG} {h : Nat} : Kt mX3_init rmX3 g [.ref h] [(h, .inr (3, [.null, .null, .null, .null, .int 0]))] (fun w => ∃ q : Nat → Nat, w = wX3 g h q) := by
  refine K_of_EK rfl rfl rfl (Nat.le_of_ble_eq_true rfl) (fun sz => ?_)
  refine k_aload_n (a := h) 0 dX3_init_0 rfl ?_
  refine k_obj obX3 w_inst w_code dX3_init_1 (by decide) (by decide) ?_
  refine k_aload_n (a := h) 0 dX3_init_4 rfl ?_
  refine k_bipush (6) dX3_init_5 rfl ?_
  refine k_newa 1 6 w_arr_int rfl (fun _ => rfl) rfl ra_int (by decide) rfl (by decide) (by decide) (by decide) dX3_init_7 (fun q1 => ?_)
  refine k_putF 0 kX3 (by decide) fX3_9 rfl rfl ⟨rfl, rfl⟩ (Nat.le_of_ble_eq_true rfl) dX3_init_9 ?_
  refine k_aload_n (a := h) 0 dX3_init_12 rfl ?_
  refine k_bipush (6) dX3_init_13 rfl ?_
  refine k_newa 1 6 w_arr_int rfl (fun _ => rfl) rfl ra_int (by decide) rfl (by decide) (by decide) (by decide) dX3_init_15 (fun q2 => ?_)
  refine k_putF 1 kX3 (by decide) fX3_15 rfl rfl ⟨rfl, rfl⟩ (Nat.le_of_ble_eq_true rfl) dX3_init_17 ?_
  refine k_aload_n (a := h) 0 dX3_init_20 rfl ?_
  refine k_iconst (4) dX3_init_21 rfl ?_
  refine k_newa 1 4 w_arr_int rfl (fun _ => rfl) rfl ra_int (by decide) rfl (by decide) (by decide) (by decide) dX3_init_22 (fun q3 => ?_)
  refine k_putF 2 kX3 (by decide) fX3_18 rfl rfl ⟨rfl, rfl⟩ (Nat.le_of_ble_eq_true rfl) dX3_init_24 ?_
  refine k_aload_n (a := h) 0 dX3_init_27 rfl ?_
  refine k_bipush (24) dX3_init_28 rfl ?_
  refine k_newa 1 24 w_arr_int rfl (fun _ => rfl) rfl ra_int (by decide) rfl (by decide) (by decide) (by decide) dX3_init_30 (fun q4 => ?_)
  refine k_putF 3 kX3 (by decide) fX3_21 rfl rfl ⟨rfl, rfl⟩ (Nat.le_of_ble_eq_true rfl) dX3_init_32 ?_
  refine k_aload_n (a := h) 0 dX3_init_35 rfl ?_
  refine k_iconst (0) dX3_init_36 rfl ?_
  refine k_put 4 kX3 (by decide) fX3_24 rfl ⟨rfl, rfl⟩ (Nat.le_of_ble_eq_true rfl) dX3_init_37 ?_
  exact k_ret rfl (by decide) (by decide) dX3_init_40 ⟨(fun k => if k = 0 then q1 else if k = 1 then q2 else if k = 2 then q3 else if k = 3 then q4 else 0), rfl⟩
theorem K_X1 {g : rG} {h t : Nat} : Kt mX1_init rmX1 g [.ref h, .ref t] [(h, .inr (1, [.null, .null, .int 0, .int 0, .int 0, .int 0]))] (fun w => ∃ q : Nat → Nat, w = wX1 g h t q) := by
  refine K_of_EK rfl rfl rfl (Nat.le_of_ble_eq_true rfl) (fun sz => ?_)
  refine k_aload_n (a := h) 0 dX1_init_0 rfl ?_
  refine k_obj obX1 w_inst w_code dX1_init_1 (by decide) (by decide) ?_
  refine k_aload_n (a := h) 0 dX1_init_4 rfl ?_
  refine k_aload_n (a := t) 1 dX1_init_5 rfl ?_
  refine k_putF 0 kX1 (by decide) fX1_9 rfl rfl ⟨rfl, rfl⟩ (Nat.le_of_ble_eq_true rfl) dX1_init_6 ?_
  refine k_aload_n (a := h) 0 dX1_init_9 rfl ?_
  refine k_iconst (4) dX1_init_10 rfl ?_
  refine k_newa 3 4 w_arr_boolean rfl (fun _ => rfl) rfl ra_bool (by decide) rfl (by decide) (by decide) (by decide) dX1_init_11 (fun q1 => ?_)
  refine k_putF 1 kX1 (by decide) fX1_15 rfl rfl ⟨rfl, rfl⟩ (Nat.le_of_ble_eq_true rfl) dX1_init_13 ?_
  refine k_aload_n (a := h) 0 dX1_init_16 rfl ?_
  refine k_iconst (0) dX1_init_17 rfl ?_
  refine k_put 2 kX1 (by decide) fX1_19 rfl ⟨rfl, rfl⟩ (Nat.le_of_ble_eq_true rfl) dX1_init_18 ?_
  refine k_aload_n (a := h) 0 dX1_init_21 rfl ?_
  refine k_iconst (0) dX1_init_22 rfl ?_
  refine k_put 3 kX1 (by decide) fX1_23 rfl ⟨rfl, rfl⟩ (Nat.le_of_ble_eq_true rfl) dX1_init_23 ?_
  refine k_aload_n (a := h) 0 dX1_init_26 rfl ?_
  refine k_iconst (0) dX1_init_27 rfl ?_
  refine k_put 4 kX1 (by decide) fX1_26 rfl ⟨rfl, rfl⟩ (Nat.le_of_ble_eq_true rfl) dX1_init_28 ?_
  refine k_aload_n (a := h) 0 dX1_init_31 rfl ?_
  refine k_iconst (-1) dX1_init_32 rfl ?_
  refine k_put 5 kX1 (by decide) fX1_29 rfl ⟨rfl, rfl⟩ (Nat.le_of_ble_eq_true rfl) dX1_init_33 ?_
  exact k_ret rfl (by decide) (by decide) dX1_init_36 ⟨(fun k => if k = 1 then q1 else 0), rfl⟩
theorem K_X2_2 {g : rG} {h q1 q2 q3 q4 q5 q6 q7 sz : Nat} {A : Nat → Prop} : ∀ j, j ≤ 24 → EK mX2_init rmX2 g sz A (fun w => ∃ q : Nat → Nat, w = wX2 g h q) 91 [(1, .int (nI j)), (0, .ref h)] [] [(h, .inr (2, [.ref q1, .ref q2, .ref q3, .ref q4, .ref q5, .ref q6, .ref q7, .int 0])), (q1, zA g 1 12), (q2, zA g 1 12), (q3, zA g 1 12), (q4, zA g 1 12), (q5, .inl (g.2.1 1, (12, .inl (mF1 12)))), (q6, .inl (g.2.1 1, (24, .inl (mF1 j)))), (q7, zA g 1 24)] 7 108 := by
  refine dn_ind 24 _ ?_ (fun j hj ih => ?_)
  · refine k_iload_n (x := nI 24) 0 dX2_init_91 rfl ?_
    refine k_aload_n (a := h) 1 dX2_init_92 rfl ?_
    refine k_get (v := .ref q6) 5 kX2 (by decide) fX2_27 rfl dX2_init_93 ?_
    refine k_alen (v := 24) (n := 24) (f := mF1 24) 6 rfl rfl dX2_init_96 ?_
    refine k_icmp_ge (tgt := 113) dX2_init_97 (by decide) (fun _ => ?_) (fun z => absurd (by decide) z)
    exact k_ret rfl (by decide) (by decide) dX2_init_113 ⟨(fun k => if k = 0 then q1 else if k = 1 then q2 else if k = 2 then q3 else if k = 3 then q4 else if k = 4 then q5 else if k = 5 then q6 else if k = 6 then q7 else 0), rfl⟩
  · have f := nI_facts (j := j) (n := 24) 24 hj (Nat.le_refl _) (by decide) rfl
    refine k_iload_n (x := nI j) 0 dX2_init_91 rfl ?_
    refine k_aload_n (a := h) 1 dX2_init_92 rfl ?_
    refine k_get (v := .ref q6) 5 kX2 (by decide) fX2_27 rfl dX2_init_93 ?_
    refine k_alen (v := 24) (n := 24) (f := mF1 j) 6 rfl rfl dX2_init_96 ?_
    refine k_icmp_ge (tgt := 113) dX2_init_97 (by decide) (fun z => absurd (Int32.lt_of_le_of_lt z f.2.1) (by decide)) (fun _ => ?_)
    refine k_aload_n (a := h) 1 dX2_init_100 rfl ?_
    refine k_get (v := .ref q6) 5 kX2 (by decide) fX2_27 rfl dX2_init_101 ?_
    refine k_iload_n (x := nI j) 0 dX2_init_104 rfl ?_
    refine k_iconst (-1) dX2_init_105 rfl ?_
    refine k_iast (n := 24) (f := mF1 j) 6 rfl (vp_in_nI hj (by decide)) (by rw [nI_clamp (by omega), mF1_s]) dX2_init_106 ?_
    refine k_iinc (x := nI j) (v := nI (j + 1)) (j := 0) dX2_init_107 rfl (by rw [f.2.2.2]; rfl) (by decide) rfl ?_
    exact k_goto (tgt := 91) dX2_init_110 (by decide) ih
theorem K_X2_1 {g : rG} {h q1 q2 q3 q4 q5 q6 q7 sz : Nat} {A : Nat → Prop} : ∀ j, j ≤ 12 → EK mX2_init rmX2 g sz A (fun w => ∃ q : Nat → Nat, w = wX2 g h q) 67 [(1, .int (nI j)), (0, .ref h)] [] [(h, .inr (2, [.ref q1, .ref q2, .ref q3, .ref q4, .ref q5, .ref q6, .ref q7, .int 0])), (q1, zA g 1 12), (q2, zA g 1 12), (q3, zA g 1 12), (q4, zA g 1 12), (q5, .inl (g.2.1 1, (12, .inl (mF1 j)))), (q6, .inl (g.2.1 1, (24, .inl (mF1 0)))), (q7, zA g 1 24)] 7 108 := by
  refine dn_ind 12 _ ?_ (fun j hj ih => ?_)
  · refine k_iload_n (x := nI 12) 0 dX2_init_67 rfl ?_
    refine k_aload_n (a := h) 1 dX2_init_68 rfl ?_
    refine k_get (v := .ref q5) 4 kX2 (by decide) fX2_24 rfl dX2_init_69 ?_
    refine k_alen (v := 12) (n := 12) (f := mF1 12) 5 rfl rfl dX2_init_72 ?_
    refine k_icmp_ge (tgt := 89) dX2_init_73 (by decide) (fun _ => ?_) (fun z => absurd (by decide) z)
    refine k_iconst 0 dX2_init_89 rfl ?_
    refine k_istore_n (i := 1) dX2_init_90 rfl (by decide) rfl ?_
    exact K_X2_2 0 (by decide)
  · have f := nI_facts (j := j) (n := 12) 12 hj (Nat.le_refl _) (by decide) rfl
    refine k_iload_n (x := nI j) 0 dX2_init_67 rfl ?_
    refine k_aload_n (a := h) 1 dX2_init_68 rfl ?_
    refine k_get (v := .ref q5) 4 kX2 (by decide) fX2_24 rfl dX2_init_69 ?_
    refine k_alen (v := 12) (n := 12) (f := mF1 j) 5 rfl rfl dX2_init_72 ?_
    refine k_icmp_ge (tgt := 89) dX2_init_73 (by decide) (fun z => absurd (Int32.lt_of_le_of_lt z f.2.1) (by decide)) (fun _ => ?_)
    refine k_aload_n (a := h) 1 dX2_init_76 rfl ?_
    refine k_get (v := .ref q5) 4 kX2 (by decide) fX2_24 rfl dX2_init_77 ?_
    refine k_iload_n (x := nI j) 0 dX2_init_80 rfl ?_
    refine k_iconst (-1) dX2_init_81 rfl ?_
    refine k_iast (n := 12) (f := mF1 j) 5 rfl (vp_in_nI hj (by decide)) (by rw [nI_clamp (by omega), mF1_s]) dX2_init_82 ?_
    refine k_iinc (x := nI j) (v := nI (j + 1)) (j := 0) dX2_init_83 rfl (by rw [f.2.2.2]; rfl) (by decide) rfl ?_
    exact k_goto (tgt := 67) dX2_init_86 (by decide) ih
theorem K_X2 {g : rG} {h : Nat} : Kt mX2_init rmX2 g [.ref h] [(h, .inr (2, [.null, .null, .null, .null, .null, .null, .null, .int 0]))] (fun w => ∃ q : Nat → Nat, w = wX2 g h q) := by
  refine K_of_EK rfl rfl rfl (Nat.le_of_ble_eq_true rfl) (fun sz => ?_)
  refine k_aload_n (a := h) 0 dX2_init_0 rfl ?_
  refine k_obj obX2 w_inst w_code dX2_init_1 (by decide) (by decide) ?_
  refine k_aload_n (a := h) 0 dX2_init_4 rfl ?_
  refine k_bipush (12) dX2_init_5 rfl ?_
  refine k_newa 1 12 w_arr_int rfl (fun _ => rfl) rfl ra_int (by decide) rfl (by decide) (by decide) (by decide) dX2_init_7 (fun q1 => ?_)
  refine k_putF 0 kX2 (by decide) fX2_9 rfl rfl ⟨rfl, rfl⟩ (Nat.le_of_ble_eq_true rfl) dX2_init_9 ?_
  refine k_aload_n (a := h) 0 dX2_init_12 rfl ?_
  refine k_bipush (12) dX2_init_13 rfl ?_
  refine k_newa 1 12 w_arr_int rfl (fun _ => rfl) rfl ra_int (by decide) rfl (by decide) (by decide) (by decide) dX2_init_15 (fun q2 => ?_)
  refine k_putF 1 kX2 (by decide) fX2_15 rfl rfl ⟨rfl, rfl⟩ (Nat.le_of_ble_eq_true rfl) dX2_init_17 ?_
  refine k_aload_n (a := h) 0 dX2_init_20 rfl ?_
  refine k_bipush (12) dX2_init_21 rfl ?_
  refine k_newa 1 12 w_arr_int rfl (fun _ => rfl) rfl ra_int (by decide) rfl (by decide) (by decide) (by decide) dX2_init_23 (fun q3 => ?_)
  refine k_putF 2 kX2 (by decide) fX2_18 rfl rfl ⟨rfl, rfl⟩ (Nat.le_of_ble_eq_true rfl) dX2_init_25 ?_
  refine k_aload_n (a := h) 0 dX2_init_28 rfl ?_
  refine k_bipush (12) dX2_init_29 rfl ?_
  refine k_newa 1 12 w_arr_int rfl (fun _ => rfl) rfl ra_int (by decide) rfl (by decide) (by decide) (by decide) dX2_init_31 (fun q4 => ?_)
  refine k_putF 3 kX2 (by decide) fX2_21 rfl rfl ⟨rfl, rfl⟩ (Nat.le_of_ble_eq_true rfl) dX2_init_33 ?_
  refine k_aload_n (a := h) 0 dX2_init_36 rfl ?_
  refine k_bipush (12) dX2_init_37 rfl ?_
  refine k_newa 1 12 w_arr_int rfl (fun _ => rfl) rfl ra_int (by decide) rfl (by decide) (by decide) (by decide) dX2_init_39 (fun q5 => ?_)
  refine k_putF 4 kX2 (by decide) fX2_24 rfl rfl ⟨rfl, rfl⟩ (Nat.le_of_ble_eq_true rfl) dX2_init_41 ?_
  refine k_aload_n (a := h) 0 dX2_init_44 rfl ?_
  refine k_bipush (24) dX2_init_45 rfl ?_
  refine k_newa 1 24 w_arr_int rfl (fun _ => rfl) rfl ra_int (by decide) rfl (by decide) (by decide) (by decide) dX2_init_47 (fun q6 => ?_)
  refine k_putF 5 kX2 (by decide) fX2_27 rfl rfl ⟨rfl, rfl⟩ (Nat.le_of_ble_eq_true rfl) dX2_init_49 ?_
  refine k_aload_n (a := h) 0 dX2_init_52 rfl ?_
  refine k_bipush (24) dX2_init_53 rfl ?_
  refine k_newa 1 24 w_arr_int rfl (fun _ => rfl) rfl ra_int (by decide) rfl (by decide) (by decide) (by decide) dX2_init_55 (fun q7 => ?_)
  refine k_putF 6 kX2 (by decide) fX2_30 rfl rfl ⟨rfl, rfl⟩ (Nat.le_of_ble_eq_true rfl) dX2_init_57 ?_
  refine k_aload_n (a := h) 0 dX2_init_60 rfl ?_
  refine k_iconst (0) dX2_init_61 rfl ?_
  refine k_put 7 kX2 (by decide) fX2_33 rfl ⟨rfl, rfl⟩ (Nat.le_of_ble_eq_true rfl) dX2_init_62 ?_
  refine k_iconst 0 dX2_init_65 rfl ?_
  refine k_istore_n (i := 1) dX2_init_66 rfl (by decide) rfl ?_
  refine EK_ws (ws' := [(h, .inr (2, [.ref q1, .ref q2, .ref q3, .ref q4, .ref q5, .ref q6, .ref q7, .int 0])), (q1, zA g 1 12), (q2, zA g 1 12), (q3, zA g 1 12), (q4, zA g 1 12), (q5, .inl (g.2.1 1, (12, .inl (mF1 0)))), (q6, .inl (g.2.1 1, (24, .inl (mF1 0)))), (q7, zA g 1 24)]) (by rw [← mF1_0]; rfl) ?_
  exact K_X2_1 0 (by decide)
