theorem df0 : ∀ j, j < 9 → defaultValue (tyX0 j) = vp_V [.null, .null, .null, .null, .null, .null, .null, .null, .int 0] j := fun j hj => by rcases (show j = 0 ∨ j = 1 ∨ j = 2 ∨ j = 3 ∨ j = 4 ∨ j = 5 ∨ j = 6 ∨ j = 7 ∨ j = 8 by omega) with rfl | rfl | rfl | rfl | rfl | rfl | rfl | rfl | rfl <;> rfl
theorem df1 : ∀ j, j < 6 → defaultValue (tyX1 j) = vp_V [.null, .null, .int 0, .int 0, .int 0, .int 0] j := fun j hj => by rcases (show j = 0 ∨ j = 1 ∨ j = 2 ∨ j = 3 ∨ j = 4 ∨ j = 5 by omega) with rfl | rfl | rfl | rfl | rfl | rfl <;> rfl
theorem df2 : ∀ j, j < 8 → defaultValue (tyX2 j) = vp_V [.null, .null, .null, .null, .null, .null, .null, .int 0] j := fun j hj => by rcases (show j = 0 ∨ j = 1 ∨ j = 2 ∨ j = 3 ∨ j = 4 ∨ j = 5 ∨ j = 6 ∨ j = 7 by omega) with rfl | rfl | rfl | rfl | rfl | rfl | rfl | rfl <;> rfl
theorem df3 : ∀ j, j < 5 → defaultValue (tyX3 j) = vp_V [.null, .null, .null, .null, .int 0] j := fun j hj => by rcases (show j = 0 ∨ j = 1 ∨ j = 2 ∨ j = 3 ∨ j = 4 by omega) with rfl | rfl | rfl | rfl | rfl <;> rfl
theorem df4 : ∀ j, j < 2 → defaultValue (tyX4 j) = vp_V [.null, .int 0] j := fun j hj => by rcases (show j = 0 ∨ j = 1 by omega) with rfl | rfl <;> rfl
theorem df5 : ∀ j, j < 11 → defaultValue (tyX5 j) = vp_V [.null, .null, .null, .null, .null, .null, .null, .int 0, .int 0, .int 0, .int 0] j := fun j hj => by rcases (show j = 0 ∨ j = 1 ∨ j = 2 ∨ j = 3 ∨ j = 4 ∨ j = 5 ∨ j = 6 ∨ j = 7 ∨ j = 8 ∨ j = 9 ∨ j = 10 by omega) with rfl | rfl | rfl | rfl | rfl | rfl | rfl | rfl | rfl | rfl | rfl <;> rfl
theorem df6 : ∀ j, j < 37 → defaultValue (tyX6 j) = vp_V d6 j := fun j hj => by rcases (show j = 0 ∨ j = 1 ∨ j = 2 ∨ j = 3 ∨ j = 4 ∨ j = 5 ∨ j = 6 ∨ j = 7 ∨ j = 8 ∨ j = 9 ∨ j = 10 ∨ j = 11 ∨ j = 12 ∨ j = 13 ∨ j = 14 ∨ j = 15 ∨ j = 16 ∨ j = 17 ∨ j = 18 ∨ j = 19 ∨ j = 20 ∨ j = 21 ∨ j = 22 ∨ j = 23 ∨ j = 24 ∨ j = 25 ∨ j = 26 ∨ j = 27 ∨ j = 28 ∨ j = 29 ∨ j = 30 ∨ j = 31 ∨ j = 32 ∨ j = 33 ∨ j = 34 ∨ j = 35 ∨ j = 36 by omega) with rfl | rfl | rfl | rfl | rfl | rfl | rfl | rfl | rfl | rfl | rfl | rfl | rfl | rfl | rfl | rfl | rfl | rfl | rfl | rfl | rfl | rfl | rfl | rfl | rfl | rfl | rfl | rfl | rfl | rfl | rfl | rfl | rfl | rfl | rfl | rfl | rfl <;> rfl
abbrev wX5 (g : rG) (hs : Nat → Nat) (qs : Nat → Nat → Nat) : va_W := (hs 0, .inr (5, [.ref (hs 1), .ref (hs 2), .ref (hs 3), .ref (hs 4), .ref (hs 5), .ref (hs 6), .ref (hs 7), .int 0, .int 0, .int 0, .int 0])) :: (wX4 g (hs 1) (qs 1) ++ wX1 g (hs 2) (hs 1) (qs 2) ++ wX2 g (hs 3) (qs 3) ++ wX2 g (hs 4) (qs 4) ++ wX0 g (hs 5) (qs 5) ++ wX3 g (hs 6) (qs 6) ++ wX3 g (hs 7) (qs 7))
set_option maxHeartbeats 4000000 in
theorem K_X5 {g : rG} {h : Nat} : Kt mX5_init rmX5 g [.ref h] [(h, .inr (5, [.null, .null, .null, .null, .null, .null, .null, .int 0, .int 0, .int 0, .int 0]))] (fun w => ∃ (hs : Nat → Nat) (qs : Nat → Nat → Nat), hs 0 = h ∧ w = wX5 g hs qs) := by
  refine K_of_EK rfl rfl rfl (Nat.le_of_ble_eq_true rfl) (fun sz => ?_)
  refine k_aload_n (a := h) 0 dX5_init_0 rfl ?_
  refine k_obj obX5 w_inst w_code dX5_init_1 (by decide) (by decide) ?_
  refine k_new [.null, .int 0] kX4 nlX5_7 nwX4 niX4 df4 (by decide) (by decide) dX5_init_4 (fun a1 => ?_)
  refine k_dup dX5_init_7 rfl ?_
  refine k_callI (K_X4 (g := g) (h := a1)) oX4_init oiX4_init rfl rfl lX5_9 ⟨Nat.le_of_ble_eq_true rfl, Nat.le_of_ble_eq_true rfl⟩ ⟨Nat.le_of_ble_eq_true rfl, Nat.le_of_ble_eq_true rfl⟩ rfl (Nat.le_of_ble_eq_true rfl) dX5_init_8 (fun w hw => ?_)
  obtain ⟨t1, rfl⟩ := hw
  refine k_astore_n (i := 1) (x := a1) dX5_init_11 rfl (by decide) rfl ?_
  refine k_aload_n (a := h) 1 dX5_init_12 rfl ?_
  refine k_aload_n (a := a1) 0 dX5_init_13 rfl ?_
  refine k_putF 0 kX5 (by decide) fX5_10 rfl rfl ⟨rfl, rfl⟩ (Nat.le_of_ble_eq_true rfl) dX5_init_14 ?_
  refine k_aload_n (a := h) 1 dX5_init_17 rfl ?_
  refine k_new [.null, .null, .int 0, .int 0, .int 0, .int 0] kX1 nlX5_16 nwX1 niX1 df1 (by decide) (by decide) dX5_init_18 (fun a2 => ?_)
  refine k_dup dX5_init_21 rfl ?_
  refine k_aload_n (a := a1) 0 dX5_init_22 rfl ?_
  refine k_callI (as := [.ref a1]) (st := [.ref a2, .ref h]) (K_X1 (g := g) (h := a2) (t := a1)) oX1_init oiX1_init rfl rfl lX5_18 ⟨Nat.le_of_ble_eq_true rfl, Nat.le_of_ble_eq_true rfl⟩ ⟨Nat.le_of_ble_eq_true rfl, Nat.le_of_ble_eq_true rfl⟩ rfl (Nat.le_of_ble_eq_true rfl) dX5_init_23 (fun w hw => ?_)
  obtain ⟨t2, rfl⟩ := hw
  refine k_putF 1 kX5 (by decide) fX5_21 rfl rfl ⟨rfl, rfl⟩ (Nat.le_of_ble_eq_true rfl) dX5_init_26 ?_
  refine k_aload_n (a := h) 1 dX5_init_29 rfl ?_
  refine k_new [.null, .null, .null, .null, .null, .null, .null, .int 0] kX2 nlX5_25 nwX2 niX2 df2 (by decide) (by decide) dX5_init_30 (fun a3 => ?_)
  refine k_dup dX5_init_33 rfl ?_
  refine k_callI (K_X2 (g := g) (h := a3)) oX2_init oiX2_init rfl rfl lX5_27 ⟨Nat.le_of_ble_eq_true rfl, Nat.le_of_ble_eq_true rfl⟩ ⟨Nat.le_of_ble_eq_true rfl, Nat.le_of_ble_eq_true rfl⟩ rfl (Nat.le_of_ble_eq_true rfl) dX5_init_34 (fun w hw => ?_)
  obtain ⟨t3, rfl⟩ := hw
  refine k_putF 2 kX5 (by decide) fX5_28 rfl rfl ⟨rfl, rfl⟩ (Nat.le_of_ble_eq_true rfl) dX5_init_37 ?_
  refine k_aload_n (a := h) 1 dX5_init_40 rfl ?_
  refine k_new [.null, .null, .null, .null, .null, .null, .null, .int 0] kX2 nlX5_25 nwX2 niX2 df2 (by decide) (by decide) dX5_init_41 (fun a4 => ?_)
  refine k_dup dX5_init_44 rfl ?_
  refine k_callI (K_X2 (g := g) (h := a4)) oX2_init oiX2_init rfl rfl lX5_27 ⟨Nat.le_of_ble_eq_true rfl, Nat.le_of_ble_eq_true rfl⟩ ⟨Nat.le_of_ble_eq_true rfl, Nat.le_of_ble_eq_true rfl⟩ rfl (Nat.le_of_ble_eq_true rfl) dX5_init_45 (fun w hw => ?_)
  obtain ⟨t4, rfl⟩ := hw
  refine k_putF 3 kX5 (by decide) fX5_32 rfl rfl ⟨rfl, rfl⟩ (Nat.le_of_ble_eq_true rfl) dX5_init_48 ?_
  refine k_aload_n (a := h) 1 dX5_init_51 rfl ?_
  refine k_new [.null, .null, .null, .null, .null, .null, .null, .null, .int 0] kX0 nlX5_35 nwX0 niX0 df0 (by decide) (by decide) dX5_init_52 (fun a5 => ?_)
  refine k_dup dX5_init_55 rfl ?_
  refine k_callI (K_X0 (g := g) (h := a5)) oX0_init oiX0_init rfl rfl lX5_37 ⟨Nat.le_of_ble_eq_true rfl, Nat.le_of_ble_eq_true rfl⟩ ⟨Nat.le_of_ble_eq_true rfl, Nat.le_of_ble_eq_true rfl⟩ rfl (Nat.le_of_ble_eq_true rfl) dX5_init_56 (fun w hw => ?_)
  obtain ⟨t5, rfl⟩ := hw
  refine k_putF 4 kX5 (by decide) fX5_38 rfl rfl ⟨rfl, rfl⟩ (Nat.le_of_ble_eq_true rfl) dX5_init_59 ?_
  refine k_aload_n (a := h) 1 dX5_init_62 rfl ?_
  refine k_new [.null, .null, .null, .null, .int 0] kX3 nlX5_42 nwX3 niX3 df3 (by decide) (by decide) dX5_init_63 (fun a6 => ?_)
  refine k_dup dX5_init_66 rfl ?_
  refine k_callI (K_X3 (g := g) (h := a6)) oX3_init oiX3_init rfl rfl lX5_44 ⟨Nat.le_of_ble_eq_true rfl, Nat.le_of_ble_eq_true rfl⟩ ⟨Nat.le_of_ble_eq_true rfl, Nat.le_of_ble_eq_true rfl⟩ rfl (Nat.le_of_ble_eq_true rfl) dX5_init_67 (fun w hw => ?_)
  obtain ⟨t6, rfl⟩ := hw
  refine k_put 5 kX5 (by decide) fX5_45 rfl ⟨rfl, rfl⟩ (Nat.le_of_ble_eq_true rfl) dX5_init_70 ?_
  refine k_aload_n (a := h) 1 dX5_init_73 rfl ?_
  refine k_new [.null, .null, .null, .null, .int 0] kX3 nlX5_42 nwX3 niX3 df3 (by decide) (by decide) dX5_init_74 (fun a7 => ?_)
  refine k_dup dX5_init_77 rfl ?_
  refine k_callI (K_X3 (g := g) (h := a7)) oX3_init oiX3_init rfl rfl lX5_44 ⟨Nat.le_of_ble_eq_true rfl, Nat.le_of_ble_eq_true rfl⟩ ⟨Nat.le_of_ble_eq_true rfl, Nat.le_of_ble_eq_true rfl⟩ rfl (Nat.le_of_ble_eq_true rfl) dX5_init_78 (fun w hw => ?_)
  obtain ⟨t7, rfl⟩ := hw
  refine k_put 6 kX5 (by decide) fX5_49 rfl ⟨rfl, rfl⟩ (Nat.le_of_ble_eq_true rfl) dX5_init_81 ?_
  refine k_aload_n (a := h) 1 dX5_init_84 rfl ?_
  refine k_iconst 0 dX5_init_85 rfl ?_
  refine k_put 7 kX5 (by decide) fX5_52 rfl ⟨rfl, rfl⟩ (Nat.le_of_ble_eq_true rfl) dX5_init_86 ?_
  refine k_aload_n (a := h) 1 dX5_init_89 rfl ?_
  refine k_iconst 0 dX5_init_90 rfl ?_
  refine k_put 8 kX5 (by decide) fX5_56 rfl ⟨rfl, rfl⟩ (Nat.le_of_ble_eq_true rfl) dX5_init_91 ?_
  refine k_aload_n (a := h) 1 dX5_init_94 rfl ?_
  refine k_iconst 0 dX5_init_95 rfl ?_
  refine k_put 9 kX5 (by decide) fX5_60 rfl ⟨rfl, rfl⟩ (Nat.le_of_ble_eq_true rfl) dX5_init_96 ?_
  refine k_aload_n (a := h) 1 dX5_init_99 rfl ?_
  refine k_iconst 0 dX5_init_100 rfl ?_
  refine k_put 10 kX5 (by decide) fX5_63 rfl ⟨rfl, rfl⟩ (Nat.le_of_ble_eq_true rfl) dX5_init_101 ?_
  exact k_ret rfl (by decide) (by decide) dX5_init_104 ⟨(fun o => if o = 0 then h else if o = 1 then a1 else if o = 2 then a2 else if o = 3 then a3 else if o = 4 then a4 else if o = 5 then a5 else if o = 6 then a6 else if o = 7 then a7 else 0), (fun o => if o = 1 then t1 else if o = 2 then t2 else if o = 3 then t3 else if o = 4 then t4 else if o = 5 then t5 else if o = 6 then t6 else if o = 7 then t7 else fun _ => 0), rfl, rfl⟩
