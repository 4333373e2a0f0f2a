-- Roll and Statutes: what changes by loops; the Tape
def itP (f : Nat → Int32 × rS → Int32 × rS) : Nat → Int32 × rS → Int32 × rS
  | 0, s => s
  | j + 1, s => f j (itP f j s)
theorem sLay_fr {σ : rS} {o o' k' : Nat} {a p i' : Int32} (h : ¬ (o' = o ∧ (k' = 4 ∨ k' = 5 ∨ k' = 6))) : sLay σ o a p o' k' i' = σ o' k' i' := by
  unfold sLay
  split
  · simp only [up]
    grind
  · rfl
def fiStep (o q : Nat) (year : Int32) (n j : Nat) (s : Int32 × rS) : Int32 × rS := if riF (up s.2 o 6 (nI j) 0) o q year n = -1 then (s.1 + 1, up s.2 o 6 (nI j) 0) else (s.1, sLay (up s.2 o 6 (nI j) 0) o (riF (up s.2 o 6 (nI j) 0) o q year n) (nI j))
abbrev fiF (o q : Nat) (year : Int32) (n : Nat) (σ : rS) (j : Nat) : Int32 × rS := itP (fiStep o q year n) j (0, σ)
theorem fiF_fr {o q n : Nat} {year : Int32} {σ : rS} {o' k' : Nat} {i' : Int32} (h : ¬ (o' = o ∧ (k' = 4 ∨ k' = 5 ∨ k' = 6))) : ∀ j, (fiF o q year n σ j).2 o' k' i' = σ o' k' i' := by
  intro j
  induction j with
  | zero => rfl
  | succ j ih =>
    show (fiStep o q year n j (fiF o q year n σ j)).2 o' k' i' = _
    generalize fiF o q year n σ j = s at ih ⊢
    unfold fiStep
    split
    · simp only [up]; grind
    · show sLay _ o _ _ o' k' i' = _
      rw [sLay_fr h]; simp only [up]; grind
theorem c_X2_fillPlaces {o q n m : Nat} {year : Int32} {σ : rS} (h0 : isO o 2) (h1 : isO q 3) (hqo : ¬ q = o) (hs : σ o 7 0 = nI n) (hn : n ≤ 12) (hm : σ q 4 0 = nI m) (hm2 : m ≤ 24) : Ct mX2_fillPlaces [.inr (o, 0), .inr (q, 0), .inl year] σ (some (.inl ((fiF o q year n σ m).1))) ((fiF o q year n σ m).2) := by
  refine C_of_E rfl rfl (Nat.le_of_ble_eq_true rfl) ?_
  have loop : ∀ j, j ≤ m → E mX2_fillPlaces 5 [.inr (o, 0), .inr (q, 0), .inl year, .inl (fiF o q year n σ j).1, .inl (nI j)] [] (fiF o q year n σ j).2 (some (.inl (fiF o q year n σ m).1)) (fiF o q year n σ m).2 := by
    refine dn_ind m _ ?_ (fun j hj ih => ?_)
    · have hpl : (fiF o q year n σ m).2 q 4 0 = nI m := by rw [fiF_fr (by grind)]; exact hm
      refine e_iload dX2_fillPlaces_5 rfl ?_
      refine e_aload_n dX2_fillPlaces_7 rfl ?_
      refine e_V0 oX3_places lX2_59 ⟨Nat.le_of_ble_eq_true rfl, Nat.le_of_ble_eq_true rfl⟩ dX2_fillPlaces_8 (by first | assumption | exact ⟨by decide, rfl⟩) (Nat.le_of_ble_eq_true rfl) (c_X3_places (by first | assumption | exact ⟨by decide, rfl⟩)) ?_
      refine e_icmp_ge (tgt := 66) dX2_fillPlaces_11 (by decide) (fun h11 => ?_) (fun h11 => ?_)
      rotate_left
      · exfalso
        grind
      refine e_iload_n dX2_fillPlaces_66 rfl ?_
      exact e_ireq rfl rfl dX2_fillPlaces_67 (by first | rfl | grind) rfl
    · have hpl : (fiF o q year n σ j).2 q 4 0 = nI m := by rw [fiF_fr (by grind)]; exact hm
      have hsz : (fiF o q year n σ j).2 o 7 0 = nI n := by rw [fiF_fr (by grind)]; exact hs
      obtain ⟨f1, f2, f3, f4⟩ := nI_facts 24 hj hm2 (by decide) rfl
      change E mX2_fillPlaces 5 [.inr (o, 0), .inr (q, 0), .inl year, .inl (fiStep o q year n j (fiF o q year n σ j)).1, .inl (nI (j + 1))] [] (fiStep o q year n j (fiF o q year n σ j)).2 _ _ at ih
      generalize fiF o q year n σ j = s at ih hpl hsz ⊢
      refine e_iload dX2_fillPlaces_5 rfl ?_
      refine e_aload_n dX2_fillPlaces_7 rfl ?_
      refine e_V0 oX3_places lX2_59 ⟨Nat.le_of_ble_eq_true rfl, Nat.le_of_ble_eq_true rfl⟩ dX2_fillPlaces_8 (by first | assumption | exact ⟨by decide, rfl⟩) (Nat.le_of_ble_eq_true rfl) (c_X3_places (by first | assumption | exact ⟨by decide, rfl⟩)) ?_
      refine e_icmp_ge (tgt := 66) dX2_fillPlaces_11 (by decide) (fun h11 => ?_) (fun h11 => ?_)
      · exfalso
        grind
      refine e_iload dX2_fillPlaces_14 rfl ?_
      refine e_aload_n dX2_fillPlaces_16 rfl ?_
      refine e_getA kX2 (by first | assumption | exact ⟨by decide, rfl⟩) (by decide) fX2_30 rfl dX2_fillPlaces_17 ?_
      refine e_alen (ci := 2) (n := 24) (by first | assumption | exact ⟨by decide, rfl⟩) rfl (by decide) dX2_fillPlaces_20 ?_
      refine e_icmp_ge (tgt := 66) dX2_fillPlaces_21 (by decide) (fun h21 => ?_) (fun h21 => ?_)
      · exfalso
        grind
      refine e_aload_n dX2_fillPlaces_24 rfl ?_
      refine e_getA kX2 (by first | assumption | exact ⟨by decide, rfl⟩) (by decide) fX2_30 rfl dX2_fillPlaces_25 ?_
      refine e_iload dX2_fillPlaces_28 rfl ?_
      refine e_iconst (v := 0) dX2_fillPlaces_30 (by decide) ?_
      refine e_iast (ci := 2) (by first | assumption | exact ⟨by decide, rfl⟩) rfl (vin 24 (by decide) (by grind)) dX2_fillPlaces_31 ?_
      refine e_aload_n dX2_fillPlaces_32 rfl ?_
      refine e_aload_n dX2_fillPlaces_33 rfl ?_
      refine e_iload_n dX2_fillPlaces_34 rfl ?_
      refine e_V2 oX2_richestFit lX2_63 ⟨Nat.le_of_ble_eq_true rfl, Nat.le_of_ble_eq_true rfl⟩ dX2_fillPlaces_35 (by first | assumption | exact ⟨by decide, rfl⟩) (Nat.le_of_ble_eq_true rfl) (c_X2_richestFit (by first | assumption | exact ⟨by decide, rfl⟩) (by first | assumption | exact ⟨by decide, rfl⟩) (by rw [up_k (by decide)]; exact hsz) hn) ?_
      refine e_istore dX2_fillPlaces_38 (by decide) (Nat.le_of_ble_eq_true rfl) ?_
      refine e_iload dX2_fillPlaces_40 rfl ?_
      refine e_iconst (v := -1) dX2_fillPlaces_42 (by decide) ?_
      refine e_icmp_ne (tgt := 52) dX2_fillPlaces_43 (by decide) (fun h43 => ?_) (fun h43 => ?_)
      ·
        refine e_aload_n dX2_fillPlaces_52 rfl ?_
        refine e_iload dX2_fillPlaces_53 rfl ?_
        refine e_iload dX2_fillPlaces_55 rfl ?_
        refine e_V2v oX2_layOn lX2_67 ⟨Nat.le_of_ble_eq_true rfl, Nat.le_of_ble_eq_true rfl⟩ dX2_fillPlaces_57 (by first | assumption | exact ⟨by decide, rfl⟩) (Nat.le_of_ble_eq_true rfl) (c_X2_layOn (by first | assumption | exact ⟨by decide, rfl⟩)) ?_
        refine e_inc (1) (by decide) dX2_fillPlaces_60 rfl (by decide) (Nat.le_of_ble_eq_true rfl) ?_
        refine e_goto (tgt := 5) dX2_fillPlaces_63 (by decide) ?_
        unfold fiStep at ih
        first | rw [if_pos (by assumption)] at ih | rw [if_neg (by assumption)] at ih
        exact e_to ih (by first | rfl | (simp [lset]; done) | (simp [lset]; grind)) rfl
      ·
        refine e_inc (1) (by decide) dX2_fillPlaces_46 rfl (by decide) (Nat.le_of_ble_eq_true rfl) ?_
        refine e_goto (tgt := 60) dX2_fillPlaces_49 (by decide) ?_
        refine e_inc (1) (by decide) dX2_fillPlaces_60 rfl (by decide) (Nat.le_of_ble_eq_true rfl) ?_
        refine e_goto (tgt := 5) dX2_fillPlaces_63 (by decide) ?_
        unfold fiStep at ih
        first | rw [if_pos (by assumption)] at ih | rw [if_neg (by assumption)] at ih
        exact e_to ih (by first | rfl | (simp [lset]; done) | (simp [lset]; grind)) rfl
  refine e_iconst (v := 0) dX2_fillPlaces_0 (by decide) ?_
  refine e_istore_n dX2_fillPlaces_1 (by decide) (Nat.le_of_ble_eq_true rfl) ?_
  refine e_iconst (v := 0) dX2_fillPlaces_2 (by decide) ?_
  refine e_istore dX2_fillPlaces_3 (by decide) (Nat.le_of_ble_eq_true rfl) ?_
  exact e_to (loop 0 (Nat.zero_le _)) (by first | rfl | (simp [lset]; done) | (simp [lset]; grind)) rfl
abbrev seDue (o q : Nat) (j : Nat) (τ : rS) : Int32 := gPart τ q (gBu τ q (nI j)) (paF τ o q (nI j) j)
def seStep (o q : Nat) (year : Int32) (j : Nat) (s : Int32 × rS) : Int32 × rS := if hasM s.2 o (gB s.2 o (nI j)) then (s.1 + seDue o q j s.2, up (up (up s.2 o 0 (gB s.2 o (nI j)) (s.2 o 0 (gB s.2 o (nI j)) - seDue o q j s.2)) o 3 (gB s.2 o (nI j)) (s.2 o 3 (gB s.2 o (nI j)) + 1)) o 2 (gB s.2 o (nI j)) (year + 1 + gSet s.2 q 0)) else s
abbrev seF (o q : Nat) (year : Int32) (σ : rS) (j : Nat) : Int32 × rS := itP (seStep o q year) j (0, σ)
theorem seF_fr {o q : Nat} {year : Int32} {σ : rS} {o' k' : Nat} {i' : Int32} (h : ¬ (o' = o ∧ (k' = 0 ∨ k' = 2 ∨ k' = 3))) : ∀ j, (seF o q year σ j).2 o' k' i' = σ o' k' i' := by
  intro j
  induction j with
  | zero => rfl
  | succ j ih =>
    show (seStep o q year j (seF o q year σ j)).2 o' k' i' = _
    generalize seF o q year σ j = s at ih ⊢
    unfold seStep
    split
    · simp only [up]; grind
    · exact ih
theorem c_X2_settle {o q m : Nat} {year : Int32} {σ : rS} (h0 : isO o 2) (h1 : isO q 3) (hqo : ¬ q = o) (hm : σ q 4 0 = nI m) (hm2 : m ≤ 24) : Ct mX2_settle [.inr (o, 0), .inr (q, 0), .inl year] σ (some (.inl ((seF o q year σ m).1))) (sLd2 o 24 (sLd1 o 12 (seF o q year σ m).2)) := by
  refine C_of_E rfl rfl (Nat.le_of_ble_eq_true rfl) ?_
  have loop : ∀ j, j ≤ m → E mX2_settle 5 [.inr (o, 0), .inr (q, 0), .inl year, .inl (seF o q year σ j).1, .inl (nI j)] [] (seF o q year σ j).2 (some (.inl (seF o q year σ m).1)) (sLd2 o 24 (sLd1 o 12 (seF o q year σ m).2)) := by
    refine dn_ind m _ ?_ (fun j hj ih => ?_)
    · have hpl : (seF o q year σ m).2 q 4 0 = nI m := by rw [seF_fr (by grind)]; exact hm
      refine e_iload dX2_settle_5 rfl ?_
      refine e_aload_n dX2_settle_7 rfl ?_
      refine e_V0 oX3_places lX2_59 ⟨Nat.le_of_ble_eq_true rfl, Nat.le_of_ble_eq_true rfl⟩ dX2_settle_8 (by first | assumption | exact ⟨by decide, rfl⟩) (Nat.le_of_ble_eq_true rfl) (c_X3_places (by first | assumption | exact ⟨by decide, rfl⟩)) ?_
      refine e_icmp_ge (tgt := 90) dX2_settle_11 (by decide) (fun h11 => ?_) (fun h11 => ?_)
      rotate_left
      · exfalso
        grind
      refine e_aload_n dX2_settle_90 rfl ?_
      refine e_V0v oX2_layDownAll lX2_87 ⟨Nat.le_of_ble_eq_true rfl, Nat.le_of_ble_eq_true rfl⟩ dX2_settle_91 (by first | assumption | exact ⟨by decide, rfl⟩) (Nat.le_of_ble_eq_true rfl) (c_X2_layDownAll (by first | assumption | exact ⟨by decide, rfl⟩)) ?_
      refine e_iload_n dX2_settle_94 rfl ?_
      exact e_ireq rfl rfl dX2_settle_95 (by first | rfl | grind) rfl
    · have hpl : (seF o q year σ j).2 q 4 0 = nI m := by rw [seF_fr (by grind)]; exact hm
      obtain ⟨f1, f2, f3, f4⟩ := nI_facts 24 hj hm2 (by decide) rfl
      change E mX2_settle 5 [.inr (o, 0), .inr (q, 0), .inl year, .inl (seStep o q year j (seF o q year σ j)).1, .inl (nI (j + 1))] [] (seStep o q year j (seF o q year σ j)).2 _ _ at ih
      generalize seF o q year σ j = s at ih hpl ⊢
      have hoq : ¬ o = q := fun h => hqo h.symm
      refine e_iload dX2_settle_5 rfl ?_
      refine e_aload_n dX2_settle_7 rfl ?_
      refine e_V0 oX3_places lX2_59 ⟨Nat.le_of_ble_eq_true rfl, Nat.le_of_ble_eq_true rfl⟩ dX2_settle_8 (by first | assumption | exact ⟨by decide, rfl⟩) (Nat.le_of_ble_eq_true rfl) (c_X3_places (by first | assumption | exact ⟨by decide, rfl⟩)) ?_
      refine e_icmp_ge (tgt := 90) dX2_settle_11 (by decide) (fun h11 => ?_) (fun h11 => ?_)
      · exfalso
        grind
      refine e_aload_n dX2_settle_14 rfl ?_
      refine e_iload dX2_settle_15 rfl ?_
      refine e_V1 oX2_bearerAt lX2_82 ⟨Nat.le_of_ble_eq_true rfl, Nat.le_of_ble_eq_true rfl⟩ dX2_settle_17 (by first | assumption | exact ⟨by decide, rfl⟩) (Nat.le_of_ble_eq_true rfl) (c_X2_bearerAt (by first | assumption | exact ⟨by decide, rfl⟩)) ?_
      refine e_istore dX2_settle_20 (by decide) (Nat.le_of_ble_eq_true rfl) ?_
      refine e_aload_n dX2_settle_22 rfl ?_
      refine e_iload dX2_settle_23 rfl ?_
      refine e_V1 oX2_has lX2_37 ⟨Nat.le_of_ble_eq_true rfl, Nat.le_of_ble_eq_true rfl⟩ dX2_settle_25 (by first | assumption | exact ⟨by decide, rfl⟩) (Nat.le_of_ble_eq_true rfl) (c_X2_has (by first | assumption | exact ⟨by decide, rfl⟩)) ?_
      refine e_if_eqB (tgt := 84) dX2_settle_28 (by decide) (fun h28 => ?_) (fun h28 => ?_)
      ·
        refine e_inc (1) (by decide) dX2_settle_84 rfl (by decide) (Nat.le_of_ble_eq_true rfl) ?_
        refine e_goto (tgt := 5) dX2_settle_87 (by decide) ?_
        unfold seStep at ih
        first | rw [if_pos (by assumption)] at ih | rw [if_neg (by assumption)] at ih
        exact e_to ih (by first | rfl | (simp [lset]; done) | (simp [lset]; grind)) (by simp [up, hqo, hoq, gSet])
      ·
        refine e_aload_n dX2_settle_31 rfl ?_
        refine e_aload_n dX2_settle_32 rfl ?_
        refine e_iload dX2_settle_33 rfl ?_
        refine e_V2 oX2_partAt lX2_84 ⟨Nat.le_of_ble_eq_true rfl, Nat.le_of_ble_eq_true rfl⟩ dX2_settle_35 (by first | assumption | exact ⟨by decide, rfl⟩) (Nat.le_of_ble_eq_true rfl) (c_X2_partAt (by first | assumption | exact ⟨by decide, rfl⟩) (by first | assumption | exact ⟨by decide, rfl⟩) rfl (Nat.le_trans (Nat.le_of_lt hj) hm2)) ?_
        refine e_istore dX2_settle_38 (by decide) (Nat.le_of_ble_eq_true rfl) ?_
        refine e_aload_n dX2_settle_40 rfl ?_
        refine e_getA kX2 (by first | assumption | exact ⟨by decide, rfl⟩) (by decide) fX2_9 rfl dX2_settle_41 ?_
        refine e_iload dX2_settle_44 rfl ?_
        refine e_dup2 dX2_settle_46 ?_
        refine e_iald (ci := 2) (by first | assumption | exact ⟨by decide, rfl⟩) rfl (vin 12 (by decide) (by grind)) dX2_settle_47 ?_
        refine e_iload dX2_settle_48 rfl ?_
        refine e_isub dX2_settle_50 ?_
        refine e_iast (ci := 2) (by first | assumption | exact ⟨by decide, rfl⟩) rfl (vin 12 (by decide) (by grind)) dX2_settle_51 ?_
        refine e_iload_n dX2_settle_52 rfl ?_
        refine e_iload dX2_settle_53 rfl ?_
        refine e_iadd dX2_settle_55 ?_
        refine e_istore_n dX2_settle_56 (by decide) (Nat.le_of_ble_eq_true rfl) ?_
        refine e_aload_n dX2_settle_57 rfl ?_
        refine e_getA kX2 (by first | assumption | exact ⟨by decide, rfl⟩) (by decide) fX2_21 rfl dX2_settle_58 ?_
        refine e_iload dX2_settle_61 rfl ?_
        refine e_dup2 dX2_settle_63 ?_
        refine e_iald (ci := 2) (by first | assumption | exact ⟨by decide, rfl⟩) rfl (vin 12 (by decide) (by grind)) dX2_settle_64 ?_
        refine e_iconst (v := 1) dX2_settle_65 (by decide) ?_
        refine e_iadd dX2_settle_66 ?_
        refine e_iast (ci := 2) (by first | assumption | exact ⟨by decide, rfl⟩) rfl (vin 12 (by decide) (by grind)) dX2_settle_67 ?_
        refine e_aload_n dX2_settle_68 rfl ?_
        refine e_getA kX2 (by first | assumption | exact ⟨by decide, rfl⟩) (by decide) fX2_18 rfl dX2_settle_69 ?_
        refine e_iload dX2_settle_72 rfl ?_
        refine e_iload_n dX2_settle_74 rfl ?_
        refine e_iconst (v := 1) dX2_settle_75 (by decide) ?_
        refine e_iadd dX2_settle_76 ?_
        refine e_aload_n dX2_settle_77 rfl ?_
        refine e_iconst (v := 0) dX2_settle_78 (by decide) ?_
        refine e_V1 oX3_setting lX2_54 ⟨Nat.le_of_ble_eq_true rfl, Nat.le_of_ble_eq_true rfl⟩ dX2_settle_79 (by first | assumption | exact ⟨by decide, rfl⟩) (Nat.le_of_ble_eq_true rfl) (c_X3_setting (by first | assumption | exact ⟨by decide, rfl⟩)) ?_
        refine e_iadd dX2_settle_82 ?_
        refine e_iast (ci := 2) (by first | assumption | exact ⟨by decide, rfl⟩) rfl (vin 12 (by decide) (by grind)) dX2_settle_83 ?_
        refine e_inc (1) (by decide) dX2_settle_84 rfl (by decide) (Nat.le_of_ble_eq_true rfl) ?_
        refine e_goto (tgt := 5) dX2_settle_87 (by decide) ?_
        unfold seStep at ih
        first | rw [if_pos (by assumption)] at ih | rw [if_neg (by assumption)] at ih
        exact e_to ih (by first | rfl | (simp [lset]; done) | (simp [lset]; grind)) (by simp [up, hqo, hoq, gSet])
  refine e_iconst (v := 0) dX2_settle_0 (by decide) ?_
  refine e_istore_n dX2_settle_1 (by decide) (Nat.le_of_ble_eq_true rfl) ?_
  refine e_iconst (v := 0) dX2_settle_2 (by decide) ?_
  refine e_istore dX2_settle_3 (by decide) (Nat.le_of_ble_eq_true rfl) ?_
  exact e_to (loop 0 (Nat.zero_le _)) (by first | rfl | (simp [lset]; done) | (simp [lset]; grind)) rfl
def cpA (o a : Nat) (j : Nat) (τ : rS) : rS := up (up (up (up (up τ o 0 (nI j) (τ a 0 (nI j))) o 1 (nI j) (τ a 1 (nI j))) o 2 (nI j) (τ a 2 (nI j))) o 3 (nI j) (τ a 3 (nI j))) o 4 (nI j) (τ a 4 (nI j))
def cpB (o a : Nat) (j : Nat) (τ : rS) : rS := up (up τ o 5 (nI j) (τ a 5 (nI j))) o 6 (nI j) (τ a 6 (nI j))
def sCopy (o a : Nat) (σ : rS) : rS := itS (cpB o a) 24 (itS (cpA o a) 12 (up σ o 7 0 (σ a 7 0)))
theorem c_X2_copyFrom {o a : Nat} {σ : rS} (h0 : isO o 2) (h1 : isO a 2) (hoa : ¬ a = o) : Ct mX2_copyFrom [.inr (o, 0), .inr (a, 0)] σ none (sCopy o a σ) := by
  refine C_of_E rfl rfl (Nat.le_of_ble_eq_true rfl) ?_
  have hao : ¬ o = a := fun h => hoa h.symm
  have loop2 : ∀ j, j ≤ 24 → E mX2_copyFrom 84 [.inr (o, 0), .inr (a, 0), .inl (nI j)] [] (itS (cpB o a) j (itS (cpA o a) 12 (up σ o 7 0 (σ a 7 0)))) none (sCopy o a σ) := by
    refine dn_ind 24 _ ?_ (fun j hj ih => ?_)
    · have e24 : nI 24 = 24 := rfl
      refine e_iload_n dX2_copyFrom_84 rfl ?_
      refine e_bipush (v := 24) dX2_copyFrom_85 (by decide) ?_
      refine e_icmp_ge (tgt := 120) dX2_copyFrom_87 (by decide) (fun h87 => ?_) (fun h87 => ?_)
      rotate_left
      · exfalso
        grind
      exact e_vreq rfl dX2_copyFrom_120 rfl
    · obtain ⟨f1, f2, f3, f4⟩ := nI_facts 24 hj (Nat.le_refl _) (by decide) rfl
      have e24 : nI 24 = 24 := rfl
      refine e_iload_n dX2_copyFrom_84 rfl ?_
      refine e_bipush (v := 24) dX2_copyFrom_85 (by decide) ?_
      refine e_icmp_ge (tgt := 120) dX2_copyFrom_87 (by decide) (fun h87 => ?_) (fun h87 => ?_)
      · exfalso
        grind
      refine e_aload_n dX2_copyFrom_90 rfl ?_
      refine e_getA kX2 (by first | assumption | exact ⟨by decide, rfl⟩) (by decide) fX2_27 rfl dX2_copyFrom_91 ?_
      refine e_iload_n dX2_copyFrom_94 rfl ?_
      refine e_aload_n dX2_copyFrom_95 rfl ?_
      refine e_getA kX2 (by first | assumption | exact ⟨by decide, rfl⟩) (by decide) fX2_27 rfl dX2_copyFrom_96 ?_
      refine e_iload_n dX2_copyFrom_99 rfl ?_
      refine e_iald (ci := 2) (by first | assumption | exact ⟨by decide, rfl⟩) rfl (vin 24 (by decide) (by grind)) dX2_copyFrom_100 ?_
      refine e_iast (ci := 2) (by first | assumption | exact ⟨by decide, rfl⟩) rfl (vin 24 (by decide) (by grind)) dX2_copyFrom_101 ?_
      refine e_aload_n dX2_copyFrom_102 rfl ?_
      refine e_getA kX2 (by first | assumption | exact ⟨by decide, rfl⟩) (by decide) fX2_30 rfl dX2_copyFrom_103 ?_
      refine e_iload_n dX2_copyFrom_106 rfl ?_
      refine e_aload_n dX2_copyFrom_107 rfl ?_
      refine e_getA kX2 (by first | assumption | exact ⟨by decide, rfl⟩) (by decide) fX2_30 rfl dX2_copyFrom_108 ?_
      refine e_iload_n dX2_copyFrom_111 rfl ?_
      refine e_iald (ci := 2) (by first | assumption | exact ⟨by decide, rfl⟩) rfl (vin 24 (by decide) (by grind)) dX2_copyFrom_112 ?_
      refine e_iast (ci := 2) (by first | assumption | exact ⟨by decide, rfl⟩) rfl (vin 24 (by decide) (by grind)) dX2_copyFrom_113 ?_
      refine e_inc (1) (by decide) dX2_copyFrom_114 rfl (by decide) (Nat.le_of_ble_eq_true rfl) ?_
      refine e_goto (tgt := 84) dX2_copyFrom_117 (by decide) ?_
      exact e_to ih (by first | rfl | (simp [lset]; done) | (simp [lset]; grind)) (by simp [itS, cpB, up, hao, hoa])
  have loop1 : ∀ j, j ≤ 12 → E mX2_copyFrom 10 [.inr (o, 0), .inr (a, 0), .inl (nI j)] [] (itS (cpA o a) j (up σ o 7 0 (σ a 7 0))) none (sCopy o a σ) := by
    refine dn_ind 12 _ ?_ (fun j hj ih => ?_)
    · have e24 : nI 12 = 12 := rfl
      refine e_iload_n dX2_copyFrom_10 rfl ?_
      refine e_bipush (v := 12) dX2_copyFrom_11 (by decide) ?_
      refine e_icmp_ge (tgt := 82) dX2_copyFrom_13 (by decide) (fun h13 => ?_) (fun h13 => ?_)
      rotate_left
      · exfalso
        grind
      refine e_iconst (v := 0) dX2_copyFrom_82 (by decide) ?_
      refine e_istore_n dX2_copyFrom_83 (by decide) (Nat.le_of_ble_eq_true rfl) ?_
      exact e_to (loop2 0 (Nat.zero_le _)) (by first | rfl | (simp [lset]; done) | (simp [lset]; grind)) rfl
    · obtain ⟨f1, f2, f3, f4⟩ := nI_facts 12 hj (Nat.le_refl _) (by decide) rfl
      have e24 : nI 12 = 12 := rfl
      refine e_iload_n dX2_copyFrom_10 rfl ?_
      refine e_bipush (v := 12) dX2_copyFrom_11 (by decide) ?_
      refine e_icmp_ge (tgt := 82) dX2_copyFrom_13 (by decide) (fun h13 => ?_) (fun h13 => ?_)
      · exfalso
        grind
      refine e_aload_n dX2_copyFrom_16 rfl ?_
      refine e_getA kX2 (by first | assumption | exact ⟨by decide, rfl⟩) (by decide) fX2_9 rfl dX2_copyFrom_17 ?_
      refine e_iload_n dX2_copyFrom_20 rfl ?_
      refine e_aload_n dX2_copyFrom_21 rfl ?_
      refine e_getA kX2 (by first | assumption | exact ⟨by decide, rfl⟩) (by decide) fX2_9 rfl dX2_copyFrom_22 ?_
      refine e_iload_n dX2_copyFrom_25 rfl ?_
      refine e_iald (ci := 2) (by first | assumption | exact ⟨by decide, rfl⟩) rfl (vin 12 (by decide) (by grind)) dX2_copyFrom_26 ?_
      refine e_iast (ci := 2) (by first | assumption | exact ⟨by decide, rfl⟩) rfl (vin 12 (by decide) (by grind)) dX2_copyFrom_27 ?_
      refine e_aload_n dX2_copyFrom_28 rfl ?_
      refine e_getA kX2 (by first | assumption | exact ⟨by decide, rfl⟩) (by decide) fX2_15 rfl dX2_copyFrom_29 ?_
      refine e_iload_n dX2_copyFrom_32 rfl ?_
      refine e_aload_n dX2_copyFrom_33 rfl ?_
      refine e_getA kX2 (by first | assumption | exact ⟨by decide, rfl⟩) (by decide) fX2_15 rfl dX2_copyFrom_34 ?_
      refine e_iload_n dX2_copyFrom_37 rfl ?_
      refine e_iald (ci := 2) (by first | assumption | exact ⟨by decide, rfl⟩) rfl (vin 12 (by decide) (by grind)) dX2_copyFrom_38 ?_
      refine e_iast (ci := 2) (by first | assumption | exact ⟨by decide, rfl⟩) rfl (vin 12 (by decide) (by grind)) dX2_copyFrom_39 ?_
      refine e_aload_n dX2_copyFrom_40 rfl ?_
      refine e_getA kX2 (by first | assumption | exact ⟨by decide, rfl⟩) (by decide) fX2_18 rfl dX2_copyFrom_41 ?_
      refine e_iload_n dX2_copyFrom_44 rfl ?_
      refine e_aload_n dX2_copyFrom_45 rfl ?_
      refine e_getA kX2 (by first | assumption | exact ⟨by decide, rfl⟩) (by decide) fX2_18 rfl dX2_copyFrom_46 ?_
      refine e_iload_n dX2_copyFrom_49 rfl ?_
      refine e_iald (ci := 2) (by first | assumption | exact ⟨by decide, rfl⟩) rfl (vin 12 (by decide) (by grind)) dX2_copyFrom_50 ?_
      refine e_iast (ci := 2) (by first | assumption | exact ⟨by decide, rfl⟩) rfl (vin 12 (by decide) (by grind)) dX2_copyFrom_51 ?_
      refine e_aload_n dX2_copyFrom_52 rfl ?_
      refine e_getA kX2 (by first | assumption | exact ⟨by decide, rfl⟩) (by decide) fX2_21 rfl dX2_copyFrom_53 ?_
      refine e_iload_n dX2_copyFrom_56 rfl ?_
      refine e_aload_n dX2_copyFrom_57 rfl ?_
      refine e_getA kX2 (by first | assumption | exact ⟨by decide, rfl⟩) (by decide) fX2_21 rfl dX2_copyFrom_58 ?_
      refine e_iload_n dX2_copyFrom_61 rfl ?_
      refine e_iald (ci := 2) (by first | assumption | exact ⟨by decide, rfl⟩) rfl (vin 12 (by decide) (by grind)) dX2_copyFrom_62 ?_
      refine e_iast (ci := 2) (by first | assumption | exact ⟨by decide, rfl⟩) rfl (vin 12 (by decide) (by grind)) dX2_copyFrom_63 ?_
      refine e_aload_n dX2_copyFrom_64 rfl ?_
      refine e_getA kX2 (by first | assumption | exact ⟨by decide, rfl⟩) (by decide) fX2_24 rfl dX2_copyFrom_65 ?_
      refine e_iload_n dX2_copyFrom_68 rfl ?_
      refine e_aload_n dX2_copyFrom_69 rfl ?_
      refine e_getA kX2 (by first | assumption | exact ⟨by decide, rfl⟩) (by decide) fX2_24 rfl dX2_copyFrom_70 ?_
      refine e_iload_n dX2_copyFrom_73 rfl ?_
      refine e_iald (ci := 2) (by first | assumption | exact ⟨by decide, rfl⟩) rfl (vin 12 (by decide) (by grind)) dX2_copyFrom_74 ?_
      refine e_iast (ci := 2) (by first | assumption | exact ⟨by decide, rfl⟩) rfl (vin 12 (by decide) (by grind)) dX2_copyFrom_75 ?_
      refine e_inc (1) (by decide) dX2_copyFrom_76 rfl (by decide) (Nat.le_of_ble_eq_true rfl) ?_
      refine e_goto (tgt := 10) dX2_copyFrom_79 (by decide) ?_
      exact e_to ih (by first | rfl | (simp [lset]; done) | (simp [lset]; grind)) (by simp [itS, cpA, up, hao, hoa])
  refine e_aload_n dX2_copyFrom_0 rfl ?_
  refine e_aload_n dX2_copyFrom_1 rfl ?_
  refine e_getI kX2 (by first | assumption | exact ⟨by decide, rfl⟩) (by decide) fX2_33 rfl dX2_copyFrom_2 ?_
  refine e_putI kX2 (by first | assumption | exact ⟨by decide, rfl⟩) (by decide) fX2_33 rfl rfl rfl dX2_copyFrom_5 ?_
  refine e_iconst (v := 0) dX2_copyFrom_8 (by decide) ?_
  refine e_istore_n dX2_copyFrom_9 (by decide) (Nat.le_of_ble_eq_true rfl) ?_
  exact e_to (loop1 0 (Nat.zero_le _)) (by first | rfl | (simp [lset]; done) | (simp [lset]; grind)) rfl
def sClr (q : Nat) (σ : rS) : rS := up (itS (fun j τ => up τ q 2 (nI j) 0) 4 (itS (fun j τ => up τ q 1 (nI j) 0) 6 (itS (fun j τ => up τ q 0 (nI j) 0) 6 σ))) q 4 0 0
theorem c_X3_clear {q : Nat} {σ : rS} (h0 : isO q 3) : Ct mX3_clear [.inr (q, 0)] σ none (sClr q σ) := by
  refine C_of_E rfl rfl (Nat.le_of_ble_eq_true rfl) ?_
  have loop3 : ∀ j, j ≤ 4 → E mX3_clear 50 [.inr (q, 0), .inl (nI j)] [] (itS (fun j τ => up τ q 2 (nI j) 0) j (itS (fun j τ => up τ q 1 (nI j) 0) 6 (itS (fun j τ => up τ q 0 (nI j) 0) 6 σ))) none (sClr q σ) := by
    refine dn_ind 4 _ ?_ (fun j hj ih => ?_)
    · have e24 : nI 4 = 4 := rfl
      refine e_iload_n dX3_clear_50 rfl ?_
      refine e_aload_n dX3_clear_51 rfl ?_
      refine e_getA kX3 (by first | assumption | exact ⟨by decide, rfl⟩) (by decide) fX3_18 rfl dX3_clear_52 ?_
      refine e_alen (ci := 3) (n := 4) (by first | assumption | exact ⟨by decide, rfl⟩) rfl (by decide) dX3_clear_55 ?_
      refine e_icmp_ge (tgt := 72) dX3_clear_56 (by decide) (fun h56 => ?_) (fun h56 => ?_)
      rotate_left
      · exfalso
        grind
      refine e_aload_n dX3_clear_72 rfl ?_
      refine e_iconst (v := 0) dX3_clear_73 (by decide) ?_
      refine e_putI kX3 (by first | assumption | exact ⟨by decide, rfl⟩) (by decide) fX3_24 rfl rfl rfl dX3_clear_74 ?_
      exact e_vreq rfl dX3_clear_77 rfl
    · obtain ⟨f1, f2, f3, f4⟩ := nI_facts 4 hj (Nat.le_refl _) (by decide) rfl
      have e24 : nI 4 = 4 := rfl
      refine e_iload_n dX3_clear_50 rfl ?_
      refine e_aload_n dX3_clear_51 rfl ?_
      refine e_getA kX3 (by first | assumption | exact ⟨by decide, rfl⟩) (by decide) fX3_18 rfl dX3_clear_52 ?_
      refine e_alen (ci := 3) (n := 4) (by first | assumption | exact ⟨by decide, rfl⟩) rfl (by decide) dX3_clear_55 ?_
      refine e_icmp_ge (tgt := 72) dX3_clear_56 (by decide) (fun h56 => ?_) (fun h56 => ?_)
      · exfalso
        grind
      refine e_aload_n dX3_clear_59 rfl ?_
      refine e_getA kX3 (by first | assumption | exact ⟨by decide, rfl⟩) (by decide) fX3_18 rfl dX3_clear_60 ?_
      refine e_iload_n dX3_clear_63 rfl ?_
      refine e_iconst (v := 0) dX3_clear_64 (by decide) ?_
      refine e_iast (ci := 3) (by first | assumption | exact ⟨by decide, rfl⟩) rfl (vin 4 (by decide) (by grind)) dX3_clear_65 ?_
      refine e_inc (1) (by decide) dX3_clear_66 rfl (by decide) (Nat.le_of_ble_eq_true rfl) ?_
      refine e_goto (tgt := 50) dX3_clear_69 (by decide) ?_
      exact e_to ih (by first | rfl | (simp [lset]; done) | (simp [lset]; grind)) rfl
  have loop2 : ∀ j, j ≤ 6 → E mX3_clear 26 [.inr (q, 0), .inl (nI j)] [] (itS (fun j τ => up τ q 1 (nI j) 0) j (itS (fun j τ => up τ q 0 (nI j) 0) 6 σ)) none (sClr q σ) := by
    refine dn_ind 6 _ ?_ (fun j hj ih => ?_)
    · have e24 : nI 6 = 6 := rfl
      refine e_iload_n dX3_clear_26 rfl ?_
      refine e_aload_n dX3_clear_27 rfl ?_
      refine e_getA kX3 (by first | assumption | exact ⟨by decide, rfl⟩) (by decide) fX3_15 rfl dX3_clear_28 ?_
      refine e_alen (ci := 3) (n := 6) (by first | assumption | exact ⟨by decide, rfl⟩) rfl (by decide) dX3_clear_31 ?_
      refine e_icmp_ge (tgt := 48) dX3_clear_32 (by decide) (fun h32 => ?_) (fun h32 => ?_)
      rotate_left
      · exfalso
        grind
      refine e_iconst (v := 0) dX3_clear_48 (by decide) ?_
      refine e_istore_n dX3_clear_49 (by decide) (Nat.le_of_ble_eq_true rfl) ?_
      exact e_to (loop3 0 (Nat.zero_le _)) (by first | rfl | (simp [lset]; done) | (simp [lset]; grind)) rfl
    · obtain ⟨f1, f2, f3, f4⟩ := nI_facts 6 hj (Nat.le_refl _) (by decide) rfl
      have e24 : nI 6 = 6 := rfl
      refine e_iload_n dX3_clear_26 rfl ?_
      refine e_aload_n dX3_clear_27 rfl ?_
      refine e_getA kX3 (by first | assumption | exact ⟨by decide, rfl⟩) (by decide) fX3_15 rfl dX3_clear_28 ?_
      refine e_alen (ci := 3) (n := 6) (by first | assumption | exact ⟨by decide, rfl⟩) rfl (by decide) dX3_clear_31 ?_
      refine e_icmp_ge (tgt := 48) dX3_clear_32 (by decide) (fun h32 => ?_) (fun h32 => ?_)
      · exfalso
        grind
      refine e_aload_n dX3_clear_35 rfl ?_
      refine e_getA kX3 (by first | assumption | exact ⟨by decide, rfl⟩) (by decide) fX3_15 rfl dX3_clear_36 ?_
      refine e_iload_n dX3_clear_39 rfl ?_
      refine e_iconst (v := 0) dX3_clear_40 (by decide) ?_
      refine e_iast (ci := 3) (by first | assumption | exact ⟨by decide, rfl⟩) rfl (vin 6 (by decide) (by grind)) dX3_clear_41 ?_
      refine e_inc (1) (by decide) dX3_clear_42 rfl (by decide) (Nat.le_of_ble_eq_true rfl) ?_
      refine e_goto (tgt := 26) dX3_clear_45 (by decide) ?_
      exact e_to ih (by first | rfl | (simp [lset]; done) | (simp [lset]; grind)) rfl
  have loop1 : ∀ j, j ≤ 6 → E mX3_clear 2 [.inr (q, 0), .inl (nI j)] [] (itS (fun j τ => up τ q 0 (nI j) 0) j σ) none (sClr q σ) := by
    refine dn_ind 6 _ ?_ (fun j hj ih => ?_)
    · have e24 : nI 6 = 6 := rfl
      refine e_iload_n dX3_clear_2 rfl ?_
      refine e_aload_n dX3_clear_3 rfl ?_
      refine e_getA kX3 (by first | assumption | exact ⟨by decide, rfl⟩) (by decide) fX3_9 rfl dX3_clear_4 ?_
      refine e_alen (ci := 3) (n := 6) (by first | assumption | exact ⟨by decide, rfl⟩) rfl (by decide) dX3_clear_7 ?_
      refine e_icmp_ge (tgt := 24) dX3_clear_8 (by decide) (fun h8 => ?_) (fun h8 => ?_)
      rotate_left
      · exfalso
        grind
      refine e_iconst (v := 0) dX3_clear_24 (by decide) ?_
      refine e_istore_n dX3_clear_25 (by decide) (Nat.le_of_ble_eq_true rfl) ?_
      exact e_to (loop2 0 (Nat.zero_le _)) (by first | rfl | (simp [lset]; done) | (simp [lset]; grind)) rfl
    · obtain ⟨f1, f2, f3, f4⟩ := nI_facts 6 hj (Nat.le_refl _) (by decide) rfl
      have e24 : nI 6 = 6 := rfl
      refine e_iload_n dX3_clear_2 rfl ?_
      refine e_aload_n dX3_clear_3 rfl ?_
      refine e_getA kX3 (by first | assumption | exact ⟨by decide, rfl⟩) (by decide) fX3_9 rfl dX3_clear_4 ?_
      refine e_alen (ci := 3) (n := 6) (by first | assumption | exact ⟨by decide, rfl⟩) rfl (by decide) dX3_clear_7 ?_
      refine e_icmp_ge (tgt := 24) dX3_clear_8 (by decide) (fun h8 => ?_) (fun h8 => ?_)
      · exfalso
        grind
      refine e_aload_n dX3_clear_11 rfl ?_
      refine e_getA kX3 (by first | assumption | exact ⟨by decide, rfl⟩) (by decide) fX3_9 rfl dX3_clear_12 ?_
      refine e_iload_n dX3_clear_15 rfl ?_
      refine e_iconst (v := 0) dX3_clear_16 (by decide) ?_
      refine e_iast (ci := 3) (by first | assumption | exact ⟨by decide, rfl⟩) rfl (vin 6 (by decide) (by grind)) dX3_clear_17 ?_
      refine e_inc (1) (by decide) dX3_clear_18 rfl (by decide) (Nat.le_of_ble_eq_true rfl) ?_
      refine e_goto (tgt := 2) dX3_clear_21 (by decide) ?_
      exact e_to ih (by first | rfl | (simp [lset]; done) | (simp [lset]; grind)) rfl
  refine e_iconst (v := 0) dX3_clear_0 (by decide) ?_
  refine e_istore_n dX3_clear_1 (by decide) (Nat.le_of_ble_eq_true rfl) ?_
  exact e_to (loop1 0 (Nat.zero_le _)) (by first | rfl | (simp [lset]; done) | (simp [lset]; grind)) rfl
-- the Tape
theorem c_X4_length {o : Nat} {σ : rS} (h0 : isO o 4) : Ct mX4_length [.inr (o, 0)] σ (some (.inl (σ o 1 0))) (σ) := by
  refine C_of_E rfl rfl (Nat.le_of_ble_eq_true rfl) ?_
  refine e_aload_n dX4_length_0 rfl ?_
  refine e_getI kX4 (by first | assumption | exact ⟨by decide, rfl⟩) (by decide) fX4_15 rfl dX4_length_1 ?_
  exact e_ireq rfl rfl dX4_length_4 (by first | rfl | grind) rfl
theorem c_X4_hasRoom {o : Nat} {n : Int32} {σ : rS} (h0 : isO o 4) : Ct mX4_hasRoom [.inr (o, 0), .inl n] σ (some (.inl (bI (σ o 1 0 + n ≤ 600)))) (σ) := by
  refine C_of_E rfl rfl (Nat.le_of_ble_eq_true rfl) ?_
  refine e_aload_n dX4_hasRoom_0 rfl ?_
  refine e_getI kX4 (by first | assumption | exact ⟨by decide, rfl⟩) (by decide) fX4_15 rfl dX4_hasRoom_1 ?_
  refine e_iload_n dX4_hasRoom_4 rfl ?_
  refine e_iadd dX4_hasRoom_5 ?_
  refine e_aload_n dX4_hasRoom_6 rfl ?_
  refine e_getA kX4 (by first | assumption | exact ⟨by decide, rfl⟩) (by decide) fX4_9 rfl dX4_hasRoom_7 ?_
  refine e_alen (ci := 4) (n := 600) (by first | assumption | exact ⟨by decide, rfl⟩) rfl (by decide) dX4_hasRoom_10 ?_
  refine e_icmp_gt (tgt := 18) dX4_hasRoom_11 (by decide) (fun h11 => ?_) (fun h11 => ?_)
  ·
    refine e_iconst (v := 0) dX4_hasRoom_18 (by decide) ?_
    exact e_ret0 rfl dX4_hasRoom_19 (by grind) rfl
  ·
    refine e_iconst (v := 1) dX4_hasRoom_14 (by decide) ?_
    refine e_goto (tgt := 19) dX4_hasRoom_15 (by decide) ?_
    exact e_ret1 rfl dX4_hasRoom_19 (by grind) rfl
abbrev gAt (σ : rS) (o : Nat) (i : Int32) : Int32 := if 0 ≤ i ∧ i < 600 then σ o 0 i &&& 255 else -1
theorem c_X4_at {o : Nat} {i : Int32} {σ : rS} (h0 : isO o 4) : Ct mX4_at [.inr (o, 0), .inl i] σ (some (.inl (gAt σ o i))) (σ) := by
  refine C_of_E rfl rfl (Nat.le_of_ble_eq_true rfl) ?_
  refine e_iload_n dX4_at_0 rfl ?_
  refine e_if_lt (tgt := 26) dX4_at_1 (by decide) (fun h1 => ?_) (fun h1 => ?_)
  ·
    refine e_iconst (v := -1) dX4_at_26 (by decide) ?_
    exact e_ireq rfl rfl dX4_at_27 (by first | rfl | grind) rfl
  ·
    refine e_iload_n dX4_at_4 rfl ?_
    refine e_aload_n dX4_at_5 rfl ?_
    refine e_getA kX4 (by first | assumption | exact ⟨by decide, rfl⟩) (by decide) fX4_9 rfl dX4_at_6 ?_
    refine e_alen (ci := 4) (n := 600) (by first | assumption | exact ⟨by decide, rfl⟩) rfl (by decide) dX4_at_9 ?_
    refine e_icmp_ge (tgt := 26) dX4_at_10 (by decide) (fun h10 => ?_) (fun h10 => ?_)
    ·
      refine e_iconst (v := -1) dX4_at_26 (by decide) ?_
      exact e_ireq rfl rfl dX4_at_27 (by first | rfl | grind) rfl
    ·
      refine e_aload_n dX4_at_13 rfl ?_
      refine e_getA kX4 (by first | assumption | exact ⟨by decide, rfl⟩) (by decide) fX4_9 rfl dX4_at_14 ?_
      refine e_iload_n dX4_at_17 rfl ?_
      refine e_bald (ci := 4) (by first | assumption | exact ⟨by decide, rfl⟩) rfl (vin 600 (by decide) (by grind)) dX4_at_18 ?_
      refine e_sipush (v := 255) dX4_at_19 (by decide) ?_
      refine e_iand dX4_at_22 ?_
      refine e_goto (tgt := 27) dX4_at_23 (by decide) ?_
      exact e_ireq rfl rfl dX4_at_27 (by first | rfl | grind) rfl
theorem c_X4_clear {o : Nat} {σ : rS} (h0 : isO o 4) : Ct mX4_clear [.inr (o, 0)] σ none (up σ o 1 0 0) := by
  refine C_of_E rfl rfl (Nat.le_of_ble_eq_true rfl) ?_
  refine e_aload_n dX4_clear_0 rfl ?_
  refine e_iconst (v := 0) dX4_clear_1 (by decide) ?_
  refine e_putI kX4 (by first | assumption | exact ⟨by decide, rfl⟩) (by decide) fX4_15 rfl rfl rfl dX4_clear_2 ?_
  exact e_vreq rfl dX4_clear_5 rfl
def byJ (w : Int32) (j : Nat) : Int32 := ((w >>> ((24 - 8 * nI j) &&& 31)).toInt8.toInt32).toInt8.toInt32
def apF (o : Nat) (w : Int32) : Nat → rS → rS := itS (fun j τ => up (up τ o 0 (τ o 1 0) (byJ w j)) o 1 0 (τ o 1 0 + 1))
theorem apF_len {o : Nat} {w : Int32} {σ : rS} : ∀ j, apF o w j σ o 1 0 = σ o 1 0 + nI j := by
  intro j
  induction j with
  | zero => show σ o 1 0 = σ o 1 0 + 0; grind
  | succ j ih =>
    show up (up (apF o w j σ) o 0 _ _) o 1 0 (apF o w j σ o 1 0 + 1) o 1 0 = _
    rw [up_self, ih, nI_succ]
    grind
theorem apF_s {o : Nat} {w : Int32} {σ : rS} (j : Nat) : apF o w (j + 1) σ = up (up (apF o w j σ) o 0 (apF o w j σ o 1 0) (byJ w j)) o 1 0 (apF o w j σ o 1 0 + 1) := rfl
theorem c_X4_append {o : Nat} {w : Int32} {σ : rS} (h0 : isO o 4) (hl : 0 ≤ σ o 1 0 ∧ σ o 1 0 ≤ 596) : Ct mX4_append [.inr (o, 0), .inl w] σ none (apF o w 4 σ) := by
  refine C_of_E rfl rfl (Nat.le_of_ble_eq_true rfl) ?_
  have loop : ∀ j, j ≤ 4 → E mX4_append 3 [.inr (o, 0), .inl w, .inl (24 - 8 * nI j)] [] (apF o w j σ) none (apF o w 4 σ) := by
    refine dn_ind 4 _ ?_ (fun j hj ih => ?_)
    · have e4 : nI 4 = 4 := rfl
      refine e_iload_n dX4_append_3 rfl ?_
      refine e_if_lt (tgt := 55) dX4_append_4 (by decide) (fun h4 => ?_) (fun h4 => ?_)
      rotate_left
      · exfalso
        grind
      exact e_vreq rfl dX4_append_55 rfl
    · obtain ⟨f1, f2, f3, f4⟩ := nI_facts 4 hj (Nat.le_refl _) (by decide) rfl
      have e4 : nI 4 = 4 := rfl
      have hlen := apF_len (o := o) (w := w) (σ := σ) j
      refine e_iload_n dX4_append_3 rfl ?_
      refine e_if_lt (tgt := 55) dX4_append_4 (by decide) (fun h4 => ?_) (fun h4 => ?_)
      · exfalso
        grind
      refine e_aload_n dX4_append_7 rfl ?_
      refine e_getI kX4 (by first | assumption | exact ⟨by decide, rfl⟩) (by decide) fX4_15 rfl dX4_append_8 ?_
      refine e_if_lt (tgt := 49) dX4_append_11 (by decide) (fun h11 => ?_) (fun h11 => ?_)
      · exfalso
        grind
      refine e_aload_n dX4_append_14 rfl ?_
      refine e_getI kX4 (by first | assumption | exact ⟨by decide, rfl⟩) (by decide) fX4_15 rfl dX4_append_15 ?_
      refine e_aload_n dX4_append_18 rfl ?_
      refine e_getA kX4 (by first | assumption | exact ⟨by decide, rfl⟩) (by decide) fX4_9 rfl dX4_append_19 ?_
      refine e_alen (ci := 4) (n := 600) (by first | assumption | exact ⟨by decide, rfl⟩) rfl (by decide) dX4_append_22 ?_
      refine e_icmp_ge (tgt := 49) dX4_append_23 (by decide) (fun h23 => ?_) (fun h23 => ?_)
      · exfalso
        grind
      refine e_aload_n dX4_append_26 rfl ?_
      refine e_getA kX4 (by first | assumption | exact ⟨by decide, rfl⟩) (by decide) fX4_9 rfl dX4_append_27 ?_
      refine e_aload_n dX4_append_30 rfl ?_
      refine e_getI kX4 (by first | assumption | exact ⟨by decide, rfl⟩) (by decide) fX4_15 rfl dX4_append_31 ?_
      refine e_iload_n dX4_append_34 rfl ?_
      refine e_iload_n dX4_append_35 rfl ?_
      refine e_ishr dX4_append_36 ?_
      refine e_i2b dX4_append_37 ?_
      refine e_bast (ci := 4) (by first | assumption | exact ⟨by decide, rfl⟩) rfl (vin 600 (by decide) (by grind)) dX4_append_38 ?_
      refine e_aload_n dX4_append_39 rfl ?_
      refine e_dup dX4_append_40 ?_
      refine e_getI kX4 (by first | assumption | exact ⟨by decide, rfl⟩) (by decide) fX4_15 rfl dX4_append_41 ?_
      refine e_iconst (v := 1) dX4_append_44 (by decide) ?_
      refine e_iadd dX4_append_45 ?_
      refine e_putI kX4 (by first | assumption | exact ⟨by decide, rfl⟩) (by decide) fX4_15 rfl rfl rfl dX4_append_46 ?_
      refine e_inc (-8) (by decide) dX4_append_49 rfl (by decide) (Nat.le_of_ble_eq_true rfl) ?_
      refine e_goto (tgt := 3) dX4_append_52 (by decide) ?_
      exact e_to ih (by simp [lset]; grind) (by rw [apF_s]; simp [up, byJ])
  refine e_bipush (v := 24) dX4_append_0 (by decide) ?_
  refine e_istore_n dX4_append_2 (by decide) (Nat.le_of_ble_eq_true rfl) ?_
  exact e_to (loop 0 (Nat.zero_le _)) (by simp [lset]; decide) rfl
