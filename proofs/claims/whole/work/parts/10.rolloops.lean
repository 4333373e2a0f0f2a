-- Roll: the loops
def itS (f : Nat → rS → rS) : Nat → rS → rS
  | 0, σ => σ
  | j + 1, σ => f j (itS f j σ)
abbrev fitB (σ : rS) (o q : Nat) (man year : Int32) : Prop := hasM σ o man ∧ gSet σ q 1 ≤ σ o 0 man ∧ σ o 2 man ≤ year ∧ σ o 4 man = -1
theorem c_X2_isFit {o q : Nat} {man year : Int32} {σ : rS} (h0 : isO o 2) (h1 : isO q 3) : Ct mX2_isFit [.inr (o, 0), .inl man, .inr (q, 0), .inl year] σ (some (.inl (bI (fitB σ o q man year)))) (σ) := by
  refine C_of_E rfl rfl (Nat.le_of_ble_eq_true rfl) ?_
  refine e_aload_n dX2_isFit_0 rfl ?_
  refine e_iload_n dX2_isFit_1 rfl ?_
  refine e_V1 oX2_has lX2_37 ⟨Nat.le_of_ble_eq_true rfl, Nat.le_of_ble_eq_true rfl⟩ dX2_isFit_2 (by first | assumption | exact ⟨by decide, rfl⟩) (Nat.le_of_ble_eq_true rfl) (c_X2_has (by first | assumption | exact ⟨by decide, rfl⟩)) ?_
  refine e_if_eqB (tgt := 46) dX2_isFit_5 (by decide) (fun h5 => ?_) (fun h5 => ?_)
  ·
    refine e_iconst (v := 0) dX2_isFit_46 (by decide) ?_
    exact e_ret0 rfl dX2_isFit_47 (by grind) rfl
  ·
    refine e_aload_n dX2_isFit_8 rfl ?_
    refine e_getA kX2 (by first | assumption | exact ⟨by decide, rfl⟩) (by decide) fX2_9 rfl dX2_isFit_9 ?_
    refine e_iload_n dX2_isFit_12 rfl ?_
    refine e_iald (ci := 2) (by first | assumption | exact ⟨by decide, rfl⟩) rfl (vin 12 (by decide) (by grind)) dX2_isFit_13 ?_
    refine e_aload_n dX2_isFit_14 rfl ?_
    refine e_iconst (v := 1) dX2_isFit_15 (by decide) ?_
    refine e_V1 oX3_setting lX2_54 ⟨Nat.le_of_ble_eq_true rfl, Nat.le_of_ble_eq_true rfl⟩ dX2_isFit_16 (by first | assumption | exact ⟨by decide, rfl⟩) (Nat.le_of_ble_eq_true rfl) (c_X3_setting (by first | assumption | exact ⟨by decide, rfl⟩)) ?_
    refine e_icmp_lt (tgt := 46) dX2_isFit_19 (by decide) (fun h19 => ?_) (fun h19 => ?_)
    ·
      refine e_iconst (v := 0) dX2_isFit_46 (by decide) ?_
      exact e_ret0 rfl dX2_isFit_47 (by grind) rfl
    ·
      refine e_aload_n dX2_isFit_22 rfl ?_
      refine e_getA kX2 (by first | assumption | exact ⟨by decide, rfl⟩) (by decide) fX2_18 rfl dX2_isFit_23 ?_
      refine e_iload_n dX2_isFit_26 rfl ?_
      refine e_iald (ci := 2) (by first | assumption | exact ⟨by decide, rfl⟩) rfl (vin 12 (by decide) (by grind)) dX2_isFit_27 ?_
      refine e_iload_n dX2_isFit_28 rfl ?_
      refine e_icmp_gt (tgt := 46) dX2_isFit_29 (by decide) (fun h29 => ?_) (fun h29 => ?_)
      ·
        refine e_iconst (v := 0) dX2_isFit_46 (by decide) ?_
        exact e_ret0 rfl dX2_isFit_47 (by grind) rfl
      ·
        refine e_aload_n dX2_isFit_32 rfl ?_
        refine e_getA kX2 (by first | assumption | exact ⟨by decide, rfl⟩) (by decide) fX2_24 rfl dX2_isFit_33 ?_
        refine e_iload_n dX2_isFit_36 rfl ?_
        refine e_iald (ci := 2) (by first | assumption | exact ⟨by decide, rfl⟩) rfl (vin 12 (by decide) (by grind)) dX2_isFit_37 ?_
        refine e_iconst (v := -1) dX2_isFit_38 (by decide) ?_
        refine e_icmp_ne (tgt := 46) dX2_isFit_39 (by decide) (fun h39 => ?_) (fun h39 => ?_)
        ·
          refine e_iconst (v := 0) dX2_isFit_46 (by decide) ?_
          exact e_ret0 rfl dX2_isFit_47 (by grind) rfl
        ·
          refine e_iconst (v := 1) dX2_isFit_42 (by decide) ?_
          refine e_goto (tgt := 47) dX2_isFit_43 (by decide) ?_
          exact e_ret1 rfl dX2_isFit_47 (by grind) rfl
def rkF (σ : rS) (o : Nat) (man : Int32) : Nat → Int32
  | 0 => 0
  | j + 1 => if 0 < gM σ o 0 (nI j) 0 - gM σ o 0 man 0 ∨ (gM σ o 0 (nI j) 0 - gM σ o 0 man 0 = 0 ∧ nI j < man) then rkF σ o man j + 1 else rkF σ o man j
theorem c_X2_rankOf {o n : Nat} {man : Int32} {σ : rS} (h0 : isO o 2) (hs : σ o 7 0 = nI n) (hn : n ≤ 12) : Ct mX2_rankOf [.inr (o, 0), .inl man] σ (some (.inl (rkF σ o man n))) (σ) := by
  refine C_of_E rfl rfl (Nat.le_of_ble_eq_true rfl) ?_
  have loop : ∀ j, j ≤ n → E mX2_rankOf 4 [.inr (o, 0), .inl man, .inl (rkF σ o man j), .inl (nI j)] [] σ (some (.inl (rkF σ o man n))) σ := by
    refine dn_ind n _ ?_ (fun j hj ih => ?_)
    · 
      refine e_iload_n dX2_rankOf_4 rfl ?_
      refine e_aload_n dX2_rankOf_5 rfl ?_
      refine e_getI kX2 (by first | assumption | exact ⟨by decide, rfl⟩) (by decide) fX2_33 rfl dX2_rankOf_6 ?_
      refine e_icmp_ge (tgt := 49) dX2_rankOf_9 (by decide) (fun h9 => ?_) (fun h9 => ?_)
      rotate_left
      · exfalso
        grind
      refine e_iload_n dX2_rankOf_49 rfl ?_
      exact e_ireq rfl rfl dX2_rankOf_50 (by first | rfl | grind) rfl
    · obtain ⟨f1, f2, f3, f4⟩ := nI_facts 12 hj hn (by decide) rfl
      refine e_iload_n dX2_rankOf_4 rfl ?_
      refine e_aload_n dX2_rankOf_5 rfl ?_
      refine e_getI kX2 (by first | assumption | exact ⟨by decide, rfl⟩) (by decide) fX2_33 rfl dX2_rankOf_6 ?_
      refine e_icmp_ge (tgt := 49) dX2_rankOf_9 (by decide) (fun h9 => ?_) (fun h9 => ?_)
      · exfalso
        grind
      refine e_aload_n dX2_rankOf_12 rfl ?_
      refine e_iload_n dX2_rankOf_13 rfl ?_
      refine e_V1 oX2_declaredOf lX2_41 ⟨Nat.le_of_ble_eq_true rfl, Nat.le_of_ble_eq_true rfl⟩ dX2_rankOf_14 (by first | assumption | exact ⟨by decide, rfl⟩) (Nat.le_of_ble_eq_true rfl) (c_X2_declaredOf (by first | assumption | exact ⟨by decide, rfl⟩)) ?_
      refine e_aload_n dX2_rankOf_17 rfl ?_
      refine e_iload_n dX2_rankOf_18 rfl ?_
      refine e_V1 oX2_declaredOf lX2_41 ⟨Nat.le_of_ble_eq_true rfl, Nat.le_of_ble_eq_true rfl⟩ dX2_rankOf_19 (by first | assumption | exact ⟨by decide, rfl⟩) (Nat.le_of_ble_eq_true rfl) (c_X2_declaredOf (by first | assumption | exact ⟨by decide, rfl⟩)) ?_
      refine e_isub dX2_rankOf_22 ?_
      refine e_istore dX2_rankOf_23 (by decide) (Nat.le_of_ble_eq_true rfl) ?_
      refine e_iload dX2_rankOf_25 rfl ?_
      refine e_if_gt (tgt := 40) dX2_rankOf_27 (by decide) (fun h27 => ?_) (fun h27 => ?_)
      ·
        refine e_inc (1) (by decide) dX2_rankOf_40 rfl (by decide) (Nat.le_of_ble_eq_true rfl) ?_
        refine e_inc (1) (by decide) dX2_rankOf_43 rfl (by decide) (Nat.le_of_ble_eq_true rfl) ?_
        refine e_goto (tgt := 4) dX2_rankOf_46 (by decide) ?_
        exact e_to ih (by first | rfl | (simp [lset]; done) | (simp [lset]; grind [rkF])) rfl
      ·
        refine e_iload dX2_rankOf_30 rfl ?_
        refine e_if_ne (tgt := 43) dX2_rankOf_32 (by decide) (fun h32 => ?_) (fun h32 => ?_)
        ·
          refine e_inc (1) (by decide) dX2_rankOf_43 rfl (by decide) (Nat.le_of_ble_eq_true rfl) ?_
          refine e_goto (tgt := 4) dX2_rankOf_46 (by decide) ?_
          exact e_to ih (by first | rfl | (simp [lset]; done) | (simp [lset]; grind [rkF])) rfl
        ·
          refine e_iload_n dX2_rankOf_35 rfl ?_
          refine e_iload_n dX2_rankOf_36 rfl ?_
          refine e_icmp_ge (tgt := 43) dX2_rankOf_37 (by decide) (fun h37 => ?_) (fun h37 => ?_)
          ·
            refine e_inc (1) (by decide) dX2_rankOf_43 rfl (by decide) (Nat.le_of_ble_eq_true rfl) ?_
            refine e_goto (tgt := 4) dX2_rankOf_46 (by decide) ?_
            exact e_to ih (by first | rfl | (simp [lset]; done) | (simp [lset]; grind [rkF])) rfl
          ·
            refine e_inc (1) (by decide) dX2_rankOf_40 rfl (by decide) (Nat.le_of_ble_eq_true rfl) ?_
            refine e_inc (1) (by decide) dX2_rankOf_43 rfl (by decide) (Nat.le_of_ble_eq_true rfl) ?_
            refine e_goto (tgt := 4) dX2_rankOf_46 (by decide) ?_
            exact e_to ih (by first | rfl | (simp [lset]; done) | (simp [lset]; grind [rkF])) rfl
  refine e_iconst (v := 0) dX2_rankOf_0 (by decide) ?_
  refine e_istore_n dX2_rankOf_1 (by decide) (Nat.le_of_ble_eq_true rfl) ?_
  refine e_iconst (v := 0) dX2_rankOf_2 (by decide) ?_
  refine e_istore_n dX2_rankOf_3 (by decide) (Nat.le_of_ble_eq_true rfl) ?_
  exact e_to (loop 0 (Nat.zero_le _)) (by first | rfl | (simp [lset]; done) | (simp [lset]; grind [rkF])) rfl
/-- the first of rank k from j on -/
def fmF (σ : rS) (o n : Nat) (k : Int32) : Nat → Nat → Int32
  | 0, _ => -1
  | c + 1, j => if rkF σ o (nI j) n = k then nI j else fmF σ o n k c (j + 1)
theorem c_X2_manOfRank {o n : Nat} {k : Int32} {σ : rS} (h0 : isO o 2) (hs : σ o 7 0 = nI n) (hn : n ≤ 12) : Ct mX2_manOfRank [.inr (o, 0), .inl k] σ (some (.inl (fmF σ o n k n 0))) (σ) := by
  refine C_of_E rfl rfl (Nat.le_of_ble_eq_true rfl) ?_
  have loop : ∀ c j, j + c = n → E mX2_manOfRank 2 [.inr (o, 0), .inl k, .inl (nI j)] [] σ (some (.inl (fmF σ o n k c j))) σ := by
    intro c
    induction c with
    | zero =>
      intro j hj
      have hjn : j = n := by omega
      subst hjn
      refine e_iload_n dX2_manOfRank_2 rfl ?_
      refine e_aload_n dX2_manOfRank_3 rfl ?_
      refine e_getI kX2 (by first | assumption | exact ⟨by decide, rfl⟩) (by decide) fX2_33 rfl dX2_manOfRank_4 ?_
      refine e_icmp_ge (tgt := 27) dX2_manOfRank_7 (by decide) (fun h7 => ?_) (fun h7 => ?_)
      rotate_left
      · exfalso
        grind
      refine e_iconst (v := -1) dX2_manOfRank_27 (by decide) ?_
      exact e_ireq rfl rfl dX2_manOfRank_28 (by first | rfl | grind) rfl
    | succ c ih =>
      intro j hj
      obtain ⟨f1, f2, f3, f4⟩ := nI_facts (j := j) 12 (by omega) hn (by decide) rfl
      refine e_iload_n dX2_manOfRank_2 rfl ?_
      refine e_aload_n dX2_manOfRank_3 rfl ?_
      refine e_getI kX2 (by first | assumption | exact ⟨by decide, rfl⟩) (by decide) fX2_33 rfl dX2_manOfRank_4 ?_
      refine e_icmp_ge (tgt := 27) dX2_manOfRank_7 (by decide) (fun h7 => ?_) (fun h7 => ?_)
      · exfalso
        grind
      refine e_aload_n dX2_manOfRank_10 rfl ?_
      refine e_iload_n dX2_manOfRank_11 rfl ?_
      refine e_V1 oX2_rankOf lX2_51 ⟨Nat.le_of_ble_eq_true rfl, Nat.le_of_ble_eq_true rfl⟩ dX2_manOfRank_12 (by first | assumption | exact ⟨by decide, rfl⟩) (Nat.le_of_ble_eq_true rfl) (c_X2_rankOf (by first | assumption | exact ⟨by decide, rfl⟩) hs hn) ?_
      refine e_iload_n dX2_manOfRank_15 rfl ?_
      refine e_icmp_ne (tgt := 21) dX2_manOfRank_16 (by decide) (fun h16 => ?_) (fun h16 => ?_)
      ·
        refine e_inc (1) (by decide) dX2_manOfRank_21 rfl (by decide) (Nat.le_of_ble_eq_true rfl) ?_
        refine e_goto (tgt := 2) dX2_manOfRank_24 (by decide) ?_
        rw [fmF, if_neg (by grind)]
        exact e_to (ih (j + 1) (by omega)) (by first | rfl | (simp [lset]; done) | (simp [lset]; grind)) rfl
      ·
        refine e_iload_n dX2_manOfRank_19 rfl ?_
        exact e_ireq rfl rfl dX2_manOfRank_20 (by rw [fmF, if_pos (by grind)]) rfl
  refine e_iconst (v := 0) dX2_manOfRank_0 (by decide) ?_
  refine e_istore_n dX2_manOfRank_1 (by decide) (Nat.le_of_ble_eq_true rfl) ?_
  exact e_to (loop n 0 (by omega)) (by first | rfl | (simp [lset]; done) | (simp [lset]; grind)) rfl
def riF (σ : rS) (o q : Nat) (year : Int32) : Nat → Int32
  | 0 => -1
  | j + 1 => if fitB σ o q (nI j) year ∧ (riF σ o q year j = -1 ∨ gM σ o 0 (riF σ o q year j) 0 < gM σ o 0 (nI j) 0) then nI j else riF σ o q year j
theorem c_X2_richestFit {o q n : Nat} {year : Int32} {σ : rS} (h0 : isO o 2) (h1 : isO q 3) (hs : σ o 7 0 = nI n) (hn : n ≤ 12) : Ct mX2_richestFit [.inr (o, 0), .inr (q, 0), .inl year] σ (some (.inl (riF σ o q year n))) (σ) := by
  refine C_of_E rfl rfl (Nat.le_of_ble_eq_true rfl) ?_
  have loop : ∀ j, j ≤ n → E mX2_richestFit 5 [.inr (o, 0), .inr (q, 0), .inl year, .inl (riF σ o q year j), .inl (nI j)] [] σ (some (.inl (riF σ o q year n))) σ := by
    refine dn_ind n _ ?_ (fun j hj ih => ?_)
    ·
      refine e_iload dX2_richestFit_5 rfl ?_
      refine e_aload_n dX2_richestFit_7 rfl ?_
      refine e_getI kX2 (by first | assumption | exact ⟨by decide, rfl⟩) (by decide) fX2_33 rfl dX2_richestFit_8 ?_
      refine e_icmp_ge (tgt := 53) dX2_richestFit_11 (by decide) (fun h11 => ?_) (fun h11 => ?_)
      rotate_left
      · exfalso
        grind
      refine e_iload_n dX2_richestFit_53 rfl ?_
      exact e_ireq rfl rfl dX2_richestFit_54 (by first | rfl | grind) rfl
    · obtain ⟨f1, f2, f3, f4⟩ := nI_facts 12 hj hn (by decide) rfl
      refine e_iload dX2_richestFit_5 rfl ?_
      refine e_aload_n dX2_richestFit_7 rfl ?_
      refine e_getI kX2 (by first | assumption | exact ⟨by decide, rfl⟩) (by decide) fX2_33 rfl dX2_richestFit_8 ?_
      refine e_icmp_ge (tgt := 53) dX2_richestFit_11 (by decide) (fun h11 => ?_) (fun h11 => ?_)
      · exfalso
        grind
      refine e_aload_n dX2_richestFit_14 rfl ?_
      refine e_iload dX2_richestFit_15 rfl ?_
      refine e_aload_n dX2_richestFit_17 rfl ?_
      refine e_iload_n dX2_richestFit_18 rfl ?_
      refine e_V3 oX2_isFit lX2_71 ⟨Nat.le_of_ble_eq_true rfl, Nat.le_of_ble_eq_true rfl⟩ dX2_richestFit_19 (by first | assumption | exact ⟨by decide, rfl⟩) (Nat.le_of_ble_eq_true rfl) (c_X2_isFit (by first | assumption | exact ⟨by decide, rfl⟩) (by first | assumption | exact ⟨by decide, rfl⟩)) ?_
      refine e_if_eqB (tgt := 47) dX2_richestFit_22 (by decide) (fun h22 => ?_) (fun h22 => ?_)
      ·
        refine e_inc (1) (by decide) dX2_richestFit_47 rfl (by decide) (Nat.le_of_ble_eq_true rfl) ?_
        refine e_goto (tgt := 5) dX2_richestFit_50 (by decide) ?_
        exact e_to ih (by first | rfl | (simp [lset]; done) | (simp [lset]; grind [riF])) rfl
      ·
        refine e_iload_n dX2_richestFit_25 rfl ?_
        refine e_iconst (v := -1) dX2_richestFit_26 (by decide) ?_
        refine e_icmp_eq (tgt := 44) dX2_richestFit_27 (by decide) (fun h27 => ?_) (fun h27 => ?_)
        ·
          refine e_iload dX2_richestFit_44 rfl ?_
          refine e_istore_n dX2_richestFit_46 (by decide) (Nat.le_of_ble_eq_true rfl) ?_
          refine e_inc (1) (by decide) dX2_richestFit_47 rfl (by decide) (Nat.le_of_ble_eq_true rfl) ?_
          refine e_goto (tgt := 5) dX2_richestFit_50 (by decide) ?_
          exact e_to ih (by first | rfl | (simp [lset]; done) | (simp [lset]; grind [riF])) rfl
        ·
          refine e_aload_n dX2_richestFit_30 rfl ?_
          refine e_iload dX2_richestFit_31 rfl ?_
          refine e_V1 oX2_declaredOf lX2_41 ⟨Nat.le_of_ble_eq_true rfl, Nat.le_of_ble_eq_true rfl⟩ dX2_richestFit_33 (by first | assumption | exact ⟨by decide, rfl⟩) (Nat.le_of_ble_eq_true rfl) (c_X2_declaredOf (by first | assumption | exact ⟨by decide, rfl⟩)) ?_
          refine e_aload_n dX2_richestFit_36 rfl ?_
          refine e_iload_n dX2_richestFit_37 rfl ?_
          refine e_V1 oX2_declaredOf lX2_41 ⟨Nat.le_of_ble_eq_true rfl, Nat.le_of_ble_eq_true rfl⟩ dX2_richestFit_38 (by first | assumption | exact ⟨by decide, rfl⟩) (Nat.le_of_ble_eq_true rfl) (c_X2_declaredOf (by first | assumption | exact ⟨by decide, rfl⟩)) ?_
          refine e_icmp_le (tgt := 47) dX2_richestFit_41 (by decide) (fun h41 => ?_) (fun h41 => ?_)
          ·
            refine e_inc (1) (by decide) dX2_richestFit_47 rfl (by decide) (Nat.le_of_ble_eq_true rfl) ?_
            refine e_goto (tgt := 5) dX2_richestFit_50 (by decide) ?_
            exact e_to ih (by first | rfl | (simp [lset]; done) | (simp [lset]; grind [riF])) rfl
          ·
            refine e_iload dX2_richestFit_44 rfl ?_
            refine e_istore_n dX2_richestFit_46 (by decide) (Nat.le_of_ble_eq_true rfl) ?_
            refine e_inc (1) (by decide) dX2_richestFit_47 rfl (by decide) (Nat.le_of_ble_eq_true rfl) ?_
            refine e_goto (tgt := 5) dX2_richestFit_50 (by decide) ?_
            exact e_to ih (by first | rfl | (simp [lset]; done) | (simp [lset]; grind [riF])) rfl
  refine e_iconst (v := -1) dX2_richestFit_0 (by decide) ?_
  refine e_istore_n dX2_richestFit_1 (by decide) (Nat.le_of_ble_eq_true rfl) ?_
  refine e_iconst (v := 0) dX2_richestFit_2 (by decide) ?_
  refine e_istore dX2_richestFit_3 (by decide) (Nat.le_of_ble_eq_true rfl) ?_
  exact e_to (loop 0 (Nat.zero_le _)) (by first | rfl | (simp [lset]; done) | (simp [lset]; grind [riF])) rfl
/-- how many places of the burden ahead are borne -/
def paF (σ : rS) (o q : Nat) (p : Int32) : Nat → Int32
  | 0 => 0
  | j + 1 => if gBu σ q (nI j) = gBu σ q p ∧ ¬ σ o 5 (nI j) = -1 then paF σ o q p j + 1 else paF σ o q p j
theorem c_X2_partAt {o q n : Nat} {p : Int32} {σ : rS} (h0 : isO o 2) (h1 : isO q 3) (hp : p = nI n) (hn : n ≤ 24) : Ct mX2_partAt [.inr (o, 0), .inr (q, 0), .inl p] σ (some (.inl (gPart σ q (gBu σ q p) (paF σ o q p n)))) (σ) := by
  refine C_of_E rfl rfl (Nat.le_of_ble_eq_true rfl) ?_
  have loop : ∀ j, j ≤ n → E mX2_partAt 12 [.inr (o, 0), .inr (q, 0), .inl p, .inl (gBu σ q p), .inl (paF σ o q p j), .inl (nI j)] [] σ (some (.inl (gPart σ q (gBu σ q p) (paF σ o q p n)))) σ := by
    refine dn_ind n _ ?_ (fun j hj ih => ?_)
    ·
      refine e_iload dX2_partAt_12 rfl ?_
      refine e_iload_n dX2_partAt_14 rfl ?_
      refine e_icmp_ge (tgt := 58) dX2_partAt_15 (by decide) (fun h15 => ?_) (fun h15 => ?_)
      rotate_left
      · exfalso
        grind
      refine e_aload_n dX2_partAt_58 rfl ?_
      refine e_iload_n dX2_partAt_59 rfl ?_
      refine e_iload dX2_partAt_60 rfl ?_
      refine e_V2 oX3_partBehind lX2_78 ⟨Nat.le_of_ble_eq_true rfl, Nat.le_of_ble_eq_true rfl⟩ dX2_partAt_62 (by first | assumption | exact ⟨by decide, rfl⟩) (Nat.le_of_ble_eq_true rfl) (c_X3_partBehind (by first | assumption | exact ⟨by decide, rfl⟩)) ?_
      exact e_ireq rfl rfl dX2_partAt_65 (by first | rfl | grind) rfl
    · obtain ⟨f1, f2, f3, f4⟩ := nI_facts 24 hj hn (by decide) rfl
      refine e_iload dX2_partAt_12 rfl ?_
      refine e_iload_n dX2_partAt_14 rfl ?_
      refine e_icmp_ge (tgt := 58) dX2_partAt_15 (by decide) (fun h15 => ?_) (fun h15 => ?_)
      · exfalso
        grind
      refine e_iload dX2_partAt_18 rfl ?_
      refine e_aload_n dX2_partAt_20 rfl ?_
      refine e_getA kX2 (by first | assumption | exact ⟨by decide, rfl⟩) (by decide) fX2_27 rfl dX2_partAt_21 ?_
      refine e_alen (ci := 2) (n := 24) (by first | assumption | exact ⟨by decide, rfl⟩) rfl (by decide) dX2_partAt_24 ?_
      refine e_icmp_ge (tgt := 58) dX2_partAt_25 (by decide) (fun h25 => ?_) (fun h25 => ?_)
      · exfalso
        grind
      refine e_aload_n dX2_partAt_28 rfl ?_
      refine e_iload dX2_partAt_29 rfl ?_
      refine e_V1 oX3_burdenAt lX2_75 ⟨Nat.le_of_ble_eq_true rfl, Nat.le_of_ble_eq_true rfl⟩ dX2_partAt_31 (by first | assumption | exact ⟨by decide, rfl⟩) (Nat.le_of_ble_eq_true rfl) (c_X3_burdenAt (by first | assumption | exact ⟨by decide, rfl⟩)) ?_
      refine e_iload_n dX2_partAt_34 rfl ?_
      refine e_icmp_ne (tgt := 52) dX2_partAt_35 (by decide) (fun h35 => ?_) (fun h35 => ?_)
      ·
        refine e_inc (1) (by decide) dX2_partAt_52 rfl (by decide) (Nat.le_of_ble_eq_true rfl) ?_
        refine e_goto (tgt := 12) dX2_partAt_55 (by decide) ?_
        exact e_to ih (by first | rfl | (simp [lset]; done) | (simp [lset]; grind [paF])) rfl
      ·
        refine e_aload_n dX2_partAt_38 rfl ?_
        refine e_getA kX2 (by first | assumption | exact ⟨by decide, rfl⟩) (by decide) fX2_27 rfl dX2_partAt_39 ?_
        refine e_iload dX2_partAt_42 rfl ?_
        refine e_iald (ci := 2) (by first | assumption | exact ⟨by decide, rfl⟩) rfl (vin 24 (by decide) (by grind)) dX2_partAt_44 ?_
        refine e_iconst (v := -1) dX2_partAt_45 (by decide) ?_
        refine e_icmp_eq (tgt := 52) dX2_partAt_46 (by decide) (fun h46 => ?_) (fun h46 => ?_)
        ·
          refine e_inc (1) (by decide) dX2_partAt_52 rfl (by decide) (Nat.le_of_ble_eq_true rfl) ?_
          refine e_goto (tgt := 12) dX2_partAt_55 (by decide) ?_
          exact e_to ih (by first | rfl | (simp [lset]; done) | (simp [lset]; grind [paF])) rfl
        ·
          refine e_inc (1) (by decide) dX2_partAt_49 rfl (by decide) (Nat.le_of_ble_eq_true rfl) ?_
          refine e_inc (1) (by decide) dX2_partAt_52 rfl (by decide) (Nat.le_of_ble_eq_true rfl) ?_
          refine e_goto (tgt := 12) dX2_partAt_55 (by decide) ?_
          exact e_to ih (by first | rfl | (simp [lset]; done) | (simp [lset]; grind [paF])) rfl
  refine e_aload_n dX2_partAt_0 rfl ?_
  refine e_iload_n dX2_partAt_1 rfl ?_
  refine e_V1 oX3_burdenAt lX2_75 ⟨Nat.le_of_ble_eq_true rfl, Nat.le_of_ble_eq_true rfl⟩ dX2_partAt_2 (by first | assumption | exact ⟨by decide, rfl⟩) (Nat.le_of_ble_eq_true rfl) (c_X3_burdenAt (by first | assumption | exact ⟨by decide, rfl⟩)) ?_
  refine e_istore_n dX2_partAt_5 (by decide) (Nat.le_of_ble_eq_true rfl) ?_
  refine e_iconst (v := 0) dX2_partAt_6 (by decide) ?_
  refine e_istore dX2_partAt_7 (by decide) (Nat.le_of_ble_eq_true rfl) ?_
  refine e_iconst (v := 0) dX2_partAt_9 (by decide) ?_
  refine e_istore dX2_partAt_10 (by decide) (Nat.le_of_ble_eq_true rfl) ?_
  exact e_to (loop 0 (Nat.zero_le _)) (by first | rfl | (simp [lset]; done) | (simp [lset]; grind [paF])) rfl
def sLd1 (o : Nat) : Nat → rS → rS := itS (fun j τ => up τ o 4 (nI j) (-1))
def sLd2 (o : Nat) : Nat → rS → rS := itS (fun j τ => up τ o 5 (nI j) (-1))
theorem c_X2_layDownAll {o : Nat} {σ : rS} (h0 : isO o 2) : Ct mX2_layDownAll [.inr (o, 0)] σ none (sLd2 o 24 (sLd1 o 12 σ)) := by
  refine C_of_E rfl rfl (Nat.le_of_ble_eq_true rfl) ?_
  have loop2 : ∀ j, j ≤ 24 → E mX2_layDownAll 26 [.inr (o, 0), .inl (nI j)] [] (sLd2 o j (sLd1 o 12 σ)) none (sLd2 o 24 (sLd1 o 12 σ)) := by
    refine dn_ind 24 _ ?_ (fun j hj ih => ?_)
    · have e24 : nI 24 = 24 := rfl
      refine e_iload_n dX2_layDownAll_26 rfl ?_
      refine e_aload_n dX2_layDownAll_27 rfl ?_
      refine e_getA kX2 (by first | assumption | exact ⟨by decide, rfl⟩) (by decide) fX2_27 rfl dX2_layDownAll_28 ?_
      refine e_alen (ci := 2) (n := 24) (by first | assumption | exact ⟨by decide, rfl⟩) rfl (by decide) dX2_layDownAll_31 ?_
      refine e_icmp_ge (tgt := 48) dX2_layDownAll_32 (by decide) (fun h32 => ?_) (fun h32 => ?_)
      rotate_left
      · exfalso
        grind
      exact e_vreq rfl dX2_layDownAll_48 rfl
    · obtain ⟨f1, f2, f3, f4⟩ := nI_facts 24 hj (Nat.le_refl _) (by decide) rfl
      have e24 : nI 24 = 24 := rfl
      refine e_iload_n dX2_layDownAll_26 rfl ?_
      refine e_aload_n dX2_layDownAll_27 rfl ?_
      refine e_getA kX2 (by first | assumption | exact ⟨by decide, rfl⟩) (by decide) fX2_27 rfl dX2_layDownAll_28 ?_
      refine e_alen (ci := 2) (n := 24) (by first | assumption | exact ⟨by decide, rfl⟩) rfl (by decide) dX2_layDownAll_31 ?_
      refine e_icmp_ge (tgt := 48) dX2_layDownAll_32 (by decide) (fun h32 => ?_) (fun h32 => ?_)
      · exfalso
        grind
      refine e_aload_n dX2_layDownAll_35 rfl ?_
      refine e_getA kX2 (by first | assumption | exact ⟨by decide, rfl⟩) (by decide) fX2_27 rfl dX2_layDownAll_36 ?_
      refine e_iload_n dX2_layDownAll_39 rfl ?_
      refine e_iconst (v := -1) dX2_layDownAll_40 (by decide) ?_
      refine e_iast (ci := 2) (by first | assumption | exact ⟨by decide, rfl⟩) rfl (vin 24 (by decide) (by grind)) dX2_layDownAll_41 ?_
      refine e_inc (1) (by decide) dX2_layDownAll_42 rfl (by decide) (Nat.le_of_ble_eq_true rfl) ?_
      refine e_goto (tgt := 26) dX2_layDownAll_45 (by decide) ?_
      exact e_to ih (by first | rfl | (simp [lset]; done) | (simp [lset]; grind)) rfl
  have loop1 : ∀ j, j ≤ 12 → E mX2_layDownAll 2 [.inr (o, 0), .inl (nI j)] [] (sLd1 o j σ) none (sLd2 o 24 (sLd1 o 12 σ)) := by
    refine dn_ind 12 _ ?_ (fun j hj ih => ?_)
    · have e24 : nI 12 = 12 := rfl
      refine e_iload_n dX2_layDownAll_2 rfl ?_
      refine e_aload_n dX2_layDownAll_3 rfl ?_
      refine e_getA kX2 (by first | assumption | exact ⟨by decide, rfl⟩) (by decide) fX2_24 rfl dX2_layDownAll_4 ?_
      refine e_alen (ci := 2) (n := 12) (by first | assumption | exact ⟨by decide, rfl⟩) rfl (by decide) dX2_layDownAll_7 ?_
      refine e_icmp_ge (tgt := 24) dX2_layDownAll_8 (by decide) (fun h8 => ?_) (fun h8 => ?_)
      rotate_left
      · exfalso
        grind
      refine e_iconst (v := 0) dX2_layDownAll_24 (by decide) ?_
      refine e_istore_n dX2_layDownAll_25 (by decide) (Nat.le_of_ble_eq_true rfl) ?_
      exact e_to (loop2 0 (Nat.zero_le _)) (by first | rfl | (simp [lset]; done) | (simp [lset]; grind)) rfl
    · obtain ⟨f1, f2, f3, f4⟩ := nI_facts 12 hj (Nat.le_refl _) (by decide) rfl
      have e24 : nI 12 = 12 := rfl
      refine e_iload_n dX2_layDownAll_2 rfl ?_
      refine e_aload_n dX2_layDownAll_3 rfl ?_
      refine e_getA kX2 (by first | assumption | exact ⟨by decide, rfl⟩) (by decide) fX2_24 rfl dX2_layDownAll_4 ?_
      refine e_alen (ci := 2) (n := 12) (by first | assumption | exact ⟨by decide, rfl⟩) rfl (by decide) dX2_layDownAll_7 ?_
      refine e_icmp_ge (tgt := 24) dX2_layDownAll_8 (by decide) (fun h8 => ?_) (fun h8 => ?_)
      · exfalso
        grind
      refine e_aload_n dX2_layDownAll_11 rfl ?_
      refine e_getA kX2 (by first | assumption | exact ⟨by decide, rfl⟩) (by decide) fX2_24 rfl dX2_layDownAll_12 ?_
      refine e_iload_n dX2_layDownAll_15 rfl ?_
      refine e_iconst (v := -1) dX2_layDownAll_16 (by decide) ?_
      refine e_iast (ci := 2) (by first | assumption | exact ⟨by decide, rfl⟩) rfl (vin 12 (by decide) (by grind)) dX2_layDownAll_17 ?_
      refine e_inc (1) (by decide) dX2_layDownAll_18 rfl (by decide) (Nat.le_of_ble_eq_true rfl) ?_
      refine e_goto (tgt := 2) dX2_layDownAll_21 (by decide) ?_
      exact e_to ih (by first | rfl | (simp [lset]; done) | (simp [lset]; grind)) rfl
  refine e_iconst (v := 0) dX2_layDownAll_0 (by decide) ?_
  refine e_istore_n dX2_layDownAll_1 (by decide) (Nat.le_of_ble_eq_true rfl) ?_
  exact e_to (loop1 0 (Nat.zero_le _)) (by first | rfl | (simp [lset]; done) | (simp [lset]; grind)) rfl
