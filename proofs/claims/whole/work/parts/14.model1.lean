-- the reference: leaves and loops
abbrev mnB (σ : rS) (m : Int32) : Prop := 0 ≤ m ∧ m < σ 8 10 0
/-- its counts and ranges -/
def MIu (σ : rS) (m : Nat) : Prop := ∀ p, 0 ≤ p → p < nI m → (0 ≤ σ 8 7 p ∧ σ 8 7 p < 6 ∧ 1 ≤ σ 8 4 (σ 8 7 p))
def MIr (σ : rS) : Prop := ∀ p, 0 ≤ p → p < 48 → (-1 ≤ σ 8 18 p ∧ σ 8 18 p < 12)
abbrev rgB (σ : rS) (k : Int32) : Prop := 0 ≤ σ 8 22 k ∧ σ 8 22 k < 12 ∧ 0 ≤ σ 8 23 k ∧ σ 8 23 k < 12 ∧ 0 ≤ σ 8 24 k ∧ σ 8 24 k < 24
def MIg (σ : rS) (c : Nat) : Prop := ∀ k, 0 ≤ k → k < nI c → rgB σ k
def MI (σ : rS) (n m c : Nat) : Prop := σ 8 10 0 = nI n ∧ n ≤ 12 ∧ σ 8 6 0 = nI m ∧ m ≤ 24 ∧ σ 8 21 0 = nI c ∧ c ≤ 40 ∧ MIu σ m ∧ MIr σ ∧ MIg σ c
theorem o8 : isO 8 6 := ⟨by decide, rfl⟩
theorem nI_le12 {n : Nat} (h : n ≤ 12) : nI n ≤ 12 := nI_le (b := 12) h (by decide)
theorem nI_le24 {n : Nat} (h : n ≤ 24) : nI n ≤ 24 := nI_le (b := 24) h (by decide)
theorem nI_le40 {n : Nat} (h : n ≤ 40) : nI n ≤ 40 := nI_le (b := 40) h (by decide)
theorem c_X6_thrown  {σ : rS}  : Ct mX6_thrown [.inr (8, 0)] σ (some (.inl (σ 8 2 0))) (σ) := by
  refine C_of_E rfl rfl (Nat.le_of_ble_eq_true rfl) ?_
  refine e_aload_n dX6_thrown_0 rfl ?_
  refine e_getI kX6 (by first | assumption | exact ⟨by decide, rfl⟩) (by decide) fX6_75 rfl dX6_thrown_1 ?_
  exact e_ireq rfl rfl dX6_thrown_4 (by first | rfl | grind) rfl
theorem c_X6_isMan {m : Int32} {σ : rS}  : Ct mX6_isMan [.inr (8, 0), .inl m] σ (some (.inl (bI (mnB σ m)))) (σ) := by
  refine C_of_E rfl rfl (Nat.le_of_ble_eq_true rfl) ?_
  refine e_iload_n dX6_isMan_0 rfl ?_
  refine e_if_lt (tgt := 16) dX6_isMan_1 (by decide) (fun h1 => ?_) (fun h1 => ?_)
  ·
    refine e_iconst (v := 0) dX6_isMan_16 (by decide) ?_
    exact e_ret0 rfl dX6_isMan_17 (by grind) rfl
  ·
    refine e_iload_n dX6_isMan_4 rfl ?_
    refine e_aload_n dX6_isMan_5 rfl ?_
    refine e_getI kX6 (by first | assumption | exact ⟨by decide, rfl⟩) (by decide) fX6_142 rfl dX6_isMan_6 ?_
    refine e_icmp_ge (tgt := 16) dX6_isMan_9 (by decide) (fun h9 => ?_) (fun h9 => ?_)
    ·
      refine e_iconst (v := 0) dX6_isMan_16 (by decide) ?_
      exact e_ret0 rfl dX6_isMan_17 (by grind) rfl
    ·
      refine e_iconst (v := 1) dX6_isMan_12 (by decide) ?_
      refine e_goto (tgt := 17) dX6_isMan_13 (by decide) ?_
      exact e_ret1 rfl dX6_isMan_17 (by grind) rfl
theorem c_X6_fails {w : Int32} {σ : rS}  : Ct mX6_fails [.inr (8, 0), .inl w] σ (some (.inl (0))) (up σ 8 2 0 w) := by
  refine C_of_E rfl rfl (Nat.le_of_ble_eq_true rfl) ?_
  refine e_aload_n dX6_fails_0 rfl ?_
  refine e_iload_n dX6_fails_1 rfl ?_
  refine e_putI kX6 (by first | assumption | exact ⟨by decide, rfl⟩) (by decide) fX6_75 rfl rfl rfl dX6_fails_2 ?_
  refine e_iconst (v := 0) dX6_fails_5 (by decide) ?_
  exact e_ireq rfl rfl dX6_fails_6 (by first | rfl | grind) rfl
theorem c_X6_isOpen {k : Int32} {σ : rS} (hk : 0 ≤ k ∧ k < 40) : Ct mX6_isOpen [.inr (8, 0), .inl k] σ (some (.inl (bI (σ 8 26 k < 2)))) (σ) := by
  refine C_of_E rfl rfl (Nat.le_of_ble_eq_true rfl) ?_
  refine e_aload_n dX6_isOpen_0 rfl ?_
  refine e_getA kX6 (by first | assumption | exact ⟨by decide, rfl⟩) (by decide) fX6_60 rfl dX6_isOpen_1 ?_
  refine e_iload_n dX6_isOpen_4 rfl ?_
  refine e_iald (ci := 6) (by first | assumption | exact ⟨by decide, rfl⟩) rfl (vin 40 (by decide) (by grind)) dX6_isOpen_5 ?_
  refine e_iconst (v := 2) dX6_isOpen_6 (by decide) ?_
  refine e_icmp_ge (tgt := 14) dX6_isOpen_7 (by decide) (fun h7 => ?_) (fun h7 => ?_)
  ·
    refine e_iconst (v := 0) dX6_isOpen_14 (by decide) ?_
    exact e_ret0 rfl dX6_isOpen_15 (by grind) rfl
  ·
    refine e_iconst (v := 1) dX6_isOpen_10 (by decide) ?_
    refine e_goto (tgt := 15) dX6_isOpen_11 (by decide) ?_
    exact e_ret1 rfl dX6_isOpen_15 (by grind) rfl
theorem c_X6_fault {w : Int32} {τ : rS} {σ : rS} (hz : up σ 8 2 0 0 = τ) : Ct mX6_fault [.inr (8, 0), .inl w] σ (some (.inl (if w = 0 then τ 8 8 0 else if w = 1 then τ 8 9 0 else -1))) (τ) := by
  refine C_of_E rfl rfl (Nat.le_of_ble_eq_true rfl) ?_
  refine e_aload_n dX6_fault_0 rfl ?_
  refine e_iconst (v := 0) dX6_fault_1 (by decide) ?_
  refine e_putI kX6 (by first | assumption | exact ⟨by decide, rfl⟩) (by decide) fX6_75 rfl rfl rfl dX6_fault_2 ?_
  rw [hz]
  refine e_iload_n dX6_fault_5 rfl ?_
  refine e_if_ne (tgt := 16) dX6_fault_6 (by decide) (fun h6 => ?_) (fun h6 => ?_)
  ·
    refine e_iload_n dX6_fault_16 rfl ?_
    refine e_iconst (v := 1) dX6_fault_17 (by decide) ?_
    refine e_icmp_ne (tgt := 28) dX6_fault_18 (by decide) (fun h18 => ?_) (fun h18 => ?_)
    ·
      refine e_iconst (v := -1) dX6_fault_28 (by decide) ?_
      exact e_ireq rfl rfl dX6_fault_29 (by grind) rfl
    ·
      refine e_aload_n dX6_fault_21 rfl ?_
      refine e_getI kX6 (by first | assumption | exact ⟨by decide, rfl⟩) (by decide) fX6_25 rfl dX6_fault_22 ?_
      refine e_goto (tgt := 29) dX6_fault_25 (by decide) ?_
      exact e_ireq rfl rfl dX6_fault_29 (by grind) rfl
  ·
    refine e_aload_n dX6_fault_9 rfl ?_
    refine e_getI kX6 (by first | assumption | exact ⟨by decide, rfl⟩) (by decide) fX6_81 rfl dX6_fault_10 ?_
    refine e_goto (tgt := 29) dX6_fault_13 (by decide) ?_
    exact e_ireq rfl rfl dX6_fault_29 (by grind) rfl
abbrev mcB (τ : rS) (d h : Int32) : Prop := coB d h ∧ ¬ τ 8 10 0 = 12
def sMan (τ : rS) (d h : Int32) : rS := up (up (up τ 8 11 (τ 8 10 0) d) 8 12 (τ 8 10 0) h) 8 10 0 (τ 8 10 0 + 1)
theorem c_X6_man {d h : Int32} {τ : rS} {σ : rS} (hz : up σ 8 2 0 0 = τ) (hm : 0 ≤ τ 8 10 0 ∧ τ 8 10 0 ≤ 12) : Ct mX6_man [.inr (8, 0), .inl d, .inl h] σ (some (.inl (if mcB τ d h then τ 8 10 0 else -1))) (if mcB τ d h then sMan τ d h else τ) := by
  refine C_of_E rfl rfl (Nat.le_of_ble_eq_true rfl) ?_
  refine e_aload_n dX6_man_0 rfl ?_
  refine e_iconst (v := 0) dX6_man_1 (by decide) ?_
  refine e_putI kX6 (by first | assumption | exact ⟨by decide, rfl⟩) (by decide) fX6_75 rfl rfl rfl dX6_man_2 ?_
  rw [hz]
  refine e_iload_n dX6_man_5 rfl ?_
  refine e_if_lt (tgt := 34) dX6_man_6 (by decide) (fun h6 => ?_) (fun h6 => ?_)
  ·
    refine e_iconst (v := -1) dX6_man_34 (by decide) ?_
    exact e_ireq rfl rfl dX6_man_35 (by simp [up]; grind) (by first | rw [if_neg (by grind)] | (rw [if_pos (by grind)]; simp [sMan, up]))
  ·
    refine e_iload_n dX6_man_9 rfl ?_
    refine e_ldc dX6_man_10 kX6_131 ?_
    refine e_icmp_gt (tgt := 34) dX6_man_12 (by decide) (fun h12 => ?_) (fun h12 => ?_)
    ·
      refine e_iconst (v := -1) dX6_man_34 (by decide) ?_
      exact e_ireq rfl rfl dX6_man_35 (by simp [up]; grind) (by first | rw [if_neg (by grind)] | (rw [if_pos (by grind)]; simp [sMan, up]))
    ·
      refine e_iload_n dX6_man_15 rfl ?_
      refine e_if_lt (tgt := 34) dX6_man_16 (by decide) (fun h16 => ?_) (fun h16 => ?_)
      ·
        refine e_iconst (v := -1) dX6_man_34 (by decide) ?_
        exact e_ireq rfl rfl dX6_man_35 (by simp [up]; grind) (by first | rw [if_neg (by grind)] | (rw [if_pos (by grind)]; simp [sMan, up]))
      ·
        refine e_iload_n dX6_man_19 rfl ?_
        refine e_ldc dX6_man_20 kX6_131 ?_
        refine e_icmp_gt (tgt := 34) dX6_man_22 (by decide) (fun h22 => ?_) (fun h22 => ?_)
        ·
          refine e_iconst (v := -1) dX6_man_34 (by decide) ?_
          exact e_ireq rfl rfl dX6_man_35 (by simp [up]; grind) (by first | rw [if_neg (by grind)] | (rw [if_pos (by grind)]; simp [sMan, up]))
        ·
          refine e_aload_n dX6_man_25 rfl ?_
          refine e_getI kX6 (by first | assumption | exact ⟨by decide, rfl⟩) (by decide) fX6_142 rfl dX6_man_26 ?_
          refine e_bipush (v := 12) dX6_man_29 (by decide) ?_
          refine e_icmp_ne (tgt := 36) dX6_man_31 (by decide) (fun h31 => ?_) (fun h31 => ?_)
          ·
            refine e_aload_n dX6_man_36 rfl ?_
            refine e_getA kX6 (by first | assumption | exact ⟨by decide, rfl⟩) (by decide) fX6_29 rfl dX6_man_37 ?_
            refine e_aload_n dX6_man_40 rfl ?_
            refine e_getI kX6 (by first | assumption | exact ⟨by decide, rfl⟩) (by decide) fX6_142 rfl dX6_man_41 ?_
            refine e_iload_n dX6_man_44 rfl ?_
            refine e_iast (ci := 6) (by first | assumption | exact ⟨by decide, rfl⟩) rfl (vin 24 (by decide) (by grind)) dX6_man_45 ?_
            refine e_aload_n dX6_man_46 rfl ?_
            refine e_getA kX6 (by first | assumption | exact ⟨by decide, rfl⟩) (by decide) fX6_32 rfl dX6_man_47 ?_
            refine e_aload_n dX6_man_50 rfl ?_
            refine e_getI kX6 (by first | assumption | exact ⟨by decide, rfl⟩) (by decide) fX6_142 rfl dX6_man_51 ?_
            refine e_iload_n dX6_man_54 rfl ?_
            refine e_iast (ci := 6) (by first | assumption | exact ⟨by decide, rfl⟩) rfl (vin 24 (by decide) (by simp [up]; grind)) dX6_man_55 ?_
            refine e_aload_n dX6_man_56 rfl ?_
            refine e_dup dX6_man_57 ?_
            refine e_getI kX6 (by first | assumption | exact ⟨by decide, rfl⟩) (by decide) fX6_142 rfl dX6_man_58 ?_
            refine e_iconst (v := 1) dX6_man_61 (by decide) ?_
            refine e_iadd dX6_man_62 ?_
            refine e_putI kX6 (by first | assumption | exact ⟨by decide, rfl⟩) (by decide) fX6_142 rfl rfl rfl dX6_man_63 ?_
            refine e_aload_n dX6_man_66 rfl ?_
            refine e_getI kX6 (by first | assumption | exact ⟨by decide, rfl⟩) (by decide) fX6_142 rfl dX6_man_67 ?_
            refine e_iconst (v := 1) dX6_man_70 (by decide) ?_
            refine e_isub dX6_man_71 ?_
            exact e_ireq rfl rfl dX6_man_72 (by simp [up]; grind) (by first | rw [if_neg (by grind)] | (rw [if_pos (by grind)]; simp [sMan, up]))
          ·
            refine e_iconst (v := -1) dX6_man_34 (by decide) ?_
            exact e_ireq rfl rfl dX6_man_35 (by simp [up]; grind) (by first | rw [if_neg (by grind)] | (rw [if_pos (by grind)]; simp [sMan, up]))
abbrev mfoB (τ : rS) (m n : Int32) : Prop := mnB τ m ∧ 1 ≤ n ∧ n ≤ τ 8 12 m
def sFound (τ : rS) (m n : Int32) : rS := up (up τ 8 12 m (τ 8 12 m - n)) 8 11 m (τ 8 11 m + n)
theorem c_X6_found {m n : Int32} {τ : rS} {σ : rS} (hz : up σ 8 2 0 0 = τ) (hm : 0 ≤ τ 8 10 0 ∧ τ 8 10 0 ≤ 12) : Ct mX6_found [.inr (8, 0), .inl m, .inl n] σ (some (.inl (bI (mfoB τ m n)))) (if mfoB τ m n then sFound τ m n else τ) := by
  refine C_of_E rfl rfl (Nat.le_of_ble_eq_true rfl) ?_
  refine e_aload_n dX6_found_0 rfl ?_
  refine e_iconst (v := 0) dX6_found_1 (by decide) ?_
  refine e_putI kX6 (by first | assumption | exact ⟨by decide, rfl⟩) (by decide) fX6_75 rfl rfl rfl dX6_found_2 ?_
  rw [hz]
  refine e_aload_n dX6_found_5 rfl ?_
  refine e_iload_n dX6_found_6 rfl ?_
  refine e_V1 oX6_isMan lX6_145 ⟨Nat.le_of_ble_eq_true rfl, Nat.le_of_ble_eq_true rfl⟩ dX6_found_7 (by first | assumption | exact ⟨by decide, rfl⟩) (Nat.le_of_ble_eq_true rfl) (c_X6_isMan) ?_
  refine e_if_eqB (tgt := 28) dX6_found_10 (by decide) (fun h10 => ?_) (fun h10 => ?_)
  ·
    refine e_iconst (v := 0) dX6_found_28 (by decide) ?_
    exact e_ret0 rfl dX6_found_29 (by grind) (by first | rw [if_neg (by grind)] | (rw [if_pos (by grind)]; simp [sFound, up]))
  ·
    refine e_iload_n dX6_found_13 rfl ?_
    refine e_iconst (v := 1) dX6_found_14 (by decide) ?_
    refine e_icmp_lt (tgt := 28) dX6_found_15 (by decide) (fun h15 => ?_) (fun h15 => ?_)
    ·
      refine e_iconst (v := 0) dX6_found_28 (by decide) ?_
      exact e_ret0 rfl dX6_found_29 (by grind) (by first | rw [if_neg (by grind)] | (rw [if_pos (by grind)]; simp [sFound, up]))
    ·
      refine e_iload_n dX6_found_18 rfl ?_
      refine e_aload_n dX6_found_19 rfl ?_
      refine e_getA kX6 (by first | assumption | exact ⟨by decide, rfl⟩) (by decide) fX6_32 rfl dX6_found_20 ?_
      refine e_iload_n dX6_found_23 rfl ?_
      refine e_iald (ci := 6) (by first | assumption | exact ⟨by decide, rfl⟩) rfl (vin 24 (by decide) (by grind)) dX6_found_24 ?_
      refine e_icmp_le (tgt := 30) dX6_found_25 (by decide) (fun h25 => ?_) (fun h25 => ?_)
      ·
        refine e_aload_n dX6_found_30 rfl ?_
        refine e_getA kX6 (by first | assumption | exact ⟨by decide, rfl⟩) (by decide) fX6_32 rfl dX6_found_31 ?_
        refine e_iload_n dX6_found_34 rfl ?_
        refine e_dup2 dX6_found_35 ?_
        refine e_iald (ci := 6) (by first | assumption | exact ⟨by decide, rfl⟩) rfl (vin 24 (by decide) (by grind)) dX6_found_36 ?_
        refine e_iload_n dX6_found_37 rfl ?_
        refine e_isub dX6_found_38 ?_
        refine e_iast (ci := 6) (by first | assumption | exact ⟨by decide, rfl⟩) rfl (vin 24 (by decide) (by grind)) dX6_found_39 ?_
        refine e_aload_n dX6_found_40 rfl ?_
        refine e_getA kX6 (by first | assumption | exact ⟨by decide, rfl⟩) (by decide) fX6_29 rfl dX6_found_41 ?_
        refine e_iload_n dX6_found_44 rfl ?_
        refine e_dup2 dX6_found_45 ?_
        refine e_iald (ci := 6) (by first | assumption | exact ⟨by decide, rfl⟩) rfl (vin 24 (by decide) (by grind)) dX6_found_46 ?_
        refine e_iload_n dX6_found_47 rfl ?_
        refine e_iadd dX6_found_48 ?_
        refine e_iast (ci := 6) (by first | assumption | exact ⟨by decide, rfl⟩) rfl (vin 24 (by decide) (by grind)) dX6_found_49 ?_
        refine e_iconst (v := 1) dX6_found_50 (by decide) ?_
        exact e_ret1 rfl dX6_found_51 (by grind) (by first | rw [if_neg (by grind)] | (rw [if_pos (by grind)]; simp [sFound, up]))
      ·
        refine e_iconst (v := 0) dX6_found_28 (by decide) ?_
        exact e_ret0 rfl dX6_found_29 (by grind) (by first | rw [if_neg (by grind)] | (rw [if_pos (by grind)]; simp [sFound, up]))
/-- the first of c places from j on that m bears -/
def beF (σ : rS) (m base : Int32) : Nat → Nat → Int32
  | 0, _ => -1
  | c + 1, j => if σ 8 18 (base + nI j) = m then nI j else beF σ m base c (j + 1)
theorem c_X6_bears {m base : Int32} {mm : Nat} {σ : rS} (hpl : σ 8 6 0 = nI mm) (hmm : mm ≤ 24) (hb : 0 ≤ base ∧ base ≤ 24) : Ct mX6_bears [.inr (8, 0), .inl m, .inl base] σ (some (.inl (beF σ m base mm 0))) (σ) := by
  refine C_of_E rfl rfl (Nat.le_of_ble_eq_true rfl) ?_
  have loop : ∀ c j, j + c = mm → E mX6_bears 2 [.inr (8, 0), .inl m, .inl base, .inl (nI j)] [] σ (some (.inl (beF σ m base c j))) σ := by
    intro c
    induction c with
    | zero =>
      intro j hj
      have hjn : j = mm := by omega
      subst hjn
      refine e_iload_n dX6_bears_2 rfl ?_
      refine e_aload_n dX6_bears_3 rfl ?_
      refine e_getI kX6 (by first | assumption | exact ⟨by decide, rfl⟩) (by decide) fX6_139 rfl dX6_bears_4 ?_
      refine e_icmp_ge (tgt := 30) dX6_bears_7 (by decide) (fun h7 => ?_) (fun h7 => ?_)
      rotate_left
      · exfalso
        grind
      refine e_iconst (v := -1) dX6_bears_30 (by decide) ?_
      exact e_ireq rfl rfl dX6_bears_31 (by first | rfl | grind) rfl
    | succ c ih =>
      intro j hj
      obtain ⟨f1, f2, f3, f4⟩ := nI_facts (j := j) 24 (by omega) hmm (by decide) rfl
      refine e_iload_n dX6_bears_2 rfl ?_
      refine e_aload_n dX6_bears_3 rfl ?_
      refine e_getI kX6 (by first | assumption | exact ⟨by decide, rfl⟩) (by decide) fX6_139 rfl dX6_bears_4 ?_
      refine e_icmp_ge (tgt := 30) dX6_bears_7 (by decide) (fun h7 => ?_) (fun h7 => ?_)
      · exfalso
        grind
      refine e_aload_n dX6_bears_10 rfl ?_
      refine e_getA kX6 (by first | assumption | exact ⟨by decide, rfl⟩) (by decide) fX6_41 rfl dX6_bears_11 ?_
      refine e_iload_n dX6_bears_14 rfl ?_
      refine e_iload_n dX6_bears_15 rfl ?_
      refine e_iadd dX6_bears_16 ?_
      refine e_iald (ci := 6) (by first | assumption | exact ⟨by decide, rfl⟩) rfl (vin 48 (by decide) (by grind)) dX6_bears_17 ?_
      refine e_iload_n dX6_bears_18 rfl ?_
      refine e_icmp_ne (tgt := 24) dX6_bears_19 (by decide) (fun h19 => ?_) (fun h19 => ?_)
      ·
        refine e_inc (1) (by decide) dX6_bears_24 rfl (by decide) (Nat.le_of_ble_eq_true rfl) ?_
        refine e_goto (tgt := 2) dX6_bears_27 (by decide) ?_
        rw [beF, if_neg (by grind)]
        exact e_to (ih (j + 1) (by omega)) (by first | rfl | (simp [lset]; done) | (simp [lset]; grind)) rfl
      ·
        refine e_iload_n dX6_bears_22 rfl ?_
        exact e_ireq rfl rfl dX6_bears_23 (by rw [beF, if_pos (by grind)]) rfl
  refine e_iconst (v := 0) dX6_bears_0 (by decide) ?_
  refine e_istore_n dX6_bears_1 (by decide) (Nat.le_of_ble_eq_true rfl) ?_
  exact e_to (loop mm 0 (by omega)) (by first | rfl | (simp [lset]; done) | (simp [lset]; grind)) rfl
abbrev mfB (σ : rS) (m coins row year : Int32) (mm : Nat) : Prop := σ 8 5 1 ≤ σ 8 11 (coins + m) ∧ σ 8 13 (coins + m) ≤ year ∧ beF σ m row mm 0 < 0
theorem c_X6_isFit {m coins row year : Int32} {mm : Nat} {σ : rS} (hpl : σ 8 6 0 = nI mm) (hmm : mm ≤ 24) (hb : 0 ≤ row ∧ row ≤ 24) (hc : 0 ≤ coins ∧ coins ≤ 12) (hm : 0 ≤ m ∧ m < 12) : Ct mX6_isFit [.inr (8, 0), .inl m, .inl coins, .inl row, .inl year] σ (some (.inl (bI (mfB σ m coins row year mm)))) (σ) := by
  refine C_of_E rfl rfl (Nat.le_of_ble_eq_true rfl) ?_
  refine e_aload_n dX6_isFit_0 rfl ?_
  refine e_getA kX6 (by first | assumption | exact ⟨by decide, rfl⟩) (by decide) fX6_29 rfl dX6_isFit_1 ?_
  refine e_iload_n dX6_isFit_4 rfl ?_
  refine e_iload_n dX6_isFit_5 rfl ?_
  refine e_iadd dX6_isFit_6 ?_
  refine e_iald (ci := 6) (by first | assumption | exact ⟨by decide, rfl⟩) rfl (vin 24 (by decide) (by grind)) dX6_isFit_7 ?_
  refine e_aload_n dX6_isFit_8 rfl ?_
  refine e_getA kX6 (by first | assumption | exact ⟨by decide, rfl⟩) (by decide) fX6_19 rfl dX6_isFit_9 ?_
  refine e_iconst (v := 1) dX6_isFit_12 (by decide) ?_
  refine e_iald (ci := 6) (by first | assumption | exact ⟨by decide, rfl⟩) rfl (vin 8 (by decide) (by grind)) dX6_isFit_13 ?_
  refine e_icmp_lt (tgt := 43) dX6_isFit_14 (by decide) (fun h14 => ?_) (fun h14 => ?_)
  ·
    refine e_iconst (v := 0) dX6_isFit_43 (by decide) ?_
    exact e_ret0 rfl dX6_isFit_44 (by grind) rfl
  ·
    refine e_aload_n dX6_isFit_17 rfl ?_
    refine e_getA kX6 (by first | assumption | exact ⟨by decide, rfl⟩) (by decide) fX6_35 rfl dX6_isFit_18 ?_
    refine e_iload_n dX6_isFit_21 rfl ?_
    refine e_iload_n dX6_isFit_22 rfl ?_
    refine e_iadd dX6_isFit_23 ?_
    refine e_iald (ci := 6) (by first | assumption | exact ⟨by decide, rfl⟩) rfl (vin 24 (by decide) (by grind)) dX6_isFit_24 ?_
    refine e_iload dX6_isFit_25 rfl ?_
    refine e_icmp_gt (tgt := 43) dX6_isFit_27 (by decide) (fun h27 => ?_) (fun h27 => ?_)
    ·
      refine e_iconst (v := 0) dX6_isFit_43 (by decide) ?_
      exact e_ret0 rfl dX6_isFit_44 (by grind) rfl
    ·
      refine e_aload_n dX6_isFit_30 rfl ?_
      refine e_iload_n dX6_isFit_31 rfl ?_
      refine e_iload_n dX6_isFit_32 rfl ?_
      refine e_V2 oX6_bears lX6_148 ⟨Nat.le_of_ble_eq_true rfl, Nat.le_of_ble_eq_true rfl⟩ dX6_isFit_33 (by first | assumption | exact ⟨by decide, rfl⟩) (Nat.le_of_ble_eq_true rfl) (c_X6_bears hpl hmm hb) ?_
      refine e_if_ge (tgt := 43) dX6_isFit_36 (by decide) (fun h36 => ?_) (fun h36 => ?_)
      ·
        refine e_iconst (v := 0) dX6_isFit_43 (by decide) ?_
        exact e_ret0 rfl dX6_isFit_44 (by grind) rfl
      ·
        refine e_iconst (v := 1) dX6_isFit_39 (by decide) ?_
        refine e_goto (tgt := 44) dX6_isFit_40 (by decide) ?_
        exact e_ret1 rfl dX6_isFit_44 (by grind) rfl
theorem c_X6_look {m w : Int32} {τ : rS} {n mm : Nat} {σ : rS} (hz : up σ 8 2 0 0 = τ) (hn : τ 8 10 0 = nI n) (hn2 : n ≤ 12) (hpl : τ 8 6 0 = nI mm) (hmm : mm ≤ 24) : Ct mX6_look [.inr (8, 0), .inl m, .inl w] σ (some (.inl (if mnB τ m then (if w = 0 then τ 8 11 m else if w = 1 then τ 8 12 m else if w = 2 then (if ¬ τ 8 16 0 = 0 then beF τ m 0 mm 0 else -1) else if w = 3 then τ 8 13 m else if w = 4 then τ 8 14 m else if w = 5 then (if ¬ τ 8 16 0 = 0 ∧ mfB τ m 0 0 (τ 8 15 0 - 1) mm then 1 else 0) else 0) else 0))) (if mnB τ m then (if w = 0 ∨ w = 1 ∨ w = 2 ∨ w = 3 ∨ w = 4 ∨ w = 5 then τ else up τ 8 2 0 2) else up τ 8 2 0 1) := by
  refine C_of_E rfl rfl (Nat.le_of_ble_eq_true rfl) ?_
  have f9 := nI_le12 hn2
  refine e_aload_n dX6_look_0 rfl ?_
  refine e_iconst (v := 0) dX6_look_1 (by decide) ?_
  refine e_putI kX6 (by first | assumption | exact ⟨by decide, rfl⟩) (by decide) fX6_75 rfl rfl rfl dX6_look_2 ?_
  rw [hz]
  refine e_aload_n dX6_look_5 rfl ?_
  refine e_iload_n dX6_look_6 rfl ?_
  refine e_V1 oX6_isMan lX6_145 ⟨Nat.le_of_ble_eq_true rfl, Nat.le_of_ble_eq_true rfl⟩ dX6_look_7 (by first | assumption | exact ⟨by decide, rfl⟩) (Nat.le_of_ble_eq_true rfl) (c_X6_isMan) ?_
  refine e_if_neB (tgt := 19) dX6_look_10 (by decide) (fun h10 => ?_) (fun h10 => ?_)
  ·
    refine e_iload_n dX6_look_19 rfl ?_
    refine e_tab6 60 67 74 92 99 106 135 dX6_look_20 (by decide) (by decide) (by decide) (by decide) (by decide) (by decide) (by decide) (fun h20 => ?_) (fun h20 => ?_) (fun h20 => ?_) (fun h20 => ?_) (fun h20 => ?_) (fun h20 => ?_) (fun h20 => ?_)
    ·
      refine e_aload_n dX6_look_60 rfl ?_
      refine e_getA kX6 (by first | assumption | exact ⟨by decide, rfl⟩) (by decide) fX6_29 rfl dX6_look_61 ?_
      refine e_iload_n dX6_look_64 rfl ?_
      refine e_iald (ci := 6) (by first | assumption | exact ⟨by decide, rfl⟩) rfl (vin 24 (by decide) (by grind)) dX6_look_65 ?_
      exact e_ireq rfl rfl dX6_look_66 (by grind) (by first | rw [if_neg (by grind)] | (rw [if_pos (by grind)]; first | rw [if_neg (by grind)] | rw [if_pos (by grind)]))
    ·
      refine e_aload_n dX6_look_67 rfl ?_
      refine e_getA kX6 (by first | assumption | exact ⟨by decide, rfl⟩) (by decide) fX6_32 rfl dX6_look_68 ?_
      refine e_iload_n dX6_look_71 rfl ?_
      refine e_iald (ci := 6) (by first | assumption | exact ⟨by decide, rfl⟩) rfl (vin 24 (by decide) (by grind)) dX6_look_72 ?_
      exact e_ireq rfl rfl dX6_look_73 (by grind) (by first | rw [if_neg (by grind)] | (rw [if_pos (by grind)]; first | rw [if_neg (by grind)] | rw [if_pos (by grind)]))
    ·
      refine e_aload_n dX6_look_74 rfl ?_
      refine e_getI kX6 (by first | assumption | exact ⟨by decide, rfl⟩) (by decide) fX6_132 rfl dX6_look_75 ?_
      refine e_if_eq (tgt := 90) dX6_look_78 (by decide) (fun h78 => ?_) (fun h78 => ?_)
      ·
        refine e_iconst (v := -1) dX6_look_90 (by decide) ?_
        exact e_ireq rfl rfl dX6_look_91 (by grind) (by first | rw [if_neg (by grind)] | (rw [if_pos (by grind)]; first | rw [if_neg (by grind)] | rw [if_pos (by grind)]))
      ·
        refine e_aload_n dX6_look_81 rfl ?_
        refine e_iload_n dX6_look_82 rfl ?_
        refine e_iconst (v := 0) dX6_look_83 (by decide) ?_
        refine e_V2 oX6_bears lX6_148 ⟨Nat.le_of_ble_eq_true rfl, Nat.le_of_ble_eq_true rfl⟩ dX6_look_84 (by first | assumption | exact ⟨by decide, rfl⟩) (Nat.le_of_ble_eq_true rfl) (c_X6_bears hpl hmm (by decide)) ?_
        refine e_goto (tgt := 91) dX6_look_87 (by decide) ?_
        exact e_ireq rfl rfl dX6_look_91 (by grind) (by first | rw [if_neg (by grind)] | (rw [if_pos (by grind)]; first | rw [if_neg (by grind)] | rw [if_pos (by grind)]))
    ·
      refine e_aload_n dX6_look_92 rfl ?_
      refine e_getA kX6 (by first | assumption | exact ⟨by decide, rfl⟩) (by decide) fX6_35 rfl dX6_look_93 ?_
      refine e_iload_n dX6_look_96 rfl ?_
      refine e_iald (ci := 6) (by first | assumption | exact ⟨by decide, rfl⟩) rfl (vin 24 (by decide) (by grind)) dX6_look_97 ?_
      exact e_ireq rfl rfl dX6_look_98 (by grind) (by first | rw [if_neg (by grind)] | (rw [if_pos (by grind)]; first | rw [if_neg (by grind)] | rw [if_pos (by grind)]))
    ·
      refine e_aload_n dX6_look_99 rfl ?_
      refine e_getA kX6 (by first | assumption | exact ⟨by decide, rfl⟩) (by decide) fX6_38 rfl dX6_look_100 ?_
      refine e_iload_n dX6_look_103 rfl ?_
      refine e_iald (ci := 6) (by first | assumption | exact ⟨by decide, rfl⟩) rfl (vin 12 (by decide) (by grind)) dX6_look_104 ?_
      exact e_ireq rfl rfl dX6_look_105 (by grind) (by first | rw [if_neg (by grind)] | (rw [if_pos (by grind)]; first | rw [if_neg (by grind)] | rw [if_pos (by grind)]))
    ·
      refine e_aload_n dX6_look_106 rfl ?_
      refine e_getI kX6 (by first | assumption | exact ⟨by decide, rfl⟩) (by decide) fX6_132 rfl dX6_look_107 ?_
      refine e_if_eq (tgt := 133) dX6_look_110 (by decide) (fun h110 => ?_) (fun h110 => ?_)
      ·
        refine e_iconst (v := 0) dX6_look_133 (by decide) ?_
        exact e_ireq rfl rfl dX6_look_134 (by grind) (by first | rw [if_neg (by grind)] | (rw [if_pos (by grind)]; first | rw [if_neg (by grind)] | rw [if_pos (by grind)]))
      ·
        refine e_aload_n dX6_look_113 rfl ?_
        refine e_iload_n dX6_look_114 rfl ?_
        refine e_iconst (v := 0) dX6_look_115 (by decide) ?_
        refine e_iconst (v := 0) dX6_look_116 (by decide) ?_
        refine e_aload_n dX6_look_117 rfl ?_
        refine e_getI kX6 (by first | assumption | exact ⟨by decide, rfl⟩) (by decide) fX6_155 rfl dX6_look_118 ?_
        refine e_iconst (v := 1) dX6_look_121 (by decide) ?_
        refine e_isub dX6_look_122 ?_
        refine e_V4 oX6_isFit lX6_158 ⟨Nat.le_of_ble_eq_true rfl, Nat.le_of_ble_eq_true rfl⟩ dX6_look_123 (by first | assumption | exact ⟨by decide, rfl⟩) (Nat.le_of_ble_eq_true rfl) (c_X6_isFit hpl hmm (by decide) (by decide) (by grind)) ?_
        refine e_if_eqB (tgt := 133) dX6_look_126 (by decide) (fun h126 => ?_) (fun h126 => ?_)
        ·
          refine e_iconst (v := 0) dX6_look_133 (by decide) ?_
          exact e_ireq rfl rfl dX6_look_134 (by grind) (by first | rw [if_neg (by grind)] | (rw [if_pos (by grind)]; first | rw [if_neg (by grind)] | rw [if_pos (by grind)]))
        ·
          refine e_iconst (v := 1) dX6_look_129 (by decide) ?_
          refine e_goto (tgt := 134) dX6_look_130 (by decide) ?_
          exact e_ireq rfl rfl dX6_look_134 (by grind) (by first | rw [if_neg (by grind)] | (rw [if_pos (by grind)]; first | rw [if_neg (by grind)] | rw [if_pos (by grind)]))
    ·
      refine e_aload_n dX6_look_135 rfl ?_
      refine e_iconst (v := 2) dX6_look_136 (by decide) ?_
      refine e_V1 oX6_fails lX6_151 ⟨Nat.le_of_ble_eq_true rfl, Nat.le_of_ble_eq_true rfl⟩ dX6_look_137 (by first | assumption | exact ⟨by decide, rfl⟩) (Nat.le_of_ble_eq_true rfl) (c_X6_fails) ?_
      exact e_ireq rfl rfl dX6_look_140 (by grind) (by first | rw [if_neg (by grind)] | (rw [if_pos (by grind)]; first | rw [if_neg (by grind)] | rw [if_pos (by grind)]))
  ·
    refine e_aload_n dX6_look_13 rfl ?_
    refine e_iconst (v := 1) dX6_look_14 (by decide) ?_
    refine e_V1 oX6_fails lX6_151 ⟨Nat.le_of_ble_eq_true rfl, Nat.le_of_ble_eq_true rfl⟩ dX6_look_15 (by first | assumption | exact ⟨by decide, rfl⟩) (Nat.le_of_ble_eq_true rfl) (c_X6_fails) ?_
    exact e_ireq rfl rfl dX6_look_18 (by grind) (by first | rw [if_neg (by grind)] | (rw [if_pos (by grind)]; first | rw [if_neg (by grind)] | rw [if_pos (by grind)]))
/-- how many are ahead of m -/
def rkM (σ : rS) (m : Int32) : Nat → Int32
  | 0 => 0
  | j + 1 => if σ 8 11 m < σ 8 11 (nI j) ∨ (σ 8 11 (nI j) = σ 8 11 m ∧ nI j < m) then rkM σ m j + 1 else rkM σ m j
def fmM (σ : rS) (n : Nat) (k : Int32) : Nat → Nat → Int32
  | 0, _ => -1
  | c + 1, j => if rkM σ (nI j) n = k then nI j else fmM σ n k c (j + 1)
theorem c_X6_richest {k : Int32} {τ : rS} {n : Nat} {σ : rS} (hz : up σ 8 2 0 0 = τ) (hn : τ 8 10 0 = nI n) (hn2 : n ≤ 12) : Ct mX6_richest [.inr (8, 0), .inl k] σ (some (.inl (if 0 ≤ k ∧ k < nI n then fmM τ n k n 0 else -1))) (τ) := by
  refine C_of_E rfl rfl (Nat.le_of_ble_eq_true rfl) ?_
  have outer : ∀ c j, j + c = n → E mX6_richest 21 [.inr (8, 0), .inl k, .inl (nI j)] [] τ (some (.inl (fmM τ n k c j))) τ := by
    intro c
    induction c with
    | zero =>
      intro j hj
      have hjn : j = n := by omega
      subst hjn
      refine e_iload_n dX6_richest_21 rfl ?_
      refine e_aload_n dX6_richest_22 rfl ?_
      refine e_getI kX6 (by first | assumption | exact ⟨by decide, rfl⟩) (by decide) fX6_142 rfl dX6_richest_23 ?_
      refine e_icmp_ge (tgt := 108) dX6_richest_26 (by decide) (fun h26 => ?_) (fun h26 => ?_)
      rotate_left
      · exfalso
        grind
      refine e_iconst (v := -1) dX6_richest_108 (by decide) ?_
      exact e_ireq rfl rfl dX6_richest_109 (by first | rfl | grind) rfl
    | succ c ih =>
      intro j hj
      obtain ⟨f1, f2, f3, f4⟩ := nI_facts (j := j) 12 (by omega) hn2 (by decide) rfl
      have inner : ∀ i, i ≤ n → E mX6_richest 34 [.inr (8, 0), .inl k, .inl (nI j), .inl (rkM τ (nI j) i), .inl (nI i)] [] τ (some (.inl (fmM τ n k (c + 1) j))) τ := by
        refine dn_ind n _ ?_ (fun i hi ih2 => ?_)
        ·
          refine e_iload dX6_richest_34 rfl ?_
          refine e_aload_n dX6_richest_36 rfl ?_
          refine e_getI kX6 (by first | assumption | exact ⟨by decide, rfl⟩) (by decide) fX6_142 rfl dX6_richest_37 ?_
          refine e_icmp_ge (tgt := 95) dX6_richest_40 (by decide) (fun h40 => ?_) (fun h40 => ?_)
          rotate_left
          · exfalso
            grind
          refine e_iload_n dX6_richest_95 rfl ?_
          refine e_iload_n dX6_richest_96 rfl ?_
          refine e_icmp_ne (tgt := 102) dX6_richest_97 (by decide) (fun h97 => ?_) (fun h97 => ?_)
          ·
            refine e_inc (1) (by decide) dX6_richest_102 rfl (by decide) (Nat.le_of_ble_eq_true rfl) ?_
            refine e_goto (tgt := 21) dX6_richest_105 (by decide) ?_
            rw [fmM, if_neg (by grind)]
            exact e_to (ih (j + 1) (by omega)) (by first | rfl | (simp [lset]; done) | (simp [lset]; grind)) rfl
          ·
            refine e_iload_n dX6_richest_100 rfl ?_
            exact e_ireq rfl rfl dX6_richest_101 (by rw [fmM, if_pos (by grind)]) rfl
        · obtain ⟨e1, e2, e3, e4⟩ := nI_facts (j := i) 12 hi hn2 (by decide) rfl
          refine e_iload dX6_richest_34 rfl ?_
          refine e_aload_n dX6_richest_36 rfl ?_
          refine e_getI kX6 (by first | assumption | exact ⟨by decide, rfl⟩) (by decide) fX6_142 rfl dX6_richest_37 ?_
          refine e_icmp_ge (tgt := 95) dX6_richest_40 (by decide) (fun h40 => ?_) (fun h40 => ?_)
          · exfalso
            grind
          refine e_iload_n dX6_richest_43 rfl ?_
          refine e_aload_n dX6_richest_44 rfl ?_
          refine e_getA kX6 (by first | assumption | exact ⟨by decide, rfl⟩) (by decide) fX6_29 rfl dX6_richest_45 ?_
          refine e_iload dX6_richest_48 rfl ?_
          refine e_iald (ci := 6) (by first | assumption | exact ⟨by decide, rfl⟩) rfl (vin 24 (by decide) (by grind)) dX6_richest_50 ?_
          refine e_aload_n dX6_richest_51 rfl ?_
          refine e_getA kX6 (by first | assumption | exact ⟨by decide, rfl⟩) (by decide) fX6_29 rfl dX6_richest_52 ?_
          refine e_iload_n dX6_richest_55 rfl ?_
          refine e_iald (ci := 6) (by first | assumption | exact ⟨by decide, rfl⟩) rfl (vin 24 (by decide) (by grind)) dX6_richest_56 ?_
          refine e_icmp_gt (tgt := 82) dX6_richest_57 (by decide) (fun h57 => ?_) (fun h57 => ?_)
          ·
            refine e_iconst (v := 1) dX6_richest_82 (by decide) ?_
            refine e_goto (tgt := 87) dX6_richest_83 (by decide) ?_
            refine e_iadd dX6_richest_87 ?_
            refine e_istore_n dX6_richest_88 (by decide) (Nat.le_of_ble_eq_true rfl) ?_
            refine e_inc (1) (by decide) dX6_richest_89 rfl (by decide) (Nat.le_of_ble_eq_true rfl) ?_
            refine e_goto (tgt := 34) dX6_richest_92 (by decide) ?_
            exact e_to ih2 (by first | rfl | (simp [lset]; done) | (simp [lset]; grind [rkM])) rfl
          ·
            refine e_aload_n dX6_richest_60 rfl ?_
            refine e_getA kX6 (by first | assumption | exact ⟨by decide, rfl⟩) (by decide) fX6_29 rfl dX6_richest_61 ?_
            refine e_iload dX6_richest_64 rfl ?_
            refine e_iald (ci := 6) (by first | assumption | exact ⟨by decide, rfl⟩) rfl (vin 24 (by decide) (by grind)) dX6_richest_66 ?_
            refine e_aload_n dX6_richest_67 rfl ?_
            refine e_getA kX6 (by first | assumption | exact ⟨by decide, rfl⟩) (by decide) fX6_29 rfl dX6_richest_68 ?_
            refine e_iload_n dX6_richest_71 rfl ?_
            refine e_iald (ci := 6) (by first | assumption | exact ⟨by decide, rfl⟩) rfl (vin 24 (by decide) (by grind)) dX6_richest_72 ?_
            refine e_icmp_ne (tgt := 86) dX6_richest_73 (by decide) (fun h73 => ?_) (fun h73 => ?_)
            ·
              refine e_iconst (v := 0) dX6_richest_86 (by decide) ?_
              refine e_iadd dX6_richest_87 ?_
              refine e_istore_n dX6_richest_88 (by decide) (Nat.le_of_ble_eq_true rfl) ?_
              refine e_inc (1) (by decide) dX6_richest_89 rfl (by decide) (Nat.le_of_ble_eq_true rfl) ?_
              refine e_goto (tgt := 34) dX6_richest_92 (by decide) ?_
              exact e_to ih2 (by first | rfl | (simp [lset]; done) | (simp [lset]; grind [rkM])) rfl
            ·
              refine e_iload dX6_richest_76 rfl ?_
              refine e_iload_n dX6_richest_78 rfl ?_
              refine e_icmp_ge (tgt := 86) dX6_richest_79 (by decide) (fun h79 => ?_) (fun h79 => ?_)
              ·
                refine e_iconst (v := 0) dX6_richest_86 (by decide) ?_
                refine e_iadd dX6_richest_87 ?_
                refine e_istore_n dX6_richest_88 (by decide) (Nat.le_of_ble_eq_true rfl) ?_
                refine e_inc (1) (by decide) dX6_richest_89 rfl (by decide) (Nat.le_of_ble_eq_true rfl) ?_
                refine e_goto (tgt := 34) dX6_richest_92 (by decide) ?_
                exact e_to ih2 (by first | rfl | (simp [lset]; done) | (simp [lset]; grind [rkM])) rfl
              ·
                refine e_iconst (v := 1) dX6_richest_82 (by decide) ?_
                refine e_goto (tgt := 87) dX6_richest_83 (by decide) ?_
                refine e_iadd dX6_richest_87 ?_
                refine e_istore_n dX6_richest_88 (by decide) (Nat.le_of_ble_eq_true rfl) ?_
                refine e_inc (1) (by decide) dX6_richest_89 rfl (by decide) (Nat.le_of_ble_eq_true rfl) ?_
                refine e_goto (tgt := 34) dX6_richest_92 (by decide) ?_
                exact e_to ih2 (by first | rfl | (simp [lset]; done) | (simp [lset]; grind [rkM])) rfl
      refine e_iload_n dX6_richest_21 rfl ?_
      refine e_aload_n dX6_richest_22 rfl ?_
      refine e_getI kX6 (by first | assumption | exact ⟨by decide, rfl⟩) (by decide) fX6_142 rfl dX6_richest_23 ?_
      refine e_icmp_ge (tgt := 108) dX6_richest_26 (by decide) (fun h26 => ?_) (fun h26 => ?_)
      · exfalso
        grind
      refine e_iconst (v := 0) dX6_richest_29 (by decide) ?_
      refine e_istore_n dX6_richest_30 (by decide) (Nat.le_of_ble_eq_true rfl) ?_
      refine e_iconst (v := 0) dX6_richest_31 (by decide) ?_
      refine e_istore dX6_richest_32 (by decide) (Nat.le_of_ble_eq_true rfl) ?_
      exact e_to (inner 0 (Nat.zero_le _)) (by first | rfl | (simp [lset]; done) | (simp [lset]; grind)) rfl
  refine e_aload_n dX6_richest_0 rfl ?_
  refine e_iconst (v := 0) dX6_richest_1 (by decide) ?_
  refine e_putI kX6 (by first | assumption | exact ⟨by decide, rfl⟩) (by decide) fX6_75 rfl rfl rfl dX6_richest_2 ?_
  rw [hz]
  refine e_iload_n dX6_richest_5 rfl ?_
  refine e_if_lt (tgt := 17) dX6_richest_6 (by decide) (fun h6 => ?_) (fun h6 => ?_)
  ·
    refine e_iconst (v := -1) dX6_richest_17 (by decide) ?_
    exact e_ireq rfl rfl dX6_richest_18 (by rw [if_neg (by grind)]) rfl
  ·
    refine e_iload_n dX6_richest_9 rfl ?_
    refine e_aload_n dX6_richest_10 rfl ?_
    refine e_getI kX6 (by first | assumption | exact ⟨by decide, rfl⟩) (by decide) fX6_142 rfl dX6_richest_11 ?_
    refine e_icmp_lt (tgt := 19) dX6_richest_14 (by decide) (fun h14 => ?_) (fun h14 => ?_)
    ·
      refine e_iconst (v := 0) dX6_richest_19 (by decide) ?_
      refine e_istore_n dX6_richest_20 (by decide) (Nat.le_of_ble_eq_true rfl) ?_
      rw [if_pos (by grind)]
      exact e_to (outer n 0 (by omega)) (by first | rfl | (simp [lset]; done) | (simp [lset]; grind)) rfl
    ·
      refine e_iconst (v := -1) dX6_richest_17 (by decide) ?_
      exact e_ireq rfl rfl dX6_richest_18 (by rw [if_neg (by grind)]) rfl
theorem c_X6_place {p w : Int32} {τ : rS} {mm : Nat} {σ : rS} (hz : up σ 8 2 0 0 = τ) (hpl : τ 8 6 0 = nI mm) (hmm : mm ≤ 24) : Ct mX6_place [.inr (8, 0), .inl p, .inl w] σ (some (.inl (if 0 ≤ p ∧ p < nI mm ∧ 0 ≤ w ∧ w ≤ 1 then (if w = 0 then τ 8 7 p else if ¬ τ 8 16 0 = 0 then τ 8 18 p else -1) else -2))) (τ) := by
  refine C_of_E rfl rfl (Nat.le_of_ble_eq_true rfl) ?_
  have f9 := nI_le24 hmm
  refine e_aload_n dX6_place_0 rfl ?_
  refine e_iconst (v := 0) dX6_place_1 (by decide) ?_
  refine e_putI kX6 (by first | assumption | exact ⟨by decide, rfl⟩) (by decide) fX6_75 rfl rfl rfl dX6_place_2 ?_
  rw [hz]
  refine e_iload_n dX6_place_5 rfl ?_
  refine e_if_lt (tgt := 26) dX6_place_6 (by decide) (fun h6 => ?_) (fun h6 => ?_)
  ·
    refine e_bipush (v := -2) dX6_place_26 (by decide) ?_
    exact e_ireq rfl rfl dX6_place_28 (by grind) rfl
  ·
    refine e_iload_n dX6_place_9 rfl ?_
    refine e_aload_n dX6_place_10 rfl ?_
    refine e_getI kX6 (by first | assumption | exact ⟨by decide, rfl⟩) (by decide) fX6_139 rfl dX6_place_11 ?_
    refine e_icmp_ge (tgt := 26) dX6_place_14 (by decide) (fun h14 => ?_) (fun h14 => ?_)
    ·
      refine e_bipush (v := -2) dX6_place_26 (by decide) ?_
      exact e_ireq rfl rfl dX6_place_28 (by grind) rfl
    ·
      refine e_iload_n dX6_place_17 rfl ?_
      refine e_if_lt (tgt := 26) dX6_place_18 (by decide) (fun h18 => ?_) (fun h18 => ?_)
      ·
        refine e_bipush (v := -2) dX6_place_26 (by decide) ?_
        exact e_ireq rfl rfl dX6_place_28 (by grind) rfl
      ·
        refine e_iload_n dX6_place_21 rfl ?_
        refine e_iconst (v := 1) dX6_place_22 (by decide) ?_
        refine e_icmp_le (tgt := 29) dX6_place_23 (by decide) (fun h23 => ?_) (fun h23 => ?_)
        ·
          refine e_iload_n dX6_place_29 rfl ?_
          refine e_if_ne (tgt := 42) dX6_place_30 (by decide) (fun h30 => ?_) (fun h30 => ?_)
          ·
            refine e_aload_n dX6_place_42 rfl ?_
            refine e_getI kX6 (by first | assumption | exact ⟨by decide, rfl⟩) (by decide) fX6_132 rfl dX6_place_43 ?_
            refine e_if_eq (tgt := 58) dX6_place_46 (by decide) (fun h46 => ?_) (fun h46 => ?_)
            ·
              refine e_iconst (v := -1) dX6_place_58 (by decide) ?_
              exact e_ireq rfl rfl dX6_place_59 (by grind) rfl
            ·
              refine e_aload_n dX6_place_49 rfl ?_
              refine e_getA kX6 (by first | assumption | exact ⟨by decide, rfl⟩) (by decide) fX6_41 rfl dX6_place_50 ?_
              refine e_iload_n dX6_place_53 rfl ?_
              refine e_iald (ci := 6) (by first | assumption | exact ⟨by decide, rfl⟩) rfl (vin 48 (by decide) (by grind)) dX6_place_54 ?_
              refine e_goto (tgt := 59) dX6_place_55 (by decide) ?_
              exact e_ireq rfl rfl dX6_place_59 (by grind) rfl
          ·
            refine e_aload_n dX6_place_33 rfl ?_
            refine e_getA kX6 (by first | assumption | exact ⟨by decide, rfl⟩) (by decide) fX6_22 rfl dX6_place_34 ?_
            refine e_iload_n dX6_place_37 rfl ?_
            refine e_iald (ci := 6) (by first | assumption | exact ⟨by decide, rfl⟩) rfl (vin 24 (by decide) (by grind)) dX6_place_38 ?_
            refine e_goto (tgt := 59) dX6_place_39 (by decide) ?_
            exact e_ireq rfl rfl dX6_place_59 (by grind) rfl
        ·
          refine e_bipush (v := -2) dX6_place_26 (by decide) ?_
          exact e_ireq rfl rfl dX6_place_28 (by grind) rfl
def f1M (row : Int32) : Nat → rS → rS := itS (fun j τ => up τ 8 18 (row + nI j) (-1))
theorem f1M_fr {σ : rS} {row : Int32} {o' k' : Nat} {i' : Int32} (h : ¬ (o' = 8 ∧ k' = 18)) : ∀ j, f1M row j σ o' k' i' = σ o' k' i' := by
  intro j
  induction j with
  | zero => rfl
  | succ j ih => show up (f1M row j σ) 8 18 (row + nI j) (-1) o' k' i' = _; simp only [up]; grind
def biF (σ : rS) (coins row year : Int32) (mm : Nat) : Nat → Int32
  | 0 => -1
  | j + 1 => if mfB σ (nI j) coins row year mm ∧ (biF σ coins row year mm j < 0 ∨ σ 8 11 (coins + biF σ coins row year mm j) < σ 8 11 (coins + nI j)) then nI j else biF σ coins row year mm j
theorem biF_rng {σ : rS} {coins row year : Int32} {mm : Nat} : ∀ j, j ≤ 12 → -1 ≤ biF σ coins row year mm j ∧ biF σ coins row year mm j < 12 := by
  intro j
  induction j with
  | zero => intro _; exact ⟨by show (-1 : Int32) ≤ -1; decide, by show (-1 : Int32) < 12; decide⟩
  | succ j ih =>
    intro hj
    obtain ⟨f1, f2, f3, f4⟩ := nI_facts (j := j) 12 (show j < 12 by omega) (Nat.le_refl _) (by decide) rfl
    have e12 : nI 12 = 12 := rfl
    rw [biF]
    split
    · grind
    · exact ih (by omega)
def f2Step (coins row year : Int32) (n mm j : Nat) (s : Int32 × rS) : Int32 × rS := (s.1 + (if biF s.2 coins row year mm n < 0 then 1 else 0), up s.2 8 18 (row + nI j) (biF s.2 coins row year mm n))
abbrev f2F (coins row year : Int32) (n mm : Nat) (σ : rS) (j : Nat) : Int32 × rS := itP (f2Step coins row year n mm) j (0, f1M row mm σ)
theorem f2F_fr {σ : rS} {coins row year : Int32} {n mm o' k' : Nat} {i' : Int32} (h : ¬ (o' = 8 ∧ k' = 18)) : ∀ j, (f2F coins row year n mm σ j).2 o' k' i' = σ o' k' i' := by
  intro j
  induction j with
  | zero => exact f1M_fr h mm
  | succ j ih =>
    show (f2Step coins row year n mm j (f2F coins row year n mm σ j)).2 o' k' i' = _
    generalize f2F coins row year n mm σ j = s at ih ⊢
    show up s.2 8 18 (row + nI j) (biF s.2 coins row year mm n) o' k' i' = _
    simp only [up]; grind
theorem c_X6_fill {coins row year : Int32} {n mm : Nat} {σ : rS} (hn : σ 8 10 0 = nI n) (hn2 : n ≤ 12) (hpl : σ 8 6 0 = nI mm) (hmm : mm ≤ 24) (hb : 0 ≤ row ∧ row ≤ 24) (hc : 0 ≤ coins ∧ coins ≤ 12) : Ct mX6_fill [.inr (8, 0), .inl coins, .inl row, .inl year] σ (some (.inl ((f2F coins row year n mm σ mm).1))) ((f2F coins row year n mm σ mm).2) := by
  refine C_of_E rfl rfl (Nat.le_of_ble_eq_true rfl) ?_
  have outer : ∀ j, j ≤ mm → E mX6_fill 34 [.inr (8, 0), .inl coins, .inl row, .inl year, .inl (f2F coins row year n mm σ j).1, .inl (nI j)] [] (f2F coins row year n mm σ j).2 (some (.inl (f2F coins row year n mm σ mm).1)) (f2F coins row year n mm σ mm).2 := by
    refine dn_ind mm _ ?_ (fun j hj ih => ?_)
    · have hp : (f2F coins row year n mm σ mm).2 8 6 0 = nI mm := by rw [f2F_fr (by decide)]; exact hpl
      refine e_iload dX6_fill_34 rfl ?_
      refine e_aload_n dX6_fill_36 rfl ?_
      refine e_getI kX6 (by first | assumption | exact ⟨by decide, rfl⟩) (by decide) fX6_139 rfl dX6_fill_37 ?_
      refine e_icmp_ge (tgt := 138) dX6_fill_40 (by decide) (fun h40 => ?_) (fun h40 => ?_)
      rotate_left
      · exfalso
        grind
      refine e_iload dX6_fill_138 rfl ?_
      exact e_ireq rfl rfl dX6_fill_140 (by first | rfl | grind) rfl
    · have hp : (f2F coins row year n mm σ j).2 8 6 0 = nI mm := by rw [f2F_fr (by decide)]; exact hpl
      have hm : (f2F coins row year n mm σ j).2 8 10 0 = nI n := by rw [f2F_fr (by decide)]; exact hn
      obtain ⟨f1, f2, f3, f4⟩ := nI_facts 24 hj hmm (by decide) rfl
      change E mX6_fill 34 [.inr (8, 0), .inl coins, .inl row, .inl year, .inl (f2Step coins row year n mm j (f2F coins row year n mm σ j)).1, .inl (nI (j + 1))] [] (f2Step coins row year n mm j (f2F coins row year n mm σ j)).2 _ _ at ih
      generalize f2F coins row year n mm σ j = s at ih hp hm ⊢
      have inner : ∀ i, i ≤ n → E mX6_fill 49 [.inr (8, 0), .inl coins, .inl row, .inl year, .inl s.1, .inl (nI j), .inl (biF s.2 coins row year mm i), .inl (nI i)] [] s.2 (some (.inl (f2F coins row year n mm σ mm).1)) (f2F coins row year n mm σ mm).2 := by
        refine dn_ind n _ ?_ (fun i hi ih2 => ?_)
        · have hr := biF_rng (σ := s.2) (coins := coins) (row := row) (year := year) (mm := mm) n hn2
          refine e_iload dX6_fill_49 rfl ?_
          refine e_aload_n dX6_fill_51 rfl ?_
          refine e_getI kX6 (by first | assumption | exact ⟨by decide, rfl⟩) (by decide) fX6_142 rfl dX6_fill_52 ?_
          refine e_icmp_ge (tgt := 106) dX6_fill_55 (by decide) (fun h55 => ?_) (fun h55 => ?_)
          rotate_left
          · exfalso
            grind
          refine e_aload_n dX6_fill_106 rfl ?_
          refine e_getA kX6 (by first | assumption | exact ⟨by decide, rfl⟩) (by decide) fX6_41 rfl dX6_fill_107 ?_
          refine e_iload_n dX6_fill_110 rfl ?_
          refine e_iload dX6_fill_111 rfl ?_
          refine e_iadd dX6_fill_113 ?_
          refine e_iload dX6_fill_114 rfl ?_
          refine e_iast (ci := 6) (by first | assumption | exact ⟨by decide, rfl⟩) rfl (vin 48 (by decide) (by grind)) dX6_fill_116 ?_
          refine e_iload dX6_fill_117 rfl ?_
          refine e_iload dX6_fill_119 rfl ?_
          refine e_if_ge (tgt := 128) dX6_fill_121 (by decide) (fun h121 => ?_) (fun h121 => ?_)
          ·
            refine e_iconst (v := 0) dX6_fill_128 (by decide) ?_
            refine e_iadd dX6_fill_129 ?_
            refine e_istore dX6_fill_130 (by decide) (Nat.le_of_ble_eq_true rfl) ?_
            refine e_inc (1) (by decide) dX6_fill_132 rfl (by decide) (Nat.le_of_ble_eq_true rfl) ?_
            refine e_goto (tgt := 34) dX6_fill_135 (by decide) ?_
            exact e_to ih (by simp [lset, f2Step]; grind) (by simp [f2Step])
          ·
            refine e_iconst (v := 1) dX6_fill_124 (by decide) ?_
            refine e_goto (tgt := 129) dX6_fill_125 (by decide) ?_
            refine e_iadd dX6_fill_129 ?_
            refine e_istore dX6_fill_130 (by decide) (Nat.le_of_ble_eq_true rfl) ?_
            refine e_inc (1) (by decide) dX6_fill_132 rfl (by decide) (Nat.le_of_ble_eq_true rfl) ?_
            refine e_goto (tgt := 34) dX6_fill_135 (by decide) ?_
            exact e_to ih (by simp [lset, f2Step]; grind) (by simp [f2Step])
        · obtain ⟨e1, e2, e3, e4⟩ := nI_facts (j := i) 12 hi hn2 (by decide) rfl
          have hr := biF_rng (σ := s.2) (coins := coins) (row := row) (year := year) (mm := mm) i (by omega)
          refine e_iload dX6_fill_49 rfl ?_
          refine e_aload_n dX6_fill_51 rfl ?_
          refine e_getI kX6 (by first | assumption | exact ⟨by decide, rfl⟩) (by decide) fX6_142 rfl dX6_fill_52 ?_
          refine e_icmp_ge (tgt := 106) dX6_fill_55 (by decide) (fun h55 => ?_) (fun h55 => ?_)
          · exfalso
            grind
          refine e_aload_n dX6_fill_58 rfl ?_
          refine e_iload dX6_fill_59 rfl ?_
          refine e_iload_n dX6_fill_61 rfl ?_
          refine e_iload_n dX6_fill_62 rfl ?_
          refine e_iload_n dX6_fill_63 rfl ?_
          refine e_V4 oX6_isFit lX6_158 ⟨Nat.le_of_ble_eq_true rfl, Nat.le_of_ble_eq_true rfl⟩ dX6_fill_64 (by first | assumption | exact ⟨by decide, rfl⟩) (Nat.le_of_ble_eq_true rfl) (c_X6_isFit hp hmm hb hc (by grind)) ?_
          refine e_if_eqB (tgt := 100) dX6_fill_67 (by decide) (fun h67 => ?_) (fun h67 => ?_)
          ·
            refine e_inc (1) (by decide) dX6_fill_100 rfl (by decide) (Nat.le_of_ble_eq_true rfl) ?_
            refine e_goto (tgt := 49) dX6_fill_103 (by decide) ?_
            exact e_to ih2 (by first | rfl | (simp [lset]; done) | (simp [lset]; grind [biF])) rfl
          ·
            refine e_iload dX6_fill_70 rfl ?_
            refine e_if_lt (tgt := 96) dX6_fill_72 (by decide) (fun h72 => ?_) (fun h72 => ?_)
            ·
              refine e_iload dX6_fill_96 rfl ?_
              refine e_istore dX6_fill_98 (by decide) (Nat.le_of_ble_eq_true rfl) ?_
              refine e_inc (1) (by decide) dX6_fill_100 rfl (by decide) (Nat.le_of_ble_eq_true rfl) ?_
              refine e_goto (tgt := 49) dX6_fill_103 (by decide) ?_
              exact e_to ih2 (by first | rfl | (simp [lset]; done) | (simp [lset]; grind [biF])) rfl
            ·
              refine e_aload_n dX6_fill_75 rfl ?_
              refine e_getA kX6 (by first | assumption | exact ⟨by decide, rfl⟩) (by decide) fX6_29 rfl dX6_fill_76 ?_
              refine e_iload_n dX6_fill_79 rfl ?_
              refine e_iload dX6_fill_80 rfl ?_
              refine e_iadd dX6_fill_82 ?_
              refine e_iald (ci := 6) (by first | assumption | exact ⟨by decide, rfl⟩) rfl (vin 24 (by decide) (by grind)) dX6_fill_83 ?_
              refine e_aload_n dX6_fill_84 rfl ?_
              refine e_getA kX6 (by first | assumption | exact ⟨by decide, rfl⟩) (by decide) fX6_29 rfl dX6_fill_85 ?_
              refine e_iload_n dX6_fill_88 rfl ?_
              refine e_iload dX6_fill_89 rfl ?_
              refine e_iadd dX6_fill_91 ?_
              refine e_iald (ci := 6) (by first | assumption | exact ⟨by decide, rfl⟩) rfl (vin 24 (by decide) (by grind)) dX6_fill_92 ?_
              refine e_icmp_le (tgt := 100) dX6_fill_93 (by decide) (fun h93 => ?_) (fun h93 => ?_)
              ·
                refine e_inc (1) (by decide) dX6_fill_100 rfl (by decide) (Nat.le_of_ble_eq_true rfl) ?_
                refine e_goto (tgt := 49) dX6_fill_103 (by decide) ?_
                exact e_to ih2 (by first | rfl | (simp [lset]; done) | (simp [lset]; grind [biF])) rfl
              ·
                refine e_iload dX6_fill_96 rfl ?_
                refine e_istore dX6_fill_98 (by decide) (Nat.le_of_ble_eq_true rfl) ?_
                refine e_inc (1) (by decide) dX6_fill_100 rfl (by decide) (Nat.le_of_ble_eq_true rfl) ?_
                refine e_goto (tgt := 49) dX6_fill_103 (by decide) ?_
                exact e_to ih2 (by first | rfl | (simp [lset]; done) | (simp [lset]; grind [biF])) rfl
      refine e_iload dX6_fill_34 rfl ?_
      refine e_aload_n dX6_fill_36 rfl ?_
      refine e_getI kX6 (by first | assumption | exact ⟨by decide, rfl⟩) (by decide) fX6_139 rfl dX6_fill_37 ?_
      refine e_icmp_ge (tgt := 138) dX6_fill_40 (by decide) (fun h40 => ?_) (fun h40 => ?_)
      · exfalso
        grind
      refine e_iconst (v := -1) dX6_fill_43 (by decide) ?_
      refine e_istore dX6_fill_44 (by decide) (Nat.le_of_ble_eq_true rfl) ?_
      refine e_iconst (v := 0) dX6_fill_46 (by decide) ?_
      refine e_istore dX6_fill_47 (by decide) (Nat.le_of_ble_eq_true rfl) ?_
      exact e_to (inner 0 (Nat.zero_le _)) (by first | rfl | (simp [lset]; done) | (simp [lset]; grind)) rfl
  have first : ∀ j, j ≤ mm → E mX6_fill 6 [.inr (8, 0), .inl coins, .inl row, .inl year, .inl 0, .inl (nI j)] [] (f1M row j σ) (some (.inl (f2F coins row year n mm σ mm).1)) (f2F coins row year n mm σ mm).2 := by
    refine dn_ind mm _ ?_ (fun j hj ih => ?_)
    · have hp : f1M row mm σ 8 6 0 = nI mm := by rw [f1M_fr (by decide)]; exact hpl
      refine e_iload dX6_fill_6 rfl ?_
      refine e_aload_n dX6_fill_8 rfl ?_
      refine e_getI kX6 (by first | assumption | exact ⟨by decide, rfl⟩) (by decide) fX6_139 rfl dX6_fill_9 ?_
      refine e_icmp_ge (tgt := 31) dX6_fill_12 (by decide) (fun h12 => ?_) (fun h12 => ?_)
      rotate_left
      · exfalso
        grind
      refine e_iconst (v := 0) dX6_fill_31 (by decide) ?_
      refine e_istore dX6_fill_32 (by decide) (Nat.le_of_ble_eq_true rfl) ?_
      exact e_to (outer 0 (Nat.zero_le _)) (by first | rfl | (simp [lset]; done) | (simp [lset]; grind)) rfl
    · have hp : f1M row j σ 8 6 0 = nI mm := by rw [f1M_fr (by decide)]; exact hpl
      obtain ⟨f1, f2, f3, f4⟩ := nI_facts 24 hj hmm (by decide) rfl
      refine e_iload dX6_fill_6 rfl ?_
      refine e_aload_n dX6_fill_8 rfl ?_
      refine e_getI kX6 (by first | assumption | exact ⟨by decide, rfl⟩) (by decide) fX6_139 rfl dX6_fill_9 ?_
      refine e_icmp_ge (tgt := 31) dX6_fill_12 (by decide) (fun h12 => ?_) (fun h12 => ?_)
      · exfalso
        grind
      refine e_aload_n dX6_fill_15 rfl ?_
      refine e_getA kX6 (by first | assumption | exact ⟨by decide, rfl⟩) (by decide) fX6_41 rfl dX6_fill_16 ?_
      refine e_iload_n dX6_fill_19 rfl ?_
      refine e_iload dX6_fill_20 rfl ?_
      refine e_iadd dX6_fill_22 ?_
      refine e_iconst (v := -1) dX6_fill_23 (by decide) ?_
      refine e_iast (ci := 6) (by first | assumption | exact ⟨by decide, rfl⟩) rfl (vin 48 (by decide) (by grind)) dX6_fill_24 ?_
      refine e_inc (1) (by decide) dX6_fill_25 rfl (by decide) (Nat.le_of_ble_eq_true rfl) ?_
      refine e_goto (tgt := 6) dX6_fill_28 (by decide) ?_
      exact e_to ih (by first | rfl | (simp [lset]; done) | (simp [lset]; grind)) rfl
  refine e_iconst (v := 0) dX6_fill_0 (by decide) ?_
  refine e_istore dX6_fill_1 (by decide) (Nat.le_of_ble_eq_true rfl) ?_
  refine e_iconst (v := 0) dX6_fill_3 (by decide) ?_
  refine e_istore dX6_fill_4 (by decide) (Nat.le_of_ble_eq_true rfl) ?_
  exact e_to (first 0 (Nat.zero_le _)) (by first | rfl | (simp [lset]; done) | (simp [lset]; grind)) rfl
