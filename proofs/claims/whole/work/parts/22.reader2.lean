-- the Reader: what is expected
abbrev rA3 : Type := Nat × Int32 × Int32
def aWord (T : Nat → Int32) (N s : Nat) (a : rA3) : rA3 := if a.2.1 = 0 then (if wB T N (skN T N a.1) s = true then (smN T N (skN T N a.1), a.2.1, a.2.2) else (skN T N a.1, 1, nI (skN T N a.1))) else a
theorem sk_le {T : Nat → Int32} {N i : Nat} (h : i ≤ N) : i ≤ skN T N i ∧ skN T N i ≤ N := by
  have := spF_le (P := blB) (T := T) (N - i) i
  unfold skN
  omega
theorem sm_le {T : Nat → Int32} {N i : Nat} (h : i ≤ N) : i ≤ smN T N i ∧ smN T N i ≤ N := by
  have := spF_le (P := smB) (T := T) (N - i) i
  unfold smN
  omega
theorem dg_le {T : Nat → Int32} {N i : Nat} (h : i ≤ N) : i ≤ dgN T N i ∧ dgN T N i ≤ N := by
  have := spF_le (P := dgB) (T := T) (N - i) i
  unfold dgN
  omega
theorem aWord_le {T : Nat → Int32} {N s : Nat} {a : rA3} (h : a.1 ≤ N) : (aWord T N s a).1 ≤ N := by
  unfold aWord
  have h1 := sk_le (T := T) h
  have h2 := sm_le (T := T) h1.2
  split
  · split
    · exact h2.2
    · exact h1.2
  · exact h
theorem c_X1_expectWord {σ : rS} {N s : Nat} {a : rA3} (hs : s < 9) (hN : σ 2 2 0 = nI N) (hN2 : N ≤ 600) (hi : a.1 ≤ N) : Ct mX1_expectWord [.inr (2, 0), .inr (100 + s, 0)] (wr σ a) none (wr σ (aWord (tx σ) N s a)) := by
  obtain ⟨i, f, w⟩ := a
  refine C_of_E rfl rfl (Nat.le_of_ble_eq_true rfl) ?_
  have hfk : wr σ (i, f, w) 2 4 0 = f := wr_4
  have h1 := sk_le (T := tx σ) hi
  have hsp : wr σ (skN (tx σ) N i, f, w) 2 3 0 = nI (skN (tx σ) N i) := wr_3
  unfold aWord
  dsimp only
  by_cases hf : f = 0
  · rw [if_pos hf]
    refine e_aload_n dX1_expectWord_0 rfl ?_
    refine e_V0 oX1_isSound lX1_37 ⟨Nat.le_of_ble_eq_true rfl, Nat.le_of_ble_eq_true rfl⟩ dX1_expectWord_1 (by first | assumption | exact ⟨by decide, rfl⟩) (Nat.le_of_ble_eq_true rfl) (c_X1_isSound) ?_
    refine e_if_neB (tgt := 8) dX1_expectWord_4 (by decide) (fun h4 => ?_) (fun h4 => ?_)
    rotate_left
    · exfalso
      grind
    refine e_aload_n dX1_expectWord_8 rfl ?_
    refine e_V0 oX1_nextSign lX1_41 ⟨Nat.le_of_ble_eq_true rfl, Nat.le_of_ble_eq_true rfl⟩ dX1_expectWord_9 (by first | assumption | exact ⟨by decide, rfl⟩) (Nat.le_of_ble_eq_true rfl) (c_X1_nextSign hN hN2 hi) ?_
    refine e_pop dX1_expectWord_12 ?_
    refine e_aload_n dX1_expectWord_13 rfl ?_
    refine e_aload_n dX1_expectWord_14 rfl ?_
    refine e_V1 oX1_passWord lX1_98 ⟨Nat.le_of_ble_eq_true rfl, Nat.le_of_ble_eq_true rfl⟩ dX1_expectWord_15 (by first | assumption | exact ⟨by decide, rfl⟩) (Nat.le_of_ble_eq_true rfl) (c_X1_passWord hs hN hN2 h1.2) ?_
    refine e_if_neB (tgt := 30) dX1_expectWord_18 (by decide) (fun h18 => ?_) (fun h18 => ?_)
    ·
      exact e_vreq rfl dX1_expectWord_30 (by first | (rw [wr_bl]; done) | (rw [if_pos (by assumption), if_pos (by assumption)]; done))
    ·
      rw [if_neg (by assumption), if_neg (by assumption)]
      refine e_aload_n dX1_expectWord_21 rfl ?_
      refine e_iconst (v := 1) dX1_expectWord_22 (by decide) ?_
      refine e_aload_n dX1_expectWord_23 rfl ?_
      refine e_getI kX1 (by first | assumption | exact ⟨by decide, rfl⟩) (by decide) fX1_23 rfl dX1_expectWord_24 ?_
      rw [hsp]
      refine e_V2v oX1_blame lX1_58 ⟨Nat.le_of_ble_eq_true rfl, Nat.le_of_ble_eq_true rfl⟩ dX1_expectWord_27 (by first | assumption | exact ⟨by decide, rfl⟩) (Nat.le_of_ble_eq_true rfl) (c_X1_blame) ?_
      exact e_vreq rfl dX1_expectWord_30 (by first | (rw [wr_bl]; done) | (rw [if_pos (by assumption), if_pos (by assumption)]; done))
  · rw [if_neg hf]
    refine e_aload_n dX1_expectWord_0 rfl ?_
    refine e_V0 oX1_isSound lX1_37 ⟨Nat.le_of_ble_eq_true rfl, Nat.le_of_ble_eq_true rfl⟩ dX1_expectWord_1 (by first | assumption | exact ⟨by decide, rfl⟩) (Nat.le_of_ble_eq_true rfl) (c_X1_isSound) ?_
    refine e_if_neB (tgt := 8) dX1_expectWord_4 (by decide) (fun h4 => ?_) (fun h4 => ?_)
    · exfalso
      grind
    exact e_vreq rfl dX1_expectWord_7 rfl
def nmV (T : Nat → Int32) (N : Nat) (sh : Int32 → Int32) (a : rA3) : Int32 := if a.2.1 = 0 then (if sgn T N (skN T N a.1) - 65 < 0 ∨ 6 ≤ sgn T N (skN T N a.1) - 65 then -1 else if 0 < sh (sgn T N (skN T N a.1) - 65) then -1 else sgn T N (skN T N a.1) - 65) else -1
def nmA (T : Nat → Int32) (N : Nat) (sh : Int32 → Int32) (a : rA3) : rA3 := if a.2.1 = 0 then (if sgn T N (skN T N a.1) - 65 < 0 ∨ 6 ≤ sgn T N (skN T N a.1) - 65 then (skN T N a.1, 1, nI (skN T N a.1)) else if 0 < sh (sgn T N (skN T N a.1) - 65) then (skN T N a.1, 3, nI (skN T N a.1)) else (skN T N a.1 + 1, a.2.1, a.2.2)) else a
theorem c_X1_expectNewName {σ : rS} {N q : Nat} {a : rA3} (h1 : isO q 3) (hN : σ 2 2 0 = nI N) (hN2 : N ≤ 600) (hi : a.1 ≤ N) : Ct mX1_expectNewName [.inr (2, 0), .inr (q, 0)] (wr σ a) (some (.inl (nmV (tx σ) N (gSh σ q) a))) (wr σ (nmA (tx σ) N (gSh σ q) a)) := by
  obtain ⟨i, f, w⟩ := a
  have hq2 : ¬ q = 2 := isO_ne h1 (⟨by decide, rfl⟩ : isO 2 1) (by decide)
  refine C_of_E rfl rfl (Nat.le_of_ble_eq_true rfl) ?_
  have h4 : wr σ (i, f, w) 2 4 0 = f := wr_4
  have hsp : wr σ (skN (tx σ) N i, f, w) 2 3 0 = nI (skN (tx σ) N i) := wr_3
  have hsh : ∀ b, gSh (wr σ (skN (tx σ) N i, f, w)) q b = gSh σ q b := fun b => by unfold gSh; rw [wr_fr (by grind)]
  have e65 : (65 : Int32) = 65 := rfl
  unfold nmV nmA
  dsimp only
  by_cases hf : f = 0
  · rw [if_pos hf, if_pos hf]
    generalize hv : sgn (tx σ) N (skN (tx σ) N i) - 65 = v
    have hv' : sgn (tx σ) N (skN (tx σ) N i) - 65 = v := hv
    refine e_aload_n dX1_expectNewName_0 rfl ?_
    refine e_V0 oX1_isSound lX1_37 ⟨Nat.le_of_ble_eq_true rfl, Nat.le_of_ble_eq_true rfl⟩ dX1_expectNewName_1 (by first | assumption | exact ⟨by decide, rfl⟩) (Nat.le_of_ble_eq_true rfl) (c_X1_isSound) ?_
    refine e_if_neB (tgt := 9) dX1_expectNewName_4 (by decide) (fun h4 => ?_) (fun h4 => ?_)
    rotate_left
    · exfalso
      grind
    refine e_aload_n dX1_expectNewName_9 rfl ?_
    refine e_V0 oX1_nextSign lX1_41 ⟨Nat.le_of_ble_eq_true rfl, Nat.le_of_ble_eq_true rfl⟩ dX1_expectNewName_10 (by first | assumption | exact ⟨by decide, rfl⟩) (Nat.le_of_ble_eq_true rfl) (c_X1_nextSign hN hN2 hi) ?_
    refine e_bipush (v := 65) dX1_expectNewName_13 (by decide) ?_
    refine e_isub dX1_expectNewName_15 ?_
    rw [hv]
    refine e_istore_n dX1_expectNewName_16 (by decide) (Nat.le_of_ble_eq_true rfl) ?_
    refine e_iload_n dX1_expectNewName_17 rfl ?_
    refine e_if_lt (tgt := 27) dX1_expectNewName_18 (by decide) (fun h18 => ?_) (fun h18 => ?_)
    ·
      refine e_aload_n dX1_expectNewName_27 rfl ?_
      refine e_iconst (v := 1) dX1_expectNewName_28 (by decide) ?_
      refine e_aload_n dX1_expectNewName_29 rfl ?_
      refine e_getI kX1 (by first | assumption | exact ⟨by decide, rfl⟩) (by decide) fX1_23 rfl dX1_expectNewName_30 ?_
      rw [hsp]
      refine e_V2v oX1_blame lX1_58 ⟨Nat.le_of_ble_eq_true rfl, Nat.le_of_ble_eq_true rfl⟩ dX1_expectNewName_33 (by first | assumption | exact ⟨by decide, rfl⟩) (Nat.le_of_ble_eq_true rfl) (c_X1_blame) ?_
      refine e_iconst (v := -1) dX1_expectNewName_36 (by decide) ?_
      exact e_ireq rfl rfl dX1_expectNewName_37 (by first | (rw [if_pos (by grind)]; done) | (rw [if_neg (by grind)]; first | (rw [if_pos (by assumption)]; done) | (rw [if_neg (by assumption)]; done))) (by first | (rw [if_pos (by grind), wr_bl]; done) | (rw [if_neg (by grind)]; first | (rw [if_pos (by assumption), wr_bl]; done) | (rw [if_neg (by assumption)]; done)))
    ·
      refine e_iload_n dX1_expectNewName_21 rfl ?_
      refine e_bipush (v := 6) dX1_expectNewName_22 (by decide) ?_
      refine e_icmp_lt (tgt := 38) dX1_expectNewName_24 (by decide) (fun h24 => ?_) (fun h24 => ?_)
      ·
        refine e_aload_n dX1_expectNewName_38 rfl ?_
        refine e_iload_n dX1_expectNewName_39 rfl ?_
        refine e_V1 oX3_hasBurden lX1_102 ⟨Nat.le_of_ble_eq_true rfl, Nat.le_of_ble_eq_true rfl⟩ dX1_expectNewName_40 (by first | assumption | exact ⟨by decide, rfl⟩) (Nat.le_of_ble_eq_true rfl) (c_X3_hasBurden (by first | assumption | exact ⟨by decide, rfl⟩)) ?_
        rw [hsh]
        refine e_if_eqB (tgt := 57) dX1_expectNewName_43 (by decide) (fun h43 => ?_) (fun h43 => ?_)
        ·
          refine e_aload_n dX1_expectNewName_57 rfl ?_
          refine e_dup dX1_expectNewName_58 ?_
          refine e_getI kX1 (by first | assumption | exact ⟨by decide, rfl⟩) (by decide) fX1_23 rfl dX1_expectNewName_59 ?_
          rw [hsp]
          refine e_iconst (v := 1) dX1_expectNewName_62 (by decide) ?_
          refine e_iadd dX1_expectNewName_63 ?_
          rw [← nI_succ]
          refine e_putI kX1 (by first | assumption | exact ⟨by decide, rfl⟩) (by decide) fX1_23 rfl rfl rfl dX1_expectNewName_64 ?_
          rw [wr_sp]
          refine e_iload_n dX1_expectNewName_67 rfl ?_
          exact e_ireq rfl rfl dX1_expectNewName_68 (by first | (rw [if_pos (by grind)]; done) | (rw [if_neg (by grind)]; first | (rw [if_pos (by assumption)]; done) | (rw [if_neg (by assumption)]; done))) (by first | (rw [if_pos (by grind), wr_bl]; done) | (rw [if_neg (by grind)]; first | (rw [if_pos (by assumption), wr_bl]; done) | (rw [if_neg (by assumption)]; done)))
        ·
          refine e_aload_n dX1_expectNewName_46 rfl ?_
          refine e_iconst (v := 3) dX1_expectNewName_47 (by decide) ?_
          refine e_aload_n dX1_expectNewName_48 rfl ?_
          refine e_getI kX1 (by first | assumption | exact ⟨by decide, rfl⟩) (by decide) fX1_23 rfl dX1_expectNewName_49 ?_
          rw [hsp]
          refine e_V2v oX1_blame lX1_58 ⟨Nat.le_of_ble_eq_true rfl, Nat.le_of_ble_eq_true rfl⟩ dX1_expectNewName_52 (by first | assumption | exact ⟨by decide, rfl⟩) (Nat.le_of_ble_eq_true rfl) (c_X1_blame) ?_
          refine e_iconst (v := -1) dX1_expectNewName_55 (by decide) ?_
          exact e_ireq rfl rfl dX1_expectNewName_56 (by first | (rw [if_pos (by grind)]; done) | (rw [if_neg (by grind)]; first | (rw [if_pos (by assumption)]; done) | (rw [if_neg (by assumption)]; done))) (by first | (rw [if_pos (by grind), wr_bl]; done) | (rw [if_neg (by grind)]; first | (rw [if_pos (by assumption), wr_bl]; done) | (rw [if_neg (by assumption)]; done)))
      ·
        refine e_aload_n dX1_expectNewName_27 rfl ?_
        refine e_iconst (v := 1) dX1_expectNewName_28 (by decide) ?_
        refine e_aload_n dX1_expectNewName_29 rfl ?_
        refine e_getI kX1 (by first | assumption | exact ⟨by decide, rfl⟩) (by decide) fX1_23 rfl dX1_expectNewName_30 ?_
        rw [hsp]
        refine e_V2v oX1_blame lX1_58 ⟨Nat.le_of_ble_eq_true rfl, Nat.le_of_ble_eq_true rfl⟩ dX1_expectNewName_33 (by first | assumption | exact ⟨by decide, rfl⟩) (Nat.le_of_ble_eq_true rfl) (c_X1_blame) ?_
        refine e_iconst (v := -1) dX1_expectNewName_36 (by decide) ?_
        exact e_ireq rfl rfl dX1_expectNewName_37 (by first | (rw [if_pos (by grind)]; done) | (rw [if_neg (by grind)]; first | (rw [if_pos (by assumption)]; done) | (rw [if_neg (by assumption)]; done))) (by first | (rw [if_pos (by grind), wr_bl]; done) | (rw [if_neg (by grind)]; first | (rw [if_pos (by assumption), wr_bl]; done) | (rw [if_neg (by assumption)]; done)))
  · rw [if_neg hf, if_neg hf]
    refine e_aload_n dX1_expectNewName_0 rfl ?_
    refine e_V0 oX1_isSound lX1_37 ⟨Nat.le_of_ble_eq_true rfl, Nat.le_of_ble_eq_true rfl⟩ dX1_expectNewName_1 (by first | assumption | exact ⟨by decide, rfl⟩) (Nat.le_of_ble_eq_true rfl) (c_X1_isSound) ?_
    refine e_if_neB (tgt := 9) dX1_expectNewName_4 (by decide) (fun h4 => ?_) (fun h4 => ?_)
    · exfalso
      grind
    refine e_iconst (v := -1) dX1_expectNewName_7 (by decide) ?_
    exact e_ireq rfl rfl dX1_expectNewName_8 (by first | rfl | grind) rfl
def mn6 (x : Int32) : Int32 := if x < 1000000 then x else 1000000
def ncF (T : Nat → Int32) : Nat → Nat → Int32 → Int32
  | 0, _, v => v
  | c + 1, j, v => if dgB (T j) = true then ncF T c (j + 1) (mn6 (v * 10 + T j - 48)) else v
abbrev ncN (T : Nat → Int32) (N p : Nat) : Int32 := ncF T (N - p) p 0
def nuV (T : Nat → Int32) (N : Nat) (lo hi : Int32) (a : rA3) : Int32 := if a.2.1 = 0 then (if dgB (sgn T N (skN T N a.1)) = true then (if ncN T N (skN T N a.1) < lo ∨ hi < ncN T N (skN T N a.1) then 0 else ncN T N (skN T N a.1)) else 0) else 0
def nuA (T : Nat → Int32) (N : Nat) (lo hi : Int32) (a : rA3) : rA3 := if a.2.1 = 0 then (if dgB (sgn T N (skN T N a.1)) = true then (if ncN T N (skN T N a.1) < lo ∨ hi < ncN T N (skN T N a.1) then (dgN T N (skN T N a.1), 2, nI (skN T N a.1)) else (dgN T N (skN T N a.1), a.2.1, a.2.2)) else (skN T N a.1, 1, nI (skN T N a.1))) else a
theorem c_X1_expectNumber {σ : rS} {N : Nat} {lo hi : Int32} {a : rA3} (hN : σ 2 2 0 = nI N) (hN2 : N ≤ 600) (hi0 : a.1 ≤ N) : Ct mX1_expectNumber [.inr (2, 0), .inl lo, .inl hi] (wr σ a) (some (.inl (nuV (tx σ) N lo hi a))) (wr σ (nuA (tx σ) N lo hi a)) := by
  obtain ⟨i, f, w⟩ := a
  refine C_of_E rfl rfl (Nat.le_of_ble_eq_true rfl) ?_
  have h4 : wr σ (i, f, w) 2 4 0 = f := wr_4
  have h1 := sk_le (T := tx σ) hi0
  have hsp : wr σ (skN (tx σ) N i, f, w) 2 3 0 = nI (skN (tx σ) N i) := wr_3
  unfold nuV nuA
  dsimp only
  by_cases hf : f = 0
  · rw [if_pos hf, if_pos hf]
    generalize hp : skN (tx σ) N i = p at h1 hsp ⊢
    have hcl : dgB (sgn (tx σ) N p) = true → E mX1_expectNumber 106 [.inr (2, 0), .inl lo, .inl hi, .inl (nI p), .inl (ncN (tx σ) N p)] [] (wr σ (dgN (tx σ) N p, f, w)) (some (.inl (if dgB (sgn (tx σ) N p) = true then (if ncN (tx σ) N p < lo ∨ hi < ncN (tx σ) N p then 0 else ncN (tx σ) N p) else 0))) (wr σ (if dgB (sgn (tx σ) N p) = true then (if ncN (tx σ) N p < lo ∨ hi < ncN (tx σ) N p then (dgN (tx σ) N p, 2, nI p) else (dgN (tx σ) N p, f, w)) else (p, 1, nI p))) := by
      intro hd
      rw [if_pos hd, if_pos hd]
      refine e_iload dX1_expectNumber_106 rfl ?_
      refine e_iload_n dX1_expectNumber_108 rfl ?_
      refine e_icmp_lt (tgt := 118) dX1_expectNumber_109 (by decide) (fun h109 => ?_) (fun h109 => ?_)
      ·
        refine e_aload_n dX1_expectNumber_118 rfl ?_
        refine e_iconst (v := 2) dX1_expectNumber_119 (by decide) ?_
        refine e_iload_n dX1_expectNumber_120 rfl ?_
        refine e_V2v oX1_blame lX1_58 ⟨Nat.le_of_ble_eq_true rfl, Nat.le_of_ble_eq_true rfl⟩ dX1_expectNumber_121 (by first | assumption | exact ⟨by decide, rfl⟩) (Nat.le_of_ble_eq_true rfl) (c_X1_blame) ?_
        refine e_iconst (v := 0) dX1_expectNumber_124 (by decide) ?_
        exact e_ireq rfl rfl dX1_expectNumber_125 (by first | (rw [if_pos (by grind)]; done) | (rw [if_neg (by grind)]; done)) (by first | (rw [if_pos (by grind), wr_bl]; done) | (rw [if_neg (by grind)]; done))
      ·
        refine e_iload dX1_expectNumber_112 rfl ?_
        refine e_iload_n dX1_expectNumber_114 rfl ?_
        refine e_icmp_le (tgt := 126) dX1_expectNumber_115 (by decide) (fun h115 => ?_) (fun h115 => ?_)
        ·
          refine e_iload dX1_expectNumber_126 rfl ?_
          exact e_ireq rfl rfl dX1_expectNumber_128 (by first | (rw [if_pos (by grind)]; done) | (rw [if_neg (by grind)]; done)) (by first | (rw [if_pos (by grind), wr_bl]; done) | (rw [if_neg (by grind)]; done))
        ·
          refine e_aload_n dX1_expectNumber_118 rfl ?_
          refine e_iconst (v := 2) dX1_expectNumber_119 (by decide) ?_
          refine e_iload_n dX1_expectNumber_120 rfl ?_
          refine e_V2v oX1_blame lX1_58 ⟨Nat.le_of_ble_eq_true rfl, Nat.le_of_ble_eq_true rfl⟩ dX1_expectNumber_121 (by first | assumption | exact ⟨by decide, rfl⟩) (Nat.le_of_ble_eq_true rfl) (c_X1_blame) ?_
          refine e_iconst (v := 0) dX1_expectNumber_124 (by decide) ?_
          exact e_ireq rfl rfl dX1_expectNumber_125 (by first | (rw [if_pos (by grind)]; done) | (rw [if_neg (by grind)]; done)) (by first | (rw [if_pos (by grind), wr_bl]; done) | (rw [if_neg (by grind)]; done))
    have loop : dgB (sgn (tx σ) N p) = true → ∀ c j v, j + c = N → ncN (tx σ) N p = ncF (tx σ) c j v → dgN (tx σ) N p = spF dgB (tx σ) c j → E mX1_expectNumber 38 [.inr (2, 0), .inl lo, .inl hi, .inl (nI p), .inl v] [] (wr σ (j, f, w)) (some (.inl (if dgB (sgn (tx σ) N p) = true then (if ncN (tx σ) N p < lo ∨ hi < ncN (tx σ) N p then 0 else ncN (tx σ) N p) else 0))) (wr σ (if dgB (sgn (tx σ) N p) = true then (if ncN (tx σ) N p < lo ∨ hi < ncN (tx σ) N p then (dgN (tx σ) N p, 2, nI p) else (dgN (tx σ) N p, f, w)) else (p, 1, nI p))) := by
      intro hd c
      induction c with
      | zero =>
        intro j v hj hV hQ
        have hjN : j = N := by omega
        have h2 : wr σ (j, f, w) 2 2 0 = nI j := by rw [hjN]; exact (wr_fr (by decide)).trans hN
        have h3 : wr σ (j, f, w) 2 3 0 = nI j := wr_3
        have hV2 : ncN (tx σ) N p = v := hV
        have hQ2 : dgN (tx σ) N p = j := hQ
        refine e_aload_n dX1_expectNumber_38 rfl ?_
        refine e_getI kX1 (by first | assumption | exact ⟨by decide, rfl⟩) (by decide) fX1_23 rfl dX1_expectNumber_39 ?_
        refine e_aload_n dX1_expectNumber_42 rfl ?_
        refine e_getI kX1 (by first | assumption | exact ⟨by decide, rfl⟩) (by decide) fX1_19 rfl dX1_expectNumber_43 ?_
        refine e_icmp_ge (tgt := 106) dX1_expectNumber_46 (by decide) (fun h46 => ?_) (fun h46 => ?_)
        rotate_left
        · exfalso
          grind
        exact e_to (hcl hd) (by rw [hV2]; rfl) (by rw [hQ2])
      | succ c ih =>
        intro j v hj hV hQ
        have h2 : wr σ (j, f, w) 2 2 0 = nI N := (wr_fr (by decide)).trans hN
        have h3 : wr σ (j, f, w) 2 3 0 = nI j := wr_3
        have h5 : nI j < nI N := nI_lt (by omega) (by omega)
        have hg : gAt (wr σ (j, f, w)) 1 (nI j) = tx σ j := (gAt_tx (by omega)).trans (congrFun wr_tx j)
        rw [ncF] at hV
        rw [spF] at hQ
        refine e_aload_n dX1_expectNumber_38 rfl ?_
        refine e_getI kX1 (by first | assumption | exact ⟨by decide, rfl⟩) (by decide) fX1_23 rfl dX1_expectNumber_39 ?_
        refine e_aload_n dX1_expectNumber_42 rfl ?_
        refine e_getI kX1 (by first | assumption | exact ⟨by decide, rfl⟩) (by decide) fX1_19 rfl dX1_expectNumber_43 ?_
        refine e_icmp_ge (tgt := 106) dX1_expectNumber_46 (by decide) (fun h46 => ?_) (fun h46 => ?_)
        · exfalso
          grind
        refine e_aload_n dX1_expectNumber_49 rfl ?_
        refine e_getO 1 kX1 (by first | assumption | exact ⟨by decide, rfl⟩) (by decide) fX1_9 rfl rfl dX1_expectNumber_50 ?_
        refine e_aload_n dX1_expectNumber_53 rfl ?_
        refine e_getI kX1 (by first | assumption | exact ⟨by decide, rfl⟩) (by decide) fX1_23 rfl dX1_expectNumber_54 ?_
        rw [h3]
        refine e_V1 oX4_at lX1_109 ⟨Nat.le_of_ble_eq_true rfl, Nat.le_of_ble_eq_true rfl⟩ dX1_expectNumber_57 (by first | assumption | exact ⟨by decide, rfl⟩) (Nat.le_of_ble_eq_true rfl) (c_X4_at (by first | assumption | exact ⟨by decide, rfl⟩)) ?_
        rw [hg]
        refine e_S1 oX1_isDigit sX1_isDigit lX1_106 ⟨Nat.le_of_ble_eq_true rfl, Nat.le_of_ble_eq_true rfl⟩ dX1_expectNumber_60 (Nat.le_of_ble_eq_true rfl) (c_X1_isDigit) ?_
        refine e_if_eqB (tgt := 106) dX1_expectNumber_63 (by decide) (fun h63 => ?_) (fun h63 => ?_)
        ·
          rw [if_neg (by assumption)] at hV hQ
          exact e_to (hcl hd) (by rw [hV]; rfl) (by rw [hQ])
        ·
          rw [if_pos (by assumption)] at hV hQ
          refine e_ldc dX1_expectNumber_66 kX1_114 ?_
          refine e_iload dX1_expectNumber_68 rfl ?_
          refine e_bipush (v := 10) dX1_expectNumber_70 (by decide) ?_
          refine e_imul dX1_expectNumber_72 ?_
          refine e_aload_n dX1_expectNumber_73 rfl ?_
          refine e_getO 1 kX1 (by first | assumption | exact ⟨by decide, rfl⟩) (by decide) fX1_9 rfl rfl dX1_expectNumber_74 ?_
          refine e_aload_n dX1_expectNumber_77 rfl ?_
          refine e_getI kX1 (by first | assumption | exact ⟨by decide, rfl⟩) (by decide) fX1_23 rfl dX1_expectNumber_78 ?_
          rw [h3]
          refine e_V1 oX4_at lX1_109 ⟨Nat.le_of_ble_eq_true rfl, Nat.le_of_ble_eq_true rfl⟩ dX1_expectNumber_81 (by first | assumption | exact ⟨by decide, rfl⟩) (Nat.le_of_ble_eq_true rfl) (c_X4_at (by first | assumption | exact ⟨by decide, rfl⟩)) ?_
          rw [hg]
          refine e_iadd dX1_expectNumber_84 ?_
          refine e_bipush (v := 48) dX1_expectNumber_85 (by decide) ?_
          refine e_isub dX1_expectNumber_87 ?_
          refine e_min lX1_115 (by decide) (Nat.le_of_ble_eq_true rfl) dX1_expectNumber_88 ?_
          refine e_istore dX1_expectNumber_91 (by decide) (Nat.le_of_ble_eq_true rfl) ?_
          refine e_aload_n dX1_expectNumber_93 rfl ?_
          refine e_dup dX1_expectNumber_94 ?_
          refine e_getI kX1 (by first | assumption | exact ⟨by decide, rfl⟩) (by decide) fX1_23 rfl dX1_expectNumber_95 ?_
          rw [h3]
          refine e_iconst (v := 1) dX1_expectNumber_98 (by decide) ?_
          refine e_iadd dX1_expectNumber_99 ?_
          rw [← nI_succ]
          refine e_putI kX1 (by first | assumption | exact ⟨by decide, rfl⟩) (by decide) fX1_23 rfl rfl rfl dX1_expectNumber_100 ?_
          rw [wr_sp]
          refine e_goto (tgt := 38) dX1_expectNumber_103 (by decide) ?_
          exact e_to (ih (j + 1) (mn6 (v * 10 + tx σ j - 48)) (by omega) hV hQ) rfl rfl
    refine e_aload_n dX1_expectNumber_0 rfl ?_
    refine e_V0 oX1_isSound lX1_37 ⟨Nat.le_of_ble_eq_true rfl, Nat.le_of_ble_eq_true rfl⟩ dX1_expectNumber_1 (by first | assumption | exact ⟨by decide, rfl⟩) (Nat.le_of_ble_eq_true rfl) (c_X1_isSound) ?_
    refine e_if_neB (tgt := 9) dX1_expectNumber_4 (by decide) (fun h4 => ?_) (fun h4 => ?_)
    rotate_left
    · exfalso
      grind
    refine e_aload_n dX1_expectNumber_9 rfl ?_
    refine e_V0 oX1_nextSign lX1_41 ⟨Nat.le_of_ble_eq_true rfl, Nat.le_of_ble_eq_true rfl⟩ dX1_expectNumber_10 (by first | assumption | exact ⟨by decide, rfl⟩) (Nat.le_of_ble_eq_true rfl) (c_X1_nextSign hN hN2 hi0) ?_
    rw [hp]
    refine e_S1 oX1_isDigit sX1_isDigit lX1_106 ⟨Nat.le_of_ble_eq_true rfl, Nat.le_of_ble_eq_true rfl⟩ dX1_expectNumber_13 (Nat.le_of_ble_eq_true rfl) (c_X1_isDigit) ?_
    refine e_if_neB (tgt := 30) dX1_expectNumber_16 (by decide) (fun h16 => ?_) (fun h16 => ?_)
    ·
      refine e_aload_n dX1_expectNumber_30 rfl ?_
      refine e_getI kX1 (by first | assumption | exact ⟨by decide, rfl⟩) (by decide) fX1_23 rfl dX1_expectNumber_31 ?_
      rw [hsp]
      refine e_istore_n dX1_expectNumber_34 (by decide) (Nat.le_of_ble_eq_true rfl) ?_
      refine e_iconst (v := 0) dX1_expectNumber_35 (by decide) ?_
      refine e_istore dX1_expectNumber_36 (by decide) (Nat.le_of_ble_eq_true rfl) ?_
      exact e_to (loop (by assumption) (N - p) p 0 (by omega) rfl rfl) rfl rfl
    ·
      refine e_aload_n dX1_expectNumber_19 rfl ?_
      refine e_iconst (v := 1) dX1_expectNumber_20 (by decide) ?_
      refine e_aload_n dX1_expectNumber_21 rfl ?_
      refine e_getI kX1 (by first | assumption | exact ⟨by decide, rfl⟩) (by decide) fX1_23 rfl dX1_expectNumber_22 ?_
      rw [hsp]
      refine e_V2v oX1_blame lX1_58 ⟨Nat.le_of_ble_eq_true rfl, Nat.le_of_ble_eq_true rfl⟩ dX1_expectNumber_25 (by first | assumption | exact ⟨by decide, rfl⟩) (Nat.le_of_ble_eq_true rfl) (c_X1_blame) ?_
      refine e_iconst (v := 0) dX1_expectNumber_28 (by decide) ?_
      exact e_ireq rfl rfl dX1_expectNumber_29 (by rw [if_neg (by assumption)]) (by rw [if_neg (by assumption), wr_bl])
  · rw [if_neg hf, if_neg hf]
    refine e_aload_n dX1_expectNumber_0 rfl ?_
    refine e_V0 oX1_isSound lX1_37 ⟨Nat.le_of_ble_eq_true rfl, Nat.le_of_ble_eq_true rfl⟩ dX1_expectNumber_1 (by first | assumption | exact ⟨by decide, rfl⟩) (Nat.le_of_ble_eq_true rfl) (c_X1_isSound) ?_
    refine e_if_neB (tgt := 9) dX1_expectNumber_4 (by decide) (fun h4 => ?_) (fun h4 => ?_)
    · exfalso
      grind
    refine e_iconst (v := 0) dX1_expectNumber_7 (by decide) ?_
    exact e_ireq rfl rfl dX1_expectNumber_8 (by first | rfl | grind) rfl
def aSemi (T : Nat → Int32) (N : Nat) (a : rA3) : rA3 := if a.2.1 = 0 then (if sgn T N (skN T N a.1) = 59 then (skN T N a.1 + 1, a.2.1, a.2.2) else (skN T N a.1, 1, nI (skN T N a.1))) else a
theorem c_X1_expectSemicolon {σ : rS} {N : Nat} {a : rA3} (hN : σ 2 2 0 = nI N) (hN2 : N ≤ 600) (hi : a.1 ≤ N) : Ct mX1_expectSemicolon [.inr (2, 0)] (wr σ a) none (wr σ (aSemi (tx σ) N a)) := by
  obtain ⟨i, f, w⟩ := a
  refine C_of_E rfl rfl (Nat.le_of_ble_eq_true rfl) ?_
  have h4 : wr σ (i, f, w) 2 4 0 = f := wr_4
  have hsp : wr σ (skN (tx σ) N i, f, w) 2 3 0 = nI (skN (tx σ) N i) := wr_3
  unfold aSemi
  dsimp only
  by_cases hf : f = 0
  · rw [if_pos hf]
    refine e_aload_n dX1_expectSemicolon_0 rfl ?_
    refine e_V0 oX1_isSound lX1_37 ⟨Nat.le_of_ble_eq_true rfl, Nat.le_of_ble_eq_true rfl⟩ dX1_expectSemicolon_1 (by first | assumption | exact ⟨by decide, rfl⟩) (Nat.le_of_ble_eq_true rfl) (c_X1_isSound) ?_
    refine e_if_neB (tgt := 8) dX1_expectSemicolon_4 (by decide) (fun h4 => ?_) (fun h4 => ?_)
    rotate_left
    · exfalso
      grind
    refine e_aload_n dX1_expectSemicolon_8 rfl ?_
    refine e_V0 oX1_nextSign lX1_41 ⟨Nat.le_of_ble_eq_true rfl, Nat.le_of_ble_eq_true rfl⟩ dX1_expectSemicolon_9 (by first | assumption | exact ⟨by decide, rfl⟩) (Nat.le_of_ble_eq_true rfl) (c_X1_nextSign hN hN2 hi) ?_
    refine e_bipush (v := 59) dX1_expectSemicolon_12 (by decide) ?_
    refine e_icmp_ne (tgt := 30) dX1_expectSemicolon_14 (by decide) (fun h14 => ?_) (fun h14 => ?_)
    ·
      refine e_aload_n dX1_expectSemicolon_30 rfl ?_
      refine e_iconst (v := 1) dX1_expectSemicolon_31 (by decide) ?_
      refine e_aload_n dX1_expectSemicolon_32 rfl ?_
      refine e_getI kX1 (by first | assumption | exact ⟨by decide, rfl⟩) (by decide) fX1_23 rfl dX1_expectSemicolon_33 ?_
      rw [hsp]
      refine e_V2v oX1_blame lX1_58 ⟨Nat.le_of_ble_eq_true rfl, Nat.le_of_ble_eq_true rfl⟩ dX1_expectSemicolon_36 (by first | assumption | exact ⟨by decide, rfl⟩) (Nat.le_of_ble_eq_true rfl) (c_X1_blame) ?_
      exact e_vreq rfl dX1_expectSemicolon_39 (by first | (rw [if_pos (by assumption)]; done) | (rw [if_neg (by assumption), wr_bl]; done))
    ·
      refine e_aload_n dX1_expectSemicolon_17 rfl ?_
      refine e_dup dX1_expectSemicolon_18 ?_
      refine e_getI kX1 (by first | assumption | exact ⟨by decide, rfl⟩) (by decide) fX1_23 rfl dX1_expectSemicolon_19 ?_
      rw [hsp]
      refine e_iconst (v := 1) dX1_expectSemicolon_22 (by decide) ?_
      refine e_iadd dX1_expectSemicolon_23 ?_
      rw [← nI_succ]
      refine e_putI kX1 (by first | assumption | exact ⟨by decide, rfl⟩) (by decide) fX1_23 rfl rfl rfl dX1_expectSemicolon_24 ?_
      rw [wr_sp]
      refine e_goto (tgt := 39) dX1_expectSemicolon_27 (by decide) ?_
      exact e_vreq rfl dX1_expectSemicolon_39 (by first | (rw [if_pos (by assumption)]; done) | (rw [if_neg (by assumption), wr_bl]; done))
  · rw [if_neg hf]
    refine e_aload_n dX1_expectSemicolon_0 rfl ?_
    refine e_V0 oX1_isSound lX1_37 ⟨Nat.le_of_ble_eq_true rfl, Nat.le_of_ble_eq_true rfl⟩ dX1_expectSemicolon_1 (by first | assumption | exact ⟨by decide, rfl⟩) (Nat.le_of_ble_eq_true rfl) (c_X1_isSound) ?_
    refine e_if_neB (tgt := 8) dX1_expectSemicolon_4 (by decide) (fun h4 => ?_) (fun h4 => ?_)
    · exfalso
      grind
    exact e_vreq rfl dX1_expectSemicolon_7 rfl
