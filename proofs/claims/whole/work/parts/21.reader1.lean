-- the Reader: signs, words, numbers
theorem up_up {σ : rS} {o k : Nat} {i v w : Int32} : up (up σ o k i v) o k i w = up σ o k i w := by
  funext o' k' i'
  simp only [up]
  grind
theorem up_id {σ : rS} {o k : Nat} {i v : Int32} (h : σ o k i = v) : up σ o k i v = σ := by
  funext o' k' i'
  simp only [up]
  grind
theorem up_comm {σ : rS} {o k o2 k2 : Nat} {i i2 v w : Int32} (h : ¬ (o = o2 ∧ k = k2)) : up (up σ o k i v) o2 k2 i2 w = up (up σ o2 k2 i2 w) o k i v := by
  funext o' k' i'
  simp only [up]
  grind
/-- the end of a run of signs -/
def spF (P : Int32 → Bool) (T : Nat → Int32) : Nat → Nat → Nat
  | 0, i => i
  | c + 1, i => if P (T i) = true then spF P T c (i + 1) else i
theorem spF_le {P : Int32 → Bool} {T : Nat → Int32} : ∀ c i, i ≤ spF P T c i ∧ spF P T c i ≤ i + c := by
  intro c
  induction c with
  | zero => intro i; exact ⟨Nat.le_refl _, Nat.le_refl _⟩
  | succ c ih =>
    intro i
    rw [spF]
    split
    · have := ih (i + 1); omega
    · omega
def blB (x : Int32) : Bool := decide (x = 10 ∨ x = 32)
def smB (x : Int32) : Bool := decide (97 ≤ x ∧ x ≤ 122)
def dgB (x : Int32) : Bool := decide (48 ≤ x ∧ x ≤ 57)
def tx (σ : rS) : Nat → Int32 := fun i => σ 1 0 (nI i) &&& 255
abbrev skN (T : Nat → Int32) (N i : Nat) : Nat := spF blB T (N - i) i
abbrev smN (T : Nat → Int32) (N i : Nat) : Nat := spF smB T (N - i) i
abbrev dgN (T : Nat → Int32) (N i : Nat) : Nat := spF dgB T (N - i) i
/-- the reader's own three numbers: where, what fault, where -/
def wr (σ : rS) (a : Nat × Int32 × Int32) : rS := up (up (up σ 2 3 0 (nI a.1)) 2 4 0 a.2.1) 2 5 0 a.2.2
theorem wr_3 {σ : rS} {a : Nat × Int32 × Int32} : wr σ a 2 3 0 = nI a.1 := by simp [wr, up]
theorem wr_4 {σ : rS} {a : Nat × Int32 × Int32} : wr σ a 2 4 0 = a.2.1 := by simp [wr, up]
theorem wr_5 {σ : rS} {a : Nat × Int32 × Int32} : wr σ a 2 5 0 = a.2.2 := by simp [wr, up]
theorem wr_fr {σ : rS} {a : Nat × Int32 × Int32} {o' k' : Nat} {i' : Int32} (h : ¬ (o' = 2 ∧ (k' = 3 ∨ k' = 4 ∨ k' = 5))) : wr σ a o' k' i' = σ o' k' i' := by
  simp only [wr, up]
  grind
theorem wr_tx {σ : rS} {a : Nat × Int32 × Int32} : tx (wr σ a) = tx σ := by
  funext i
  unfold tx
  rw [wr_fr (by decide)]
theorem wr_sp {σ : rS} {i j : Nat} {f p : Int32} : up (wr σ (i, f, p)) 2 3 0 (nI j) = wr σ (j, f, p) := by
  funext o' k' i'
  simp only [wr, up]
  grind
theorem wr_bl {σ : rS} {i : Nat} {f p f2 p2 : Int32} : up (up (wr σ (i, f, p)) 2 4 0 f2) 2 5 0 p2 = wr σ (i, f2, p2) := by
  funext o' k' i'
  simp only [wr, up]
  grind
theorem wr_up {σ : rS} {a : Nat × Int32 × Int32} {o k : Nat} {i v : Int32} (h : ¬ (o = 2 ∧ (k = 3 ∨ k = 4 ∨ k = 5))) : up (wr σ a) o k i v = wr (up σ o k i v) a := by
  funext o' k' i'
  simp only [wr, up]
  grind
theorem gAt_tx {σ : rS} {i : Nat} (h : i < 600) : gAt σ 1 (nI i) = tx σ i := if_pos ⟨nI_pos' (by omega), nI_lt (b := 600) h (by decide)⟩
theorem c_X1_isBlank {x : Int32} {σ : rS}  : Ct mX1_isBlank [.inl x] σ (some (.inl (bI (blB x = true)))) (σ) := by
  refine C_of_E rfl rfl (Nat.le_of_ble_eq_true rfl) ?_
  refine e_iload_n dX1_isBlank_0 rfl ?_
  refine e_bipush (v := 10) dX1_isBlank_1 (by decide) ?_
  refine e_icmp_eq (tgt := 12) dX1_isBlank_3 (by decide) (fun h3 => ?_) (fun h3 => ?_)
  ·
    refine e_iconst (v := 1) dX1_isBlank_12 (by decide) ?_
    refine e_goto (tgt := 17) dX1_isBlank_13 (by decide) ?_
    exact e_ret1 rfl dX1_isBlank_17 (by unfold blB; grind) rfl
  ·
    refine e_iload_n dX1_isBlank_6 rfl ?_
    refine e_bipush (v := 32) dX1_isBlank_7 (by decide) ?_
    refine e_icmp_ne (tgt := 16) dX1_isBlank_9 (by decide) (fun h9 => ?_) (fun h9 => ?_)
    ·
      refine e_iconst (v := 0) dX1_isBlank_16 (by decide) ?_
      exact e_ret0 rfl dX1_isBlank_17 (by unfold blB; grind) rfl
    ·
      refine e_iconst (v := 1) dX1_isBlank_12 (by decide) ?_
      refine e_goto (tgt := 17) dX1_isBlank_13 (by decide) ?_
      exact e_ret1 rfl dX1_isBlank_17 (by unfold blB; grind) rfl
theorem c_X1_isDigit {x : Int32} {σ : rS}  : Ct mX1_isDigit [.inl x] σ (some (.inl (bI (dgB x = true)))) (σ) := by
  refine C_of_E rfl rfl (Nat.le_of_ble_eq_true rfl) ?_
  refine e_iload_n dX1_isDigit_0 rfl ?_
  refine e_bipush (v := 48) dX1_isDigit_1 (by decide) ?_
  refine e_icmp_lt (tgt := 16) dX1_isDigit_3 (by decide) (fun h3 => ?_) (fun h3 => ?_)
  ·
    refine e_iconst (v := 0) dX1_isDigit_16 (by decide) ?_
    exact e_ret0 rfl dX1_isDigit_17 (by unfold dgB; grind) rfl
  ·
    refine e_iload_n dX1_isDigit_6 rfl ?_
    refine e_bipush (v := 57) dX1_isDigit_7 (by decide) ?_
    refine e_icmp_gt (tgt := 16) dX1_isDigit_9 (by decide) (fun h9 => ?_) (fun h9 => ?_)
    ·
      refine e_iconst (v := 0) dX1_isDigit_16 (by decide) ?_
      exact e_ret0 rfl dX1_isDigit_17 (by unfold dgB; grind) rfl
    ·
      refine e_iconst (v := 1) dX1_isDigit_12 (by decide) ?_
      refine e_goto (tgt := 17) dX1_isDigit_13 (by decide) ?_
      exact e_ret1 rfl dX1_isDigit_17 (by unfold dgB; grind) rfl
theorem c_X1_isSmallLetter {x : Int32} {σ : rS}  : Ct mX1_isSmallLetter [.inl x] σ (some (.inl (bI (smB x = true)))) (σ) := by
  refine C_of_E rfl rfl (Nat.le_of_ble_eq_true rfl) ?_
  refine e_iload_n dX1_isSmallLetter_0 rfl ?_
  refine e_bipush (v := 97) dX1_isSmallLetter_1 (by decide) ?_
  refine e_icmp_lt (tgt := 16) dX1_isSmallLetter_3 (by decide) (fun h3 => ?_) (fun h3 => ?_)
  ·
    refine e_iconst (v := 0) dX1_isSmallLetter_16 (by decide) ?_
    exact e_ret0 rfl dX1_isSmallLetter_17 (by unfold smB; grind) rfl
  ·
    refine e_iload_n dX1_isSmallLetter_6 rfl ?_
    refine e_bipush (v := 122) dX1_isSmallLetter_7 (by decide) ?_
    refine e_icmp_gt (tgt := 16) dX1_isSmallLetter_9 (by decide) (fun h9 => ?_) (fun h9 => ?_)
    ·
      refine e_iconst (v := 0) dX1_isSmallLetter_16 (by decide) ?_
      exact e_ret0 rfl dX1_isSmallLetter_17 (by unfold smB; grind) rfl
    ·
      refine e_iconst (v := 1) dX1_isSmallLetter_12 (by decide) ?_
      refine e_goto (tgt := 17) dX1_isSmallLetter_13 (by decide) ?_
      exact e_ret1 rfl dX1_isSmallLetter_17 (by unfold smB; grind) rfl
theorem c_X1_isSound  {σ : rS}  : Ct mX1_isSound [.inr (2, 0)] σ (some (.inl (bI (σ 2 4 0 = 0)))) (σ) := by
  refine C_of_E rfl rfl (Nat.le_of_ble_eq_true rfl) ?_
  refine e_aload_n dX1_isSound_0 rfl ?_
  refine e_getI kX1 (by first | assumption | exact ⟨by decide, rfl⟩) (by decide) fX1_26 rfl dX1_isSound_1 ?_
  refine e_if_ne (tgt := 11) dX1_isSound_4 (by decide) (fun h4 => ?_) (fun h4 => ?_)
  ·
    refine e_iconst (v := 0) dX1_isSound_11 (by decide) ?_
    exact e_ret0 rfl dX1_isSound_12 (by grind) rfl
  ·
    refine e_iconst (v := 1) dX1_isSound_7 (by decide) ?_
    refine e_goto (tgt := 12) dX1_isSound_8 (by decide) ?_
    exact e_ret1 rfl dX1_isSound_12 (by grind) rfl
theorem c_X1_blame {k w : Int32} {σ : rS}  : Ct mX1_blame [.inr (2, 0), .inl k, .inl w] σ none (up (up σ 2 4 0 k) 2 5 0 w) := by
  refine C_of_E rfl rfl (Nat.le_of_ble_eq_true rfl) ?_
  refine e_aload_n dX1_blame_0 rfl ?_
  refine e_iload_n dX1_blame_1 rfl ?_
  refine e_putI kX1 (by first | assumption | exact ⟨by decide, rfl⟩) (by decide) fX1_26 rfl rfl rfl dX1_blame_2 ?_
  refine e_aload_n dX1_blame_5 rfl ?_
  refine e_iload_n dX1_blame_6 rfl ?_
  refine e_putI kX1 (by first | assumption | exact ⟨by decide, rfl⟩) (by decide) fX1_29 rfl rfl rfl dX1_blame_7 ?_
  exact e_vreq rfl dX1_blame_10 rfl
/-- the sign at p -/
abbrev sgn (T : Nat → Int32) (N p : Nat) : Int32 := if p < N then T p else -1
theorem c_X1_nextSign {σ : rS} {N i : Nat} {f w : Int32} (hN : σ 2 2 0 = nI N) (hN2 : N ≤ 600) (hi : i ≤ N) : Ct mX1_nextSign [.inr (2, 0)] (wr σ (i, f, w)) (some (.inl (sgn (tx σ) N (skN (tx σ) N i)))) (wr σ (skN (tx σ) N i, f, w)) := by
  refine C_of_E rfl rfl (Nat.le_of_ble_eq_true rfl) ?_
  have loop : ∀ c i, i + c = N → E mX1_nextSign 0 [.inr (2, 0)] [] (wr σ (i, f, w)) (some (.inl (sgn (tx σ) N (spF blB (tx σ) c i)))) (wr σ (spF blB (tx σ) c i, f, w)) := by
    intro c
    induction c with
    | zero =>
      intro i hi
      have hiN : i = N := by omega
      subst hiN
      have h2 : wr σ (i, f, w) 2 2 0 = nI i := (wr_fr (by decide)).trans hN
      have h3 : wr σ (i, f, w) 2 3 0 = nI i := wr_3
      refine e_aload_n dX1_nextSign_0 rfl ?_
      refine e_getI kX1 (by first | assumption | exact ⟨by decide, rfl⟩) (by decide) fX1_23 rfl dX1_nextSign_1 ?_
      refine e_aload_n dX1_nextSign_4 rfl ?_
      refine e_getI kX1 (by first | assumption | exact ⟨by decide, rfl⟩) (by decide) fX1_19 rfl dX1_nextSign_5 ?_
      refine e_icmp_ge (tgt := 41) dX1_nextSign_8 (by decide) (fun h8 => ?_) (fun h8 => ?_)
      rotate_left
      · exfalso
        grind
      refine e_aload_n dX1_nextSign_41 rfl ?_
      refine e_getI kX1 (by first | assumption | exact ⟨by decide, rfl⟩) (by decide) fX1_23 rfl dX1_nextSign_42 ?_
      refine e_aload_n dX1_nextSign_45 rfl ?_
      refine e_getI kX1 (by first | assumption | exact ⟨by decide, rfl⟩) (by decide) fX1_19 rfl dX1_nextSign_46 ?_
      refine e_icmp_ge (tgt := 66) dX1_nextSign_49 (by decide) (fun h49 => ?_) (fun h49 => ?_)
      rotate_left
      · exfalso
        grind
      refine e_iconst (v := -1) dX1_nextSign_66 (by decide) ?_
      exact e_ireq rfl rfl dX1_nextSign_67 (by simp [spF]) rfl
    | succ c ih =>
      intro i hi
      have h2 : wr σ (i, f, w) 2 2 0 = nI N := (wr_fr (by decide)).trans hN
      have h3 : wr σ (i, f, w) 2 3 0 = nI i := wr_3
      have h4 : nI i < nI N := nI_lt (by omega) (by omega)
      have hg : gAt (wr σ (i, f, w)) 1 (nI i) = tx σ i := (gAt_tx (by omega)).trans (congrFun wr_tx i)
      rw [spF]
      refine e_aload_n dX1_nextSign_0 rfl ?_
      refine e_getI kX1 (by first | assumption | exact ⟨by decide, rfl⟩) (by decide) fX1_23 rfl dX1_nextSign_1 ?_
      refine e_aload_n dX1_nextSign_4 rfl ?_
      refine e_getI kX1 (by first | assumption | exact ⟨by decide, rfl⟩) (by decide) fX1_19 rfl dX1_nextSign_5 ?_
      refine e_icmp_ge (tgt := 41) dX1_nextSign_8 (by decide) (fun h8 => ?_) (fun h8 => ?_)
      · exfalso
        grind
      refine e_aload_n dX1_nextSign_11 rfl ?_
      refine e_getO 1 kX1 (by first | assumption | exact ⟨by decide, rfl⟩) (by decide) fX1_9 rfl rfl dX1_nextSign_12 ?_
      refine e_aload_n dX1_nextSign_15 rfl ?_
      refine e_getI kX1 (by first | assumption | exact ⟨by decide, rfl⟩) (by decide) fX1_23 rfl dX1_nextSign_16 ?_
      refine e_V1 oX4_at lX1_109 ⟨Nat.le_of_ble_eq_true rfl, Nat.le_of_ble_eq_true rfl⟩ dX1_nextSign_19 (by first | assumption | exact ⟨by decide, rfl⟩) (Nat.le_of_ble_eq_true rfl) (c_X4_at (by first | assumption | exact ⟨by decide, rfl⟩)) ?_
      rw [h3, hg]
      refine e_S1 oX1_isBlank sX1_isBlank lX1_120 ⟨Nat.le_of_ble_eq_true rfl, Nat.le_of_ble_eq_true rfl⟩ dX1_nextSign_22 (Nat.le_of_ble_eq_true rfl) (c_X1_isBlank) ?_
      refine e_if_eqB (tgt := 41) dX1_nextSign_25 (by decide) (fun h25 => ?_) (fun h25 => ?_)
      ·
        refine e_aload_n dX1_nextSign_41 rfl ?_
        refine e_getI kX1 (by first | assumption | exact ⟨by decide, rfl⟩) (by decide) fX1_23 rfl dX1_nextSign_42 ?_
        refine e_aload_n dX1_nextSign_45 rfl ?_
        refine e_getI kX1 (by first | assumption | exact ⟨by decide, rfl⟩) (by decide) fX1_19 rfl dX1_nextSign_46 ?_
        refine e_icmp_ge (tgt := 66) dX1_nextSign_49 (by decide) (fun h49 => ?_) (fun h49 => ?_)
        · exfalso
          grind
        refine e_aload_n dX1_nextSign_52 rfl ?_
        refine e_getO 1 kX1 (by first | assumption | exact ⟨by decide, rfl⟩) (by decide) fX1_9 rfl rfl dX1_nextSign_53 ?_
        refine e_aload_n dX1_nextSign_56 rfl ?_
        refine e_getI kX1 (by first | assumption | exact ⟨by decide, rfl⟩) (by decide) fX1_23 rfl dX1_nextSign_57 ?_
        refine e_V1 oX4_at lX1_109 ⟨Nat.le_of_ble_eq_true rfl, Nat.le_of_ble_eq_true rfl⟩ dX1_nextSign_60 (by first | assumption | exact ⟨by decide, rfl⟩) (Nat.le_of_ble_eq_true rfl) (c_X4_at (by first | assumption | exact ⟨by decide, rfl⟩)) ?_
        rw [h3, hg]
        refine e_goto (tgt := 67) dX1_nextSign_63 (by decide) ?_
        exact e_ireq rfl rfl dX1_nextSign_67 (by rw [if_neg (by assumption)]; exact (if_pos (by omega)).symm) (by rw [if_neg (by assumption)])
      ·
        refine e_aload_n dX1_nextSign_28 rfl ?_
        refine e_dup dX1_nextSign_29 ?_
        refine e_getI kX1 (by first | assumption | exact ⟨by decide, rfl⟩) (by decide) fX1_23 rfl dX1_nextSign_30 ?_
        refine e_iconst (v := 1) dX1_nextSign_33 (by decide) ?_
        refine e_iadd dX1_nextSign_34 ?_
        rw [h3, ← nI_succ]
        refine e_putI kX1 (by first | assumption | exact ⟨by decide, rfl⟩) (by decide) fX1_23 rfl rfl rfl dX1_nextSign_35 ?_
        rw [wr_sp]
        refine e_goto (tgt := 0) dX1_nextSign_38 (by decide) ?_
        rw [if_pos (by assumption)]
        exact e_to (ih (i + 1) (by omega)) (by first | rfl | (simp [lset]; done) | (simp [lset]; grind)) rfl
  exact loop (N - i) i (by omega)
-- passWord
def cmpF (T : Nat → Int32) (i s : Nat) : Nat → Nat → Bool
  | 0, _ => true
  | c + 1, k => decide (T (i + k) = (sBy.getD s []).getD k 0) && cmpF T i s c (k + 1)
def wB (T : Nat → Int32) (N i s : Nat) : Bool := decide (smN T N i - i = sLn.getD s 0) && cmpF T i s (sLn.getD s 0) 0
theorem sLn_lt : ∀ s, s < 9 → sLn.getD s 0 ≤ 12 := by decide +kernel
theorem c_X1_passWord {σ : rS} {N i s : Nat} {f w : Int32} (hs : s < 9) (hN : σ 2 2 0 = nI N) (hN2 : N ≤ 600) (hi : i ≤ N) : Ct mX1_passWord [.inr (2, 0), .inr (100 + s, 0)] (wr σ (i, f, w)) (some (.inl (bI (wB (tx σ) N i s = true)))) (if wB (tx σ) N i s = true then wr σ (smN (tx σ) N i, f, w) else wr σ (i, f, w)) := by
  refine C_of_E rfl rfl (Nat.le_of_ble_eq_true rfl) ?_
  have h2 : wr σ (i, f, w) 2 2 0 = nI N := (wr_fr (by decide)).trans hN
  have h3 : wr σ (i, f, w) 2 3 0 = nI i := wr_3
  have hg : ∀ j, j < 600 → gAt (wr σ (i, f, w)) 1 (nI j) = tx σ j := fun j hj => (gAt_tx hj).trans (congrFun wr_tx j)
  have hle : i ≤ smN (tx σ) N i ∧ smN (tx σ) N i ≤ i + (N - i) := spF_le (N - i) i
  have hl12 := sLn_lt s hs
  have loop2 : smN (tx σ) N i - i = sLn.getD s 0 → ∀ c k, k + c = sLn.getD s 0 → wB (tx σ) N i s = cmpF (tx σ) i s c k → E mX1_passWord 50 [.inr (2, 0), .inr (100 + s, 0), .inl (nI (smN (tx σ) N i)), .inl (nI k)] [] (wr σ (i, f, w)) (some (.inl (bI (wB (tx σ) N i s = true)))) (if wB (tx σ) N i s = true then wr σ (smN (tx σ) N i, f, w) else wr σ (i, f, w)) := by
    intro hlen c
    induction c with
    | zero =>
      intro k hk hw
      have hkl : nI (sLn.getD s 0) ≤ nI k := nI_le (by omega) (by omega)
      have hw2 : wB (tx σ) N i s = true := hw
      rw [if_pos hw2]
      refine e_iload_n dX1_passWord_50 rfl ?_
      refine e_aload_n dX1_passWord_51 rfl ?_
      refine e_J0 oJ0_length_8abf5 oiJ0_length_8abf5 lX1_126 ⟨Nat.le_of_ble_eq_true rfl, Nat.le_of_ble_eq_true rfl⟩ dX1_passWord_52 (by assumption) (Nat.le_of_ble_eq_true rfl) (c_J0_length_8abf5 hs) rfl ?_
      refine e_icmp_ge (tgt := 87) dX1_passWord_55 (by decide) (fun h55 => ?_) (fun h55 => ?_)
      rotate_left
      · exfalso
        grind
      refine e_aload_n dX1_passWord_87 rfl ?_
      refine e_iload_n dX1_passWord_88 rfl ?_
      refine e_putI kX1 (by first | assumption | exact ⟨by decide, rfl⟩) (by decide) fX1_23 rfl rfl rfl dX1_passWord_89 ?_
      rw [wr_sp]
      refine e_iconst (v := 1) dX1_passWord_92 (by decide) ?_
      exact e_ret1 rfl dX1_passWord_93 hw2 rfl
    | succ c ih =>
      intro k hk hw
      have hkl : nI k < nI (sLn.getD s 0) := nI_lt (by omega) (by omega)
      have hk0 : 0 ≤ nI k := nI_pos' (by omega)
      have e1 : cmpF (tx σ) i s (c + 1) k = (decide (tx σ (i + k) = (sBy.getD s []).getD k 0) && cmpF (tx σ) i s c (k + 1)) := rfl
      have hik := hg (i + k) (by omega)
      have hcl : (nI k).toNatClampNeg = k := nI_clamp (by omega)
      refine e_iload_n dX1_passWord_50 rfl ?_
      refine e_aload_n dX1_passWord_51 rfl ?_
      refine e_J0 oJ0_length_8abf5 oiJ0_length_8abf5 lX1_126 ⟨Nat.le_of_ble_eq_true rfl, Nat.le_of_ble_eq_true rfl⟩ dX1_passWord_52 (by assumption) (Nat.le_of_ble_eq_true rfl) (c_J0_length_8abf5 hs) rfl ?_
      refine e_icmp_ge (tgt := 87) dX1_passWord_55 (by decide) (fun h55 => ?_) (fun h55 => ?_)
      · exfalso
        grind
      refine e_aload_n dX1_passWord_58 rfl ?_
      refine e_getO 1 kX1 (by first | assumption | exact ⟨by decide, rfl⟩) (by decide) fX1_9 rfl rfl dX1_passWord_59 ?_
      refine e_aload_n dX1_passWord_62 rfl ?_
      refine e_getI kX1 (by first | assumption | exact ⟨by decide, rfl⟩) (by decide) fX1_23 rfl dX1_passWord_63 ?_
      refine e_iload_n dX1_passWord_66 rfl ?_
      refine e_iadd dX1_passWord_67 ?_
      rw [h3, nI_add]
      refine e_V1 oX4_at lX1_109 ⟨Nat.le_of_ble_eq_true rfl, Nat.le_of_ble_eq_true rfl⟩ dX1_passWord_68 (by first | assumption | exact ⟨by decide, rfl⟩) (Nat.le_of_ble_eq_true rfl) (c_X4_at (by first | assumption | exact ⟨by decide, rfl⟩)) ?_
      rw [hik]
      refine e_aload_n dX1_passWord_71 rfl ?_
      refine e_iload_n dX1_passWord_72 rfl ?_
      refine e_J1 oJ0_charAt_5068e oiJ0_charAt_5068e lX1_131 ⟨Nat.le_of_ble_eq_true rfl, Nat.le_of_ble_eq_true rfl⟩ dX1_passWord_73 (by assumption) (Nat.le_of_ble_eq_true rfl) (c_J0_charAt_5068e hs ⟨hk0, hkl⟩ (vp_in_nI (by omega) (by omega))) rfl ?_
      rw [hcl]
      refine e_icmp_eq (tgt := 81) dX1_passWord_76 (by decide) (fun h76 => ?_) (fun h76 => ?_)
      ·
        refine e_inc (1) (by decide) dX1_passWord_81 rfl (by decide) (Nat.le_of_ble_eq_true rfl) ?_
        refine e_goto (tgt := 50) dX1_passWord_84 (by decide) ?_
        exact e_to (ih (k + 1) (by omega) (by rw [hw, e1, decide_eq_true (by assumption), Bool.true_and])) (by simp [lset, nI_succ]) rfl
      ·
        refine e_iconst (v := 0) dX1_passWord_79 (by decide) ?_
        exact e_ret0 rfl dX1_passWord_80 (by rw [hw, e1, decide_eq_false (by assumption), Bool.false_and]; decide) (by rw [if_neg (by rw [hw, e1, decide_eq_false (by assumption), Bool.false_and]; decide)])
  have fin : E mX1_passWord 33 [.inr (2, 0), .inr (100 + s, 0), .inl (nI (smN (tx σ) N i))] [] (wr σ (i, f, w)) (some (.inl (bI (wB (tx σ) N i s = true)))) (if wB (tx σ) N i s = true then wr σ (smN (tx σ) N i, f, w) else wr σ (i, f, w)) := by
    have hsub : nI (smN (tx σ) N i) - nI i = nI (smN (tx σ) N i - i) := pk_sub hle.1
    have heq : nI (smN (tx σ) N i - i) = nI (sLn.getD s 0) ↔ smN (tx σ) N i - i = sLn.getD s 0 := nI_eq (by omega) (by omega)
    have hwd : wB (tx σ) N i s = (decide (smN (tx σ) N i - i = sLn.getD s 0) && cmpF (tx σ) i s (sLn.getD s 0) 0) := rfl
    refine e_iload_n dX1_passWord_33 rfl ?_
    refine e_aload_n dX1_passWord_34 rfl ?_
    refine e_getI kX1 (by first | assumption | exact ⟨by decide, rfl⟩) (by decide) fX1_23 rfl dX1_passWord_35 ?_
    rw [h3]
    refine e_isub dX1_passWord_38 ?_
    rw [hsub]
    refine e_aload_n dX1_passWord_39 rfl ?_
    refine e_J0 oJ0_length_8abf5 oiJ0_length_8abf5 lX1_126 ⟨Nat.le_of_ble_eq_true rfl, Nat.le_of_ble_eq_true rfl⟩ dX1_passWord_40 (by assumption) (Nat.le_of_ble_eq_true rfl) (c_J0_length_8abf5 hs) rfl ?_
    refine e_icmp_eq (tgt := 48) dX1_passWord_43 (by decide) (fun h43 => ?_) (fun h43 => ?_)
    ·
      refine e_iconst (v := 0) dX1_passWord_48 (by decide) ?_
      refine e_istore_n dX1_passWord_49 (by decide) (Nat.le_of_ble_eq_true rfl) ?_
      exact e_to (loop2 (heq.mp (by assumption)) (sLn.getD s 0) 0 (by omega) (by rw [hwd, decide_eq_true (heq.mp (by assumption)), Bool.true_and])) (by simp [lset]; rfl) rfl
    ·
      refine e_iconst (v := 0) dX1_passWord_46 (by decide) ?_
      exact e_ret0 rfl dX1_passWord_47 (by rw [hwd, decide_eq_false (fun z => by grind), Bool.false_and]; decide) (by rw [if_neg (by rw [hwd, decide_eq_false (fun z => by grind), Bool.false_and]; decide)])
  have loop1 : ∀ c j, i ≤ j → j + c = N → smN (tx σ) N i = spF smB (tx σ) c j → E mX1_passWord 5 [.inr (2, 0), .inr (100 + s, 0), .inl (nI j)] [] (wr σ (i, f, w)) (some (.inl (bI (wB (tx σ) N i s = true)))) (if wB (tx σ) N i s = true then wr σ (smN (tx σ) N i, f, w) else wr σ (i, f, w)) := by
    intro c
    induction c with
    | zero =>
      intro j hij hj he
      have hjN : j = N := by omega
      subst hjN
      have he2 : smN (tx σ) j i = j := he
      refine e_iload_n dX1_passWord_5 rfl ?_
      refine e_aload_n dX1_passWord_6 rfl ?_
      refine e_getI kX1 (by first | assumption | exact ⟨by decide, rfl⟩) (by decide) fX1_19 rfl dX1_passWord_7 ?_
      refine e_icmp_ge (tgt := 33) dX1_passWord_10 (by decide) (fun h10 => ?_) (fun h10 => ?_)
      rotate_left
      · exfalso
        grind
      exact e_to fin (by rw [he2]; rfl) rfl
    | succ c ih =>
      intro j hij hj he
      have h4 : nI j < nI N := nI_lt (by omega) (by omega)
      have hgj := hg j (by omega)
      rw [spF] at he
      refine e_iload_n dX1_passWord_5 rfl ?_
      refine e_aload_n dX1_passWord_6 rfl ?_
      refine e_getI kX1 (by first | assumption | exact ⟨by decide, rfl⟩) (by decide) fX1_19 rfl dX1_passWord_7 ?_
      refine e_icmp_ge (tgt := 33) dX1_passWord_10 (by decide) (fun h10 => ?_) (fun h10 => ?_)
      · exfalso
        grind
      refine e_aload_n dX1_passWord_13 rfl ?_
      refine e_getO 1 kX1 (by first | assumption | exact ⟨by decide, rfl⟩) (by decide) fX1_9 rfl rfl dX1_passWord_14 ?_
      refine e_iload_n dX1_passWord_17 rfl ?_
      refine e_V1 oX4_at lX1_109 ⟨Nat.le_of_ble_eq_true rfl, Nat.le_of_ble_eq_true rfl⟩ dX1_passWord_18 (by first | assumption | exact ⟨by decide, rfl⟩) (Nat.le_of_ble_eq_true rfl) (c_X4_at (by first | assumption | exact ⟨by decide, rfl⟩)) ?_
      rw [hgj]
      refine e_S1 oX1_isSmallLetter sX1_isSmallLetter lX1_123 ⟨Nat.le_of_ble_eq_true rfl, Nat.le_of_ble_eq_true rfl⟩ dX1_passWord_21 (Nat.le_of_ble_eq_true rfl) (c_X1_isSmallLetter) ?_
      refine e_if_eqB (tgt := 33) dX1_passWord_24 (by decide) (fun h24 => ?_) (fun h24 => ?_)
      ·
        rw [if_neg (by assumption)] at he
        exact e_to fin (by rw [he]; rfl) rfl
      ·
        refine e_inc (1) (by decide) dX1_passWord_27 rfl (by decide) (Nat.le_of_ble_eq_true rfl) ?_
        refine e_goto (tgt := 5) dX1_passWord_30 (by decide) ?_
        rw [if_pos (by assumption)] at he
        exact e_to (ih (j + 1) (by omega) (by omega) he) (by simp [lset, nI_succ]) rfl
  refine e_aload_n dX1_passWord_0 rfl ?_
  refine e_getI kX1 (by first | assumption | exact ⟨by decide, rfl⟩) (by decide) fX1_23 rfl dX1_passWord_1 ?_
  rw [h3]
  refine e_istore_n dX1_passWord_4 (by decide) (Nat.le_of_ble_eq_true rfl) ?_
  exact e_to (loop1 (N - i) i (Nat.le_refl _) (by omega) rfl) (by first | rfl | (simp [lset]; done) | (simp [lset]; grind)) rfl
theorem c_X1_wordOf {σ : rS} : ∀ k, k < 4 → Ct mX1_wordOf [.inl (nI k)] σ (some (.inr (100 + k, 0))) σ := by
  intro k hk
  refine C_of_E rfl rfl (Nat.le_of_ble_eq_true rfl) ?_
  refine e_iload_n dX1_wordOf_0 rfl ?_
  match k, hk with
  | 0, _ =>
    refine e_tab3 28 31 34 37 dX1_wordOf_1 (by decide) (by decide) (by decide) (by decide) (fun _ => ?_) (fun h => absurd h (by decide)) (fun h => absurd h (by decide)) (fun h => absurd rfl h.1)
    refine e_ldcS 0 (by decide) rfl rfl dX1_wordOf_28 ?_
    exact e_aret rfl dX1_wordOf_30
  | 1, _ =>
    refine e_tab3 28 31 34 37 dX1_wordOf_1 (by decide) (by decide) (by decide) (by decide) (fun h => absurd h (by decide)) (fun _ => ?_) (fun h => absurd h (by decide)) (fun h => absurd rfl h.2.1)
    refine e_ldcS 1 (by decide) rfl rfl dX1_wordOf_31 ?_
    exact e_aret rfl dX1_wordOf_33
  | 2, _ =>
    refine e_tab3 28 31 34 37 dX1_wordOf_1 (by decide) (by decide) (by decide) (by decide) (fun h => absurd h (by decide)) (fun h => absurd h (by decide)) (fun _ => ?_) (fun h => absurd rfl h.2.2)
    refine e_ldcS 2 (by decide) rfl rfl dX1_wordOf_34 ?_
    exact e_aret rfl dX1_wordOf_36
  | 3, _ =>
    refine e_tab3 28 31 34 37 dX1_wordOf_1 (by decide) (by decide) (by decide) (by decide) (fun h => absurd h (by decide)) (fun h => absurd h (by decide)) (fun h => absurd h (by decide)) (fun _ => ?_)
    refine e_ldcS 3 (by decide) rfl rfl dX1_wordOf_37 ?_
    exact e_aret rfl dX1_wordOf_39
theorem c_X1_mostOf {k : Int32} {σ : rS}  : Ct mX1_mostOf [.inl k] σ (some (.inl (if k = 0 then 9 else if k = 1 then 100000 else 60))) (σ) := by
  refine C_of_E rfl rfl (Nat.le_of_ble_eq_true rfl) ?_
  refine e_iload_n dX1_mostOf_0 rfl ?_
  refine e_look2 28 31 34 dX1_mostOf_1 (by decide) (by decide) (by decide) (fun h1 => ?_) (fun h1 => ?_) (fun h1 => ?_)
  ·
    refine e_bipush (v := 9) dX1_mostOf_28 (by decide) ?_
    exact e_ireq rfl rfl dX1_mostOf_30 (by grind) rfl
  ·
    refine e_ldc dX1_mostOf_31 kX1_143 ?_
    exact e_ireq rfl rfl dX1_mostOf_33 (by grind) rfl
  ·
    refine e_bipush (v := 60) dX1_mostOf_34 (by decide) ?_
    exact e_ireq rfl rfl dX1_mostOf_36 (by grind) rfl
/-- which of the words c from k on stands at i -/
def psF (T : Nat → Int32) (N i : Nat) : Nat → Nat → Int32
  | 0, _ => -1
  | c + 1, k => if wB T N i k = true then nI k else psF T N i c (k + 1)
theorem c_X1_passSettingWord {σ : rS} {N i : Nat} {f w : Int32} (hN : σ 2 2 0 = nI N) (hN2 : N ≤ 600) (hi : i ≤ N) : Ct mX1_passSettingWord [.inr (2, 0)] (wr σ (i, f, w)) (some (.inl (psF (tx σ) N i 4 0))) (if psF (tx σ) N i 4 0 = -1 then wr σ (i, f, w) else wr σ (smN (tx σ) N i, f, w)) := by
  refine C_of_E rfl rfl (Nat.le_of_ble_eq_true rfl) ?_
  have loop : ∀ c k, k + c = 4 → E mX1_passSettingWord 2 [.inr (2, 0), .inl (nI k)] [] (wr σ (i, f, w)) (some (.inl (psF (tx σ) N i c k))) (if psF (tx σ) N i c k = -1 then wr σ (i, f, w) else wr σ (smN (tx σ) N i, f, w)) := by
    intro c
    induction c with
    | zero =>
      intro k hk
      have hk4 : k = 4 := by omega
      subst hk4
      have e4 : nI 4 = 4 := rfl
      refine e_iload_n dX1_passSettingWord_2 rfl ?_
      refine e_aload_n dX1_passSettingWord_3 rfl ?_
      refine e_getA kX1 (by first | assumption | exact ⟨by decide, rfl⟩) (by decide) fX1_15 rfl dX1_passSettingWord_4 ?_
      refine e_alen (ci := 1) (n := 4) (by first | assumption | exact ⟨by decide, rfl⟩) rfl (by decide) dX1_passSettingWord_7 ?_
      refine e_icmp_ge (tgt := 30) dX1_passSettingWord_8 (by decide) (fun h8 => ?_) (fun h8 => ?_)
      rotate_left
      · exfalso
        grind
      refine e_iconst (v := -1) dX1_passSettingWord_30 (by decide) ?_
      exact e_ireq rfl rfl dX1_passSettingWord_31 (by first | rfl | grind) rfl
    | succ c ih =>
      intro k hk
      obtain ⟨f1, f2, f3, f4⟩ := nI_facts (j := k) 4 (show k < 4 by omega) (Nat.le_refl _) (by decide) rfl
      have e4 : nI 4 = 4 := rfl
      rw [psF]
      refine e_iload_n dX1_passSettingWord_2 rfl ?_
      refine e_aload_n dX1_passSettingWord_3 rfl ?_
      refine e_getA kX1 (by first | assumption | exact ⟨by decide, rfl⟩) (by decide) fX1_15 rfl dX1_passSettingWord_4 ?_
      refine e_alen (ci := 1) (n := 4) (by first | assumption | exact ⟨by decide, rfl⟩) rfl (by decide) dX1_passSettingWord_7 ?_
      refine e_icmp_ge (tgt := 30) dX1_passSettingWord_8 (by decide) (fun h8 => ?_) (fun h8 => ?_)
      · exfalso
        grind
      refine e_aload_n dX1_passSettingWord_11 rfl ?_
      refine e_iload_n dX1_passSettingWord_12 rfl ?_
      refine e_S1 oX1_wordOf sX1_wordOf lX1_94 ⟨Nat.le_of_ble_eq_true rfl, Nat.le_of_ble_eq_true rfl⟩ dX1_passSettingWord_13 (Nat.le_of_ble_eq_true rfl) (c_X1_wordOf k (by omega)) ?_
      refine e_V1 oX1_passWord lX1_98 ⟨Nat.le_of_ble_eq_true rfl, Nat.le_of_ble_eq_true rfl⟩ dX1_passSettingWord_16 (by first | assumption | exact ⟨by decide, rfl⟩) (Nat.le_of_ble_eq_true rfl) (c_X1_passWord (by omega) hN hN2 hi) ?_
      refine e_if_eqB (tgt := 24) dX1_passSettingWord_19 (by decide) (fun h19 => ?_) (fun h19 => ?_)
      ·
        rw [if_neg (by assumption), if_neg (by assumption)]
        refine e_inc (1) (by decide) dX1_passSettingWord_24 rfl (by decide) (Nat.le_of_ble_eq_true rfl) ?_
        refine e_goto (tgt := 2) dX1_passSettingWord_27 (by decide) ?_
        exact e_to (ih (k + 1) (by omega)) (by simp [lset, f4]) rfl
      ·
        rw [if_pos (by assumption), if_pos (by assumption), if_neg (by grind)]
        refine e_iload_n dX1_passSettingWord_22 rfl ?_
        exact e_ireq rfl rfl dX1_passSettingWord_23 (by first | rfl | grind) rfl
  exact e_iconst (v := 0) dX1_passSettingWord_0 (by decide) (e_istore_n dX1_passSettingWord_1 (by decide) (Nat.le_of_ble_eq_true rfl) (e_to (loop 4 0 rfl) rfl rfl))
