-- the two readers in step: tokens
def bT (T : Nat → Int32) : Prop := ∀ j, 0 ≤ T j ∧ T j ≤ 255
theorem wE_wB {T : Nat → Int32} {N i s : Nat} : wE T i (smN T N i) s = wB T N i s := rfl
theorem cmpF_spec {T : Nat → Int32} {i s : Nat} : ∀ c k, cmpF T i s c k = true → ∀ j, k ≤ j → j < k + c → T (i + j) = (sBy.getD s []).getD j 0 := by
  intro c
  induction c with
  | zero => intro k _ j h1 h2; omega
  | succ c ih =>
    intro k h j h1 h2
    rw [cmpF, Bool.and_eq_true, decide_eq_true_eq] at h
    by_cases hj : j = k
    · subst hj; exact h.1
    · exact ih (k + 1) h.2 j (by omega) (by omega)
theorem words_apart : ∀ s, s < 7 → ∀ s2, s2 < 7 → s ≠ s2 → sLn.getD s 0 ≠ sLn.getD s2 0 ∨ ∃ k, k < sLn.getD s 0 ∧ (sBy.getD s []).getD k 0 ≠ (sBy.getD s2 []).getD k 0 := by decide +kernel
theorem wB_one {T : Nat → Int32} {N i s s2 : Nat} (hs : s < 7) (hs2 : s2 < 7) (h : wB T N i s = true) (h2 : wB T N i s2 = true) : s = s2 := by
  by_cases he : s = s2
  · exact he
  · exfalso
    unfold wB at h h2
    rw [Bool.and_eq_true, decide_eq_true_eq] at h h2
    rcases words_apart s hs s2 hs2 he with hl | ⟨k, hk, hne⟩
    · exact hl (h.1.symm.trans h2.1)
    · have e1 := cmpF_spec _ _ h.2 k (Nat.zero_le _) (by omega)
      have e2 := cmpF_spec _ _ h2.2 k (Nat.zero_le _) (by omega)
      exact hne (e1.symm.trans e2)
theorem waF_at {T : Nat → Int32} {N i : Nat} : ∀ c s s2, s + c = 7 → s ≤ s2 → s2 < 7 → wB T N i s2 = true → waF T i (smN T N i) c s = nI (s2 + 1) := by
  intro c
  induction c with
  | zero => intro s s2 h1 h2 h3 _; omega
  | succ c ih =>
    intro s s2 h1 h2 h3 h4
    rw [waF, wE_wB]
    by_cases hs : wB T N i s = true
    · rw [if_pos hs, wB_one (by omega) h3 hs h4]
    · rw [if_neg hs]
      have hne : s ≠ s2 := fun z => hs (by rw [z]; exact h4)
      exact ih (s + 1) s2 (by omega) (by omega) h3 h4
theorem waF_is {T : Nat → Int32} {N i s2 : Nat} (hs2 : s2 < 7) : ∀ c s, s + c = 7 → waF T i (smN T N i) c s = nI (s2 + 1) → wB T N i s2 = true := by
  intro c
  induction c with
  | zero =>
    intro s _ h
    have h1 : (-1 : Int32) = nI (s2 + 1) := h
    have h2 : 0 ≤ nI (s2 + 1) := nI_pos' (by omega)
    rw [← h1] at h2
    exact absurd h2 (by decide)
  | succ c ih =>
    intro s hc h
    rw [waF, wE_wB] at h
    by_cases hs : wB T N i s = true
    · rw [if_pos hs] at h
      have := (nI_eq (by omega) (by omega)).mp h
      have e : s = s2 := by omega
      rw [← e]; exact hs
    · rw [if_neg hs] at h
      exact ih (s + 1) (by omega) h
theorem wB_no {T : Nat → Int32} {N p s : Nat} (hs : s < 7) (h : smB (T p) = false ∨ N ≤ p) : wB T N p s = false := by
  have e : smN T N p = p := by
    rcases h with h | h
    · unfold smN
      cases hc : N - p with
      | zero => rfl
      | succ c => rw [spF, if_neg (by rw [h]; decide)]
    · have h0 : N - p = 0 := by omega
      unfold smN
      rw [h0]
      rfl
  have hl : ∀ s, s < 7 → 0 < sLn.getD s 0 := by decide +kernel
  have h1 := hl s hs
  unfold wB
  rw [e, Nat.sub_self, decide_eq_false (by omega), Bool.false_and]
/-- the numbers: one cut at a million, the other growing a little beyond -/
theorem nc_nm {T : Nat → Int32} : ∀ c j v, 0 ≤ v → v ≤ 9999999 → (ncF T c j (mn6 v) = mn6 (nmF T c j v) ∧ 0 ≤ nmF T c j v ∧ nmF T c j v ≤ 9999999) := by
  intro c
  induction c with
  | zero => intro j v h1 h2; exact ⟨rfl, h1, h2⟩
  | succ c ih =>
    intro j v h1 h2
    rw [ncF, nmF]
    by_cases hd : dgB (T j) = true
    · rw [if_pos hd, if_pos hd]
      have hd2 : 48 ≤ T j ∧ T j ≤ 57 := by unfold dgB at hd; exact of_decide_eq_true hd
      have e : mn6 (mn6 v * 10 + T j - 48) = mn6 (if 999999 < v then v else 10 * v + T j - 48) := by
        clear ih
        generalize T j = x at hd2
        unfold mn6
        grind
      rw [e]
      refine ih (j + 1) _ ?_ ?_
      · clear ih e; generalize T j = x at hd2; grind
      · clear ih e; generalize T j = x at hd2; grind
    · rw [if_neg hd, if_neg hd]
      exact ⟨rfl, h1, h2⟩
theorem ncN_nmN {T : Nat → Int32} {N p : Nat} : ncN T N p = mn6 (nmN T N p) ∧ 0 ≤ nmN T N p ∧ nmN T N p ≤ 9999999 := by
  have h := nc_nm (T := T) (N - p) p 0 (by decide) (by decide)
  have e : mn6 0 = 0 := by decide
  rw [e] at h
  exact h
/-- what the token at i is, by its place -/
theorem tk_pl {T : Nat → Int32} {N : Nat} {m : rM4} : (tkF T N m).2.1 = nI (skN T N m.1) := by
  unfold tkF
  split
  · split
    · rfl
    · split
      · rfl
      · rfl
  · rfl
