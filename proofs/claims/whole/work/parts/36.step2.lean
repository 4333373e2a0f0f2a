-- the two readers in step: what is expected
theorem tk_cases (T : Nat → Int32) (N : Nat) (m : rM4) :
    (skN T N m.1 < N ∧ smB (T (skN T N m.1)) = true ∧ tkF T N m = (smN T N (skN T N m.1), nI (skN T N m.1), (if waF T (skN T N m.1) (smN T N (skN T N m.1)) 7 0 < 0 then 5 else 1), waF T (skN T N m.1) (smN T N (skN T N m.1)) 7 0)) ∨
    (skN T N m.1 < N ∧ smB (T (skN T N m.1)) = false ∧ dgB (T (skN T N m.1)) = true ∧ tkF T N m = (dgN T N (skN T N m.1), nI (skN T N m.1), 3, nmN T N (skN T N m.1))) ∨
    (skN T N m.1 < N ∧ smB (T (skN T N m.1)) = false ∧ dgB (T (skN T N m.1)) = false ∧ tkF T N m = (skN T N m.1 + 1, nI (skN T N m.1), chK (T (skN T N m.1)), T (skN T N m.1))) ∨
    (¬ skN T N m.1 < N ∧ tkF T N m = (skN T N m.1, nI (skN T N m.1), 0, m.2.2.2)) := by
  unfold tkF
  by_cases h1 : skN T N m.1 < N
  · rw [if_pos h1]
    by_cases h2 : smB (T (skN T N m.1)) = true
    · rw [if_pos h2]; exact Or.inl ⟨h1, h2, rfl⟩
    · rw [if_neg h2]
      have h2' : smB (T (skN T N m.1)) = false := by simpa using h2
      by_cases h3 : dgB (T (skN T N m.1)) = true
      · rw [if_pos h3]; exact Or.inr (Or.inl ⟨h1, h2', h3, rfl⟩)
      · rw [if_neg h3]
        have h3' : dgB (T (skN T N m.1)) = false := by simpa using h3
        exact Or.inr (Or.inr (Or.inl ⟨h1, h2', h3', rfl⟩))
  · rw [if_neg h1]; exact Or.inr (Or.inr (Or.inr ⟨h1, rfl⟩))
theorem chK_ne1 (x : Int32) : ¬ chK x = 1 ∧ ¬ chK x = 3 ∧ ¬ chK x = 0 ∧ (chK x = 2 ↔ 65 ≤ x ∧ x ≤ 70) ∧ (chK x = 4 ↔ x = 59) := by
  unfold chK
  grind
/-- a word that is expected -/
theorem st_word {T : Nat → Int32} {N i s : Nat} {w : Int32} {m0 : rM4} (hs : s < 7) (hi : m0.1 = i) : aWord T N s (i, 0, w) = if wdB (tkF T N m0) (nI (s + 1)) then ((tkF T N m0).1, 0, w) else (skN T N i, 1, nI (skN T N i)) := by
  subst hi
  unfold aWord
  rw [if_pos rfl]
  dsimp only
  rcases tk_cases T N m0 with ⟨h1, h2, e⟩ | ⟨h1, h2, h3, e⟩ | ⟨h1, h2, h3, e⟩ | ⟨h1, e⟩
  · rw [e]
    dsimp only
    by_cases hb : wB T N (skN T N m0.1) s = true
    · have hw := waF_at (T := T) (N := N) (i := skN T N m0.1) 7 0 s rfl (Nat.zero_le _) hs hb
      have hp : ¬ nI (s + 1) < 0 := nI_pos (by omega)
      rw [if_pos hb, hw, if_neg hp, if_pos ⟨rfl, rfl⟩]
    · rw [if_neg hb, if_neg]
      rintro ⟨-, hz⟩
      exact hb (waF_is hs 7 0 rfl hz)
  · rw [e, wB_no hs (Or.inl h2), if_neg (by decide), if_neg (fun z => absurd (show (3 : Int32) = 1 from z.1) (by decide))]
  · rw [e, wB_no hs (Or.inl h2), if_neg (by decide), if_neg (fun z => (chK_ne1 _).1 z.1)]
  · rw [e, wB_no hs (Or.inr (by omega)), if_neg (by decide), if_neg (fun z => absurd (show (0 : Int32) = 1 from z.1) (by decide))]
theorem sgn_in {T : Nat → Int32} {N p : Nat} (h : p < N) : sgn T N p = T p := if_pos h
theorem sgn_out {T : Nat → Int32} {N p : Nat} (h : ¬ p < N) : sgn T N p = -1 := if_neg h
theorem sm_dg {x : Int32} (h : smB x = true) : dgB x = false := by
  unfold smB at h
  unfold dgB
  have h1 := of_decide_eq_true h
  exact decide_eq_false (by grind)
/-- a number that is expected -/
theorem st_num {T : Nat → Int32} {N i : Nat} {w lo hi : Int32} {m0 : rM4} (hi0 : m0.1 = i) (hlo : 0 ≤ lo) (hhi : hi ≤ 999999) :
    nuA T N lo hi (i, 0, w) = (if nbB (tkF T N m0) lo hi then ((tkF T N m0).1, 0, w) else if (tkF T N m0).2.2.1 = 3 then (dgN T N (skN T N i), 2, nI (skN T N i)) else (skN T N i, 1, nI (skN T N i))) ∧
    nuV T N lo hi (i, 0, w) = (if nbB (tkF T N m0) lo hi then (tkF T N m0).2.2.2 else 0) := by
  subst hi0
  unfold nuA nuV
  rw [if_pos rfl, if_pos rfl]
  dsimp only
  rcases tk_cases T N m0 with ⟨h1, h2, e⟩ | ⟨h1, h2, h3, e⟩ | ⟨h1, h2, h3, e⟩ | ⟨h1, e⟩
  · rw [e, sgn_in h1, sm_dg h2]
    have hk : ¬ (if waF T (skN T N m0.1) (smN T N (skN T N m0.1)) 7 0 < 0 then (5 : Int32) else 1) = 3 := by split <;> decide
    have hnb : ¬ nbB (smN T N (skN T N m0.1), nI (skN T N m0.1), (if waF T (skN T N m0.1) (smN T N (skN T N m0.1)) 7 0 < 0 then 5 else 1), waF T (skN T N m0.1) (smN T N (skN T N m0.1)) 7 0) lo hi := fun z => hk z.1
    have hf : ¬ (false = true) := by decide
    exact ⟨by rw [if_neg hf, if_neg hnb, if_neg hk], by rw [if_neg hf, if_neg hnb]⟩
  · rw [e, sgn_in h1, if_pos h3, if_pos h3]
    obtain ⟨n1, n2, n3⟩ := ncN_nmN (T := T) (N := N) (p := skN T N m0.1)
    dsimp only
    rw [n1]
    generalize nmN T N (skN T N m0.1) = V at n2 n3
    have hm : (mn6 V < lo ∨ hi < mn6 V) ↔ ¬ (lo ≤ V ∧ V ≤ hi) := by unfold mn6; grind
    by_cases hr : lo ≤ V ∧ V ≤ hi
    · have hV : mn6 V = V := by unfold mn6; grind
      have hn : ¬ (mn6 V < lo ∨ hi < mn6 V) := fun z => hm.mp z hr
      have hp : nbB (dgN T N (skN T N m0.1), nI (skN T N m0.1), 3, V) lo hi := ⟨rfl, hr.1, hr.2⟩
      exact ⟨by rw [if_neg hn, if_pos hp], by rw [if_neg hn, if_pos hp, hV]⟩
    · have hn : mn6 V < lo ∨ hi < mn6 V := hm.mpr hr
      have hp : ¬ nbB (dgN T N (skN T N m0.1), nI (skN T N m0.1), 3, V) lo hi := fun z => hr ⟨z.2.1, z.2.2⟩
      have h33 : (3 : Int32) = 3 := rfl
      exact ⟨by rw [if_pos hn, if_neg hp, if_pos h33], by rw [if_pos hn, if_neg hp]⟩
  · rw [e, sgn_in h1, h3]
    have hf : ¬ (false = true) := by decide
    have hk := (chK_ne1 (T (skN T N m0.1))).2.1
    have hp : ¬ nbB (skN T N m0.1 + 1, nI (skN T N m0.1), chK (T (skN T N m0.1)), T (skN T N m0.1)) lo hi := fun z => hk z.1
    exact ⟨by rw [if_neg hf, if_neg hp, if_neg hk], by rw [if_neg hf, if_neg hp]⟩
  · have hd : dgB (-1) = false := by decide
    rw [e, sgn_out h1, hd]
    have hf : ¬ (false = true) := by decide
    have hk : ¬ (0 : Int32) = 3 := by decide
    have hp : ¬ nbB (skN T N m0.1, nI (skN T N m0.1), 0, m0.2.2.2) lo hi := fun z => hk z.1
    exact ⟨by rw [if_neg hf, if_neg hp, if_neg hk], by rw [if_neg hf, if_neg hp]⟩
/-- a name that is expected -/
theorem st_name {T : Nat → Int32} {N i : Nat} {w : Int32} {sh : Int32 → Int32} {m0 : rM4} (hb : bT T) (hi0 : m0.1 = i) :
    nmA T N sh (i, 0, w) = (if (tkF T N m0).2.2.1 = 2 then (if 0 < sh ((tkF T N m0).2.2.2 - 65) then (skN T N i, 3, nI (skN T N i)) else ((tkF T N m0).1, 0, w)) else (skN T N i, 1, nI (skN T N i))) ∧
    nmV T N sh (i, 0, w) = (if (tkF T N m0).2.2.1 = 2 ∧ ¬ 0 < sh ((tkF T N m0).2.2.2 - 65) then (tkF T N m0).2.2.2 - 65 else -1) := by
  subst hi0
  have hbp := hb (skN T N m0.1)
  clear hb
  unfold nmA nmV
  rw [if_pos rfl, if_pos rfl]
  dsimp only
  rcases tk_cases T N m0 with ⟨h1, h2, e⟩ | ⟨h1, h2, h3, e⟩ | ⟨h1, h2, h3, e⟩ | ⟨h1, e⟩
  · have hx : 97 ≤ T (skN T N m0.1) ∧ T (skN T N m0.1) ≤ 122 := by unfold smB at h2; exact of_decide_eq_true h2
    have hc : T (skN T N m0.1) - 65 < 0 ∨ 6 ≤ T (skN T N m0.1) - 65 := by clear e; generalize T (skN T N m0.1) = x at *; grind
    have hk : ¬ (if waF T (skN T N m0.1) (smN T N (skN T N m0.1)) 7 0 < 0 then (5 : Int32) else 1) = 2 := by split <;> decide
    rw [e, sgn_in h1, if_pos hc, if_pos hc, if_neg hk, if_neg (fun z => hk z.1)]
    exact ⟨rfl, rfl⟩
  · have hx : 48 ≤ T (skN T N m0.1) ∧ T (skN T N m0.1) ≤ 57 := by unfold dgB at h3; exact of_decide_eq_true h3
    have hc : T (skN T N m0.1) - 65 < 0 ∨ 6 ≤ T (skN T N m0.1) - 65 := by clear e; generalize T (skN T N m0.1) = x at *; grind
    rw [e, sgn_in h1, if_pos hc, if_pos hc, if_neg (show ¬ (3 : Int32) = 2 by decide), if_neg (fun z => absurd (show (3 : Int32) = 2 from z.1) (by decide))]
    exact ⟨rfl, rfl⟩
  · rw [e, sgn_in h1]
    clear e
    dsimp only
    generalize T (skN T N m0.1) = x at *
    have hk := (chK_ne1 x).2.2.2.1
    by_cases hr : 65 ≤ x ∧ x ≤ 70
    · have hc : ¬ (x - 65 < 0 ∨ 6 ≤ x - 65) := by grind
      rw [if_neg hc, if_neg hc, if_pos (hk.mpr hr)]
      by_cases hs : 0 < sh (x - 65)
      · rw [if_pos hs, if_pos hs, if_neg (fun z => z.2 hs)]
        exact ⟨rfl, rfl⟩
      · rw [if_neg hs, if_neg hs, if_pos ⟨hk.mpr hr, hs⟩]
        exact ⟨rfl, rfl⟩
    · have hc : x - 65 < 0 ∨ 6 ≤ x - 65 := by grind
      rw [if_pos hc, if_pos hc, if_neg (fun z => hr (hk.mp z)), if_neg (fun z => hr (hk.mp z.1))]
      exact ⟨rfl, rfl⟩
  · rw [e, sgn_out h1]
    have hc : (-1 : Int32) - 65 < 0 ∨ 6 ≤ (-1 : Int32) - 65 := by decide
    have h02 : ¬ (0 : Int32) = 2 := by decide
    have h03 : ¬ ((0 : Int32) = 2 ∧ ¬ 0 < sh (m0.2.2.2 - 65)) := fun z => h02 z.1
    exact ⟨by rw [if_pos hc, if_neg h02], by rw [if_pos hc, if_neg h03]⟩
/-- the sign that ends a line -/
theorem st_semi {T : Nat → Int32} {N i : Nat} {w : Int32} {m0 : rM4} (hi0 : m0.1 = i) :
    aSemi T N (i, 0, w) = (if (tkF T N m0).2.2.1 = 4 then ((tkF T N m0).1, 0, w) else (skN T N i, 1, nI (skN T N i))) := by
  subst hi0
  unfold aSemi
  rw [if_pos rfl]
  dsimp only
  rcases tk_cases T N m0 with ⟨h1, h2, e⟩ | ⟨h1, h2, h3, e⟩ | ⟨h1, h2, h3, e⟩ | ⟨h1, e⟩
  · have hx : 97 ≤ T (skN T N m0.1) ∧ T (skN T N m0.1) ≤ 122 := by unfold smB at h2; exact of_decide_eq_true h2
    have hc : ¬ T (skN T N m0.1) = 59 := by clear e; generalize T (skN T N m0.1) = x at *; grind
    have hk : ¬ (if waF T (skN T N m0.1) (smN T N (skN T N m0.1)) 7 0 < 0 then (5 : Int32) else 1) = 4 := by split <;> decide
    rw [e, sgn_in h1, if_neg hc, if_neg hk]
  · have hx : 48 ≤ T (skN T N m0.1) ∧ T (skN T N m0.1) ≤ 57 := by unfold dgB at h3; exact of_decide_eq_true h3
    have hc : ¬ T (skN T N m0.1) = 59 := by clear e; generalize T (skN T N m0.1) = x at *; grind
    rw [e, sgn_in h1, if_neg hc, if_neg (show ¬ (3 : Int32) = 4 by decide)]
  · rw [e, sgn_in h1]
    have hk := (chK_ne1 (T (skN T N m0.1))).2.2.2.2
    by_cases hr : T (skN T N m0.1) = 59
    · rw [if_pos hr, if_pos (hk.mpr hr)]
    · rw [if_neg hr, if_neg (fun z => hr (hk.mp z))]
  · rw [e, sgn_out h1, if_neg (by decide), if_neg (show ¬ (0 : Int32) = 4 by decide)]
