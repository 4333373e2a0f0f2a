-- the two readers in step: a line's word
theorem ps_wa {T : Nat → Int32} {N p : Nat} : psF T N p 4 0 = if 1 ≤ waF T p (smN T N p) 7 0 ∧ waF T p (smN T N p) 7 0 ≤ 4 then waF T p (smN T N p) 7 0 - 1 else -1 := by
  have e1 : psF T N p 4 0 = if wB T N p 0 = true then (0 : Int32) else if wB T N p 1 = true then 1 else if wB T N p 2 = true then 2 else if wB T N p 3 = true then 3 else -1 := rfl
  have e2 : waF T p (smN T N p) 7 0 = if wB T N p 0 = true then (1 : Int32) else if wB T N p 1 = true then 2 else if wB T N p 2 = true then 3 else if wB T N p 3 = true then 4 else if wB T N p 4 = true then 5 else if wB T N p 5 = true then 6 else if wB T N p 6 = true then 7 else -1 := rfl
  rw [e1, e2]
  cases wB T N p 0 <;> cases wB T N p 1 <;> cases wB T N p 2 <;> cases wB T N p 3 <;> cases wB T N p 4 <;> cases wB T N p 5 <;> cases wB T N p 6 <;> decide
/-- the draft: what the lines have told so far, on both sides -/
def Dr (τ μ : rS) (q : Nat) : Prop :=
  (∀ b, 0 ≤ b → b < 6 → τ q 1 b = μ 8 4 (6 + b) ∧ (0 < τ q 1 b → τ q 0 b = μ 8 3 (6 + b))) ∧
  (∀ k, 0 ≤ k → k < 4 → ((¬ τ 2 1 k = 0 ↔ 0 ≤ μ 8 5 (4 + k)) ∧ τ q 2 k = if 0 ≤ μ 8 5 (4 + k) then μ 8 5 (4 + k) else 0))
theorem mo_eq {wh : Int32} (h : 1 ≤ wh ∧ wh ≤ 4) : mo4 (wh - 1) = moM wh := by
  unfold mo4 moM
  grind
/-- the first word at p, by its number -/
theorem tk_wh {T : Nat → Int32} {N : Nat} {m : rM4} (h : (tkF T N m).2.2.1 = 1) : skN T N m.1 < N ∧ (tkF T N m).2.2.2 = waF T (skN T N m.1) (smN T N (skN T N m.1)) 7 0 ∧ (tkF T N m).1 = smN T N (skN T N m.1) := by
  rcases tk_cases T N m with ⟨h1, h2, e⟩ | ⟨h1, h2, h3, e⟩ | ⟨h1, h2, h3, e⟩ | ⟨h1, e⟩
  · rw [e]; exact ⟨h1, rfl, rfl⟩
  · rw [e] at h; exact absurd (show (3 : Int32) = 1 from h) (by decide)
  · rw [e] at h; exact absurd h (chK_ne1 _).1
  · rw [e] at h; exact absurd (show (0 : Int32) = 1 from h) (by decide)
/-- no setting's word and not 'burden': the line's first token can't stand there -/
theorem tk_bad {T : Nat → Int32} {N : Nat} {m : rM4} (h : ¬ ((tkF T N m).2.2.1 = 1 ∧ (tkF T N m).2.2.2 ≤ 5)) : psF T N (skN T N m.1) 4 0 = -1 ∧ wB T N (skN T N m.1) 4 = false := by
  rw [ps_wa]
  rcases tk_cases T N m with ⟨h1, h2, e⟩ | ⟨h1, h2, h3, e⟩ | ⟨h1, h2, h3, e⟩ | ⟨h1, e⟩
  · rw [e] at h
    dsimp only at h
    have hr := waF_rng (T := T) (i := skN T N m.1) (e := smN T N (skN T N m.1)) 7 0 rfl
    have h4 : wB T N (skN T N m.1) 4 = true → waF T (skN T N m.1) (smN T N (skN T N m.1)) 7 0 = 5 := fun z => waF_at (T := T) (N := N) (i := skN T N m.1) 7 0 4 rfl (by decide) (by decide) z
    generalize waF T (skN T N m.1) (smN T N (skN T N m.1)) 7 0 = W at h hr h4
    constructor
    · rw [if_neg]; grind
    · cases hb : wB T N (skN T N m.1) 4 with
      | false => rfl
      | true => exfalso; have := h4 hb; grind
  all_goals
    have hno : ∀ s, s < 7 → wB T N (skN T N m.1) s = false := fun s hs => wB_no hs (by first | exact Or.inl h2 | exact Or.inr (by omega))
    refine ⟨?_, hno 4 (by decide)⟩
    rw [← ps_wa]
    have e1 : psF T N (skN T N m.1) 4 0 = if wB T N (skN T N m.1) 0 = true then (0 : Int32) else if wB T N (skN T N m.1) 1 = true then 1 else if wB T N (skN T N m.1) 2 = true then 2 else if wB T N (skN T N m.1) 3 = true then 3 else -1 := rfl
    rw [e1, hno 0 (by decide), hno 1 (by decide), hno 2 (by decide), hno 3 (by decide)]
    rfl
