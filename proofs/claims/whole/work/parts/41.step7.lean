-- the two readers in step: all lines
theorem liM_ft {T : Nat → Int32} {N : Nat} {σ : rS} {m : rM4} (h : (liM T N σ m).1 = 1) : (liM T N σ m).2.1 8 8 0 = σ 8 8 0 ∧ (liM T N σ m).2.1 8 9 0 = σ 8 9 0 := by
  unfold liM at h ⊢
  have h01 : ¬ (0 : Int32) = 1 := by decide
  by_cases q1 : m.2.2.1 = 1 ∧ m.2.2.2 ≤ 5
  · rw [if_pos q1] at h ⊢
    by_cases q2 : m.2.2.2 = 5
    · rw [if_pos q2] at h ⊢
      rw [(buM_1 h).2]
      simp [up]
    · rw [if_neg q2] at h ⊢
      unfold seM at h ⊢
      by_cases q3 : 0 ≤ σ 8 5 (3 + m.2.2.2)
      · rw [if_pos q3] at h; exact absurd h h01
      · rw [if_neg q3] at h ⊢
        by_cases q4 : nbB (tkF T N m) 0 (moM m.2.2.2)
        · rw [if_pos q4]; simp [up]
        · rw [if_neg q4] at h; exact absurd h h01
  · rw [if_neg q1] at h; exact absurd h h01
theorem liM_01 {T : Nat → Int32} {N : Nat} {σ : rS} {m : rM4} : (liM T N σ m).1 = 1 ∨ (liM T N σ m).1 = 0 := by
  unfold liM
  split
  · split
    · unfold buM
      split
      · split
        · exact Or.inr rfl
        · split
          · split
            · split
              · split
                · exact Or.inl rfl
                · exact Or.inr rfl
              · exact Or.inr rfl
            · exact Or.inr rfl
          · exact Or.inr rfl
      · exact Or.inr rfl
    · unfold seM
      split
      · exact Or.inr rfl
      · split
        · exact Or.inl rfl
        · exact Or.inr rfl
  · exact Or.inr rfl
theorem rdF_bad {T : Nat → Int32} {N q : Nat} {s : rS × rA3} (h : ¬ s.2.2.1 = 0) : ∀ c, rdF T N q c s = s := by
  intro c
  cases c with
  | zero => rfl
  | succ c => rw [rdF, if_neg h]
theorem tk_k0 {T : Nat → Int32} {N : Nat} {m : rM4} : (tkF T N m).2.2.1 = 0 ↔ ¬ skN T N m.1 < N := by
  rcases tk_cases T N m with ⟨h1, h2, e⟩ | ⟨h1, h2, h3, e⟩ | ⟨h1, h2, h3, e⟩ | ⟨h1, e⟩
  · rw [e]
    dsimp only
    refine ⟨fun h => ?_, fun h => absurd h1 h⟩
    split at h
    · exact absurd h (by decide)
    · exact absurd h (by decide)
  · rw [e]
    exact ⟨fun h => absurd (show (3 : Int32) = 0 from h) (by decide), fun h => absurd h1 h⟩
  · rw [e]
    exact ⟨fun h => absurd h (chK_ne1 _).2.2.1, fun h => absurd h1 h⟩
  · rw [e]
    exact ⟨fun _ => h1, fun _ => rfl⟩
/-- both readers through all lines -/
def rlOk (R : rS × rA3) (S : Int32 × rS × rM4) (w f0 f1 : Int32) (q : Nat) : Prop :=
  (S.1 = 1 ∧ R.2.2.1 = 0 ∧ R.2.2.2 = w ∧ Dr R.1 S.2.1 q ∧ S.2.1 8 8 0 = f0 ∧ S.2.1 8 9 0 = f1) ∨ (¬ S.1 = 1 ∧ ¬ R.2.2.1 = 0 ∧ R.2.2.1 = S.2.1 8 8 0 ∧ R.2.2.2 = S.2.1 8 9 0)
theorem rd_ls {T : Nat → Int32} {N q : Nat} {w : Int32} (hb : bT T) (hq : ¬ q = 2) : ∀ c c2 τ μ m0, m0.1 ≤ N → Dr τ μ q → N < c + m0.1 → ((tkF T N m0).2.2.1 = 0 → 1 ≤ c2) → (¬ (tkF T N m0).2.2.1 = 0 → N + 1 < c2 + (tkF T N m0).1) → rlOk (rdF T N q c (τ, (m0.1, 0, w))) (lsM T N c2 μ (tkF T N m0)) w (μ 8 8 0) (μ 8 9 0) q := by
  intro c
  induction c with
  | zero => intro c2 τ μ m0 h1 h2 h3; omega
  | succ c ih =>
    intro c2 τ μ m0 h1 h2 h3 h4 h5
    cases c2 with
    | zero =>
      exfalso
      by_cases hk : (tkF T N m0).2.2.1 = 0
      · have := h4 hk; omega
      · have := h5 hk
        have := (tkF_le (T := T) h1).1
        omega
    | succ c2 =>
      by_cases hk : (tkF T N m0).2.2.1 = 0
      · have hn := tk_k0.mp hk
        have e1 : rdF T N q (c + 1) (τ, (m0.1, 0, w)) = (τ, (skN T N m0.1, 0, w)) := by
          rw [rdF, if_pos rfl, if_neg hn]
        have e2 : lsM T N (c2 + 1) μ (tkF T N m0) = (1, μ, tkF T N m0) := by
          rw [lsM, if_pos hk]
        rw [e1, e2]
        exact Or.inl ⟨rfl, rfl, rfl, h2, rfl, rfl⟩
      · have hlt : skN T N m0.1 < N := Decidable.not_not.mp (fun z => hk (tk_k0.mpr z))
        have e1 : rdF T N q (c + 1) (τ, (m0.1, 0, w)) = rdF T N q c (liS T N q τ (skN T N m0.1, 0, w), liA T N q τ (skN T N m0.1, 0, w)) := by
          rw [rdF, if_pos rfl, if_pos hlt]
        have LN := st_line (T := T) (N := N) (q := q) (w := w) (τ := τ) (μ := μ) (m0 := m0) hb h1 hq h2 _ rfl _ rfl _ rfl
        have hlt2 := tkF_lt h1 hk
        have hle2 := (tkF_le (T := T) h1).1
        obtain ⟨mo1, mo2⟩ := liM_mono (T := T) (N := N) (σ := μ) (m := tkF T N m0) hle2
        have hf := liM_ft (T := T) (N := N) (σ := μ) (m := tkF T N m0)
        have h5' := h5 hk
        rw [e1, lsM, if_neg hk]
        clear e1
        generalize liA T N q τ (skN T N m0.1, 0, w) = A at LN
        generalize liS T N q τ (skN T N m0.1, 0, w) = S at LN
        generalize liM T N μ (tkF T N m0) = L at LN mo1 mo2 hf
        by_cases g : L.1 = 1
        · rw [if_pos g]
          by_cases g4 : L.2.2.2.2.1 = 4
          · rw [if_pos g4]
            obtain ⟨a1, a2⟩ := LN.1 g g4
            rw [a1]
            have r := ih c2 S L.2.1 L.2.2 mo2 a2 (by omega) (fun _ => by omega) (fun z => by
              have := tkF_lt mo2 z
              omega)
            rw [(hf g).1, (hf g).2] at r
            exact r
          · rw [if_neg g4]
            obtain ⟨a1, a2⟩ := LN.2.1 g g4
            have hA : ¬ A.2.1 = 0 := by rw [a1]; decide
            rw [rdF_bad (s := (S, A)) hA]
            refine Or.inr ⟨(show ¬ (0 : Int32) = 1 by decide), hA, ?_, ?_⟩
            · dsimp only; rw [ft_wg.1]; exact a1
            · dsimp only; rw [ft_wg.2]; exact a2
        · rw [if_neg g]
          obtain ⟨a1, a2, a3⟩ := LN.2.2 g
          rw [rdF_bad (s := (S, A)) a1]
          exact Or.inr ⟨(show ¬ (0 : Int32) = 1 by decide), a1, a2, a3⟩
