-- the reference's statutes: facts of its lines
theorem waF_rng {T : Nat → Int32} {i e : Nat} : ∀ c s, s + c = 7 → waF T i e c s = -1 ∨ (1 ≤ waF T i e c s ∧ waF T i e c s ≤ 7) := by
  intro c
  induction c with
  | zero => intro s _; exact Or.inl rfl
  | succ c ih =>
    intro s hs
    rw [waF]
    split
    · right
      exact ⟨nI_le (a := 1) (by omega) (by omega), nI_le (b := 7) (by omega) (by decide)⟩
    · exact ih (s + 1) (by omega)
theorem tkF_w17 {T : Nat → Int32} {N : Nat} {m : rM4} : w17 (tkF T N m) := by
  intro h
  have hr := waF_rng (T := T) (i := skN T N m.1) (e := smN T N (skN T N m.1)) 7 0 rfl
  unfold tkF at h ⊢
  split at h
  · rename_i h1
    rw [if_pos h1]
    split at h
    · rename_i h2
      rw [if_pos h2]
      dsimp only at h ⊢
      split at h
      · exact absurd h (by decide)
      · grind
    · rename_i h2
      rw [if_neg h2]
      split at h
      · exact absurd (show (3 : Int32) = 1 from h) (by decide)
      · rename_i h3
        rw [if_neg h3]
        dsimp only at h ⊢
        unfold chK at h
        split at h
        · exact absurd h (by decide)
        · split at h
          · exact absurd h (by decide)
          · exact absurd h (by decide)
  · exact absurd (show (0 : Int32) = 1 from h) (by decide)
theorem sp_lt {P : Int32 → Bool} {T : Nat → Int32} {N p : Nat} (h : p < N) (hP : P (T p) = true) : p < spF P T (N - p) p := by
  have e : N - p = (N - p - 1) + 1 := by omega
  rw [e, spF, if_pos hP]
  have := spF_le (P := P) (T := T) (N - p - 1) (p + 1)
  omega
theorem tkF_lt {T : Nat → Int32} {N : Nat} {m : rM4} (h : m.1 ≤ N) (hk : ¬ (tkF T N m).2.2.1 = 0) : m.1 < (tkF T N m).1 := by
  have h1 := sk_le (T := T) h
  unfold tkF at hk ⊢
  split at hk
  · rename_i h2
    rw [if_pos h2]
    split at hk
    · rename_i h3
      rw [if_pos h3]
      have h9 : skN T N m.1 < smN T N (skN T N m.1) := sp_lt (P := smB) h2 h3
      dsimp only
      omega
    · rename_i h3
      rw [if_neg h3]
      split at hk
      · rename_i h4
        rw [if_pos h4]
        have h9 : skN T N m.1 < dgN T N (skN T N m.1) := sp_lt (P := dgB) h2 h4
        dsimp only
        omega
      · rename_i h4
        rw [if_neg h4]
        dsimp only
        omega
  · exact absurd rfl hk
theorem buM_mono {T : Nat → Int32} {N : Nat} {σ : rS} {m : rM4} (h : m.1 ≤ N) : m.1 ≤ (buM σ (tkF T N m) (ka2 T N m) (ka3 T N m) (ka4 T N m) (ka5 T N m) (ka6 T N m)).2.2.1 ∧ (buM σ (tkF T N m) (ka2 T N m) (ka3 T N m) (ka4 T N m) (ka5 T N m) (ka6 T N m)).2.2.1 ≤ N := by
  have a1 := tkF_le (T := T) h
  have a2 := tkF_le (T := T) a1.1
  have a3 := tkF_le (T := T) a2.1
  have a4 := tkF_le (T := T) a3.1
  have a5 := tkF_le (T := T) a4.1
  have a6 := tkF_le (T := T) a5.1
  unfold ka2 ka3 ka4 ka5 ka6
  generalize tkF T N (tkF T N (tkF T N (tkF T N (tkF T N (tkF T N m))))) = m6 at *
  generalize tkF T N (tkF T N (tkF T N (tkF T N (tkF T N m)))) = m5 at *
  generalize tkF T N (tkF T N (tkF T N (tkF T N m))) = m4 at *
  generalize tkF T N (tkF T N (tkF T N m)) = m3 at *
  generalize tkF T N (tkF T N m) = m2 at *
  generalize tkF T N m = m1 at *
  unfold buM
  split
  · split
    · dsimp only; omega
    · split
      · split
        · split
          · split
            · dsimp only; omega
            · dsimp only; omega
          · dsimp only; omega
        · dsimp only; omega
      · dsimp only; omega
  · dsimp only; omega
theorem liM_mono {T : Nat → Int32} {N : Nat} {σ : rS} {m : rM4} (h : m.1 ≤ N) : m.1 ≤ (liM T N σ m).2.2.1 ∧ (liM T N σ m).2.2.1 ≤ N := by
  have a1 := tkF_le (T := T) h
  have a2 := tkF_le (T := T) a1.1
  unfold liM
  split
  · split
    · exact buM_mono h
    · unfold seM ka2
      generalize tkF T N (tkF T N m) = m2 at *
      generalize tkF T N m = m1 at *
      split
      · exact ⟨Nat.le_refl _, h⟩
      · split
        · dsimp only; omega
        · dsimp only; omega
  · exact ⟨Nat.le_refl _, h⟩
theorem wg_fr {σ : rS} {k w : Int32} {o' k' : Nat} {i' : Int32} (h : ¬ (o' = 8 ∧ (k' = 8 ∨ k' = 9))) : wg σ k w o' k' i' = σ o' k' i' := by
  unfold wg; simp only [up]; grind
theorem buM_fr {σ : rS} {m1 m2 m3 m4 m5 m6 : rM4} {o' k' : Nat} {i' : Int32} (h : ¬ (o' = 8 ∧ (k' = 3 ∨ k' = 4 ∨ k' = 5 ∨ k' = 8 ∨ k' = 9 ∨ k' = 36))) : (buM σ m1 m2 m3 m4 m5 m6).2.1 o' k' i' = σ o' k' i' := by
  unfold buM
  split
  · split
    · exact wg_fr (by grind)
    · split
      · split
        · split
          · split
            · dsimp only; simp only [up]; grind
            · dsimp only; rw [wg_fr (by grind)]; simp only [up]; grind
          · dsimp only; rw [wg_fr (by grind)]; simp only [up]; grind
        · exact wg_fr (by grind)
      · exact wg_fr (by grind)
  · exact wg_fr (by grind)
theorem liM_fr {T : Nat → Int32} {N : Nat} {σ : rS} {m : rM4} {o' k' : Nat} {i' : Int32} (h : ¬ (o' = 8 ∧ (k' = 3 ∨ k' = 4 ∨ k' = 5 ∨ k' = 8 ∨ k' = 9 ∨ k' = 36))) : (liM T N σ m).2.1 o' k' i' = σ o' k' i' := by
  unfold liM
  split
  · split
    · exact buM_fr h
    · unfold seM
      split
      · exact wg_fr (by grind)
      · split
        · dsimp only; simp only [up]; grind
        · exact wg_fr (by grind)
  · exact wg_fr (by grind)
/-- shares within -/
def shM (σ : rS) : Prop := ∀ b, 6 ≤ b → b < 12 → 0 ≤ σ 8 4 b ∧ σ 8 4 b ≤ 4
theorem liM_sh {T : Nat → Int32} {N : Nat} {σ : rS} {m : rM4} (h : shM σ) : shM (liM T N σ m).2.1 := by
  intro b h1 h2
  have h3 := h b h1 h2
  clear h
  unfold liM
  split
  · split
    · generalize tkF T N m = m1
      generalize ka2 T N m = m2
      generalize ka3 T N m = m3
      generalize ka4 T N m = m4
      generalize ka5 T N m = m5
      generalize ka6 T N m = m6
      unfold buM
      split
      · split
        · dsimp only; rw [wg_fr (by decide)]; exact h3
        · split
          · split
            · split
              · split
                · rename_i q
                  dsimp only
                  simp only [up]
                  grind
                · dsimp only; rw [wg_fr (by decide)]; simp only [up]; grind
              · dsimp only; rw [wg_fr (by decide)]; simp only [up]; grind
            · dsimp only; rw [wg_fr (by decide)]; exact h3
          · dsimp only; rw [wg_fr (by decide)]; exact h3
      · dsimp only; rw [wg_fr (by decide)]; exact h3
    · unfold seM
      split
      · dsimp only; rw [wg_fr (by decide)]; exact h3
      · split
        · dsimp only; simp only [up]; grind
        · dsimp only; rw [wg_fr (by decide)]; exact h3
  · dsimp only; rw [wg_fr (by decide)]; exact h3
/-- the lines: 1 and where they leave, or 0 -/
def lsM (T : Nat → Int32) (N : Nat) : Nat → rS → rM4 → Int32 × rS × rM4
  | 0, σ, m => (0, σ, m)
  | c + 1, σ, m => if m.2.2.1 = 0 then (1, σ, m) else if (liM T N σ m).1 = 1 then (if (liM T N σ m).2.2.2.2.1 = 4 then lsM T N c (liM T N σ m).2.1 (tkF T N (liM T N σ m).2.2) else (0, wg (liM T N σ m).2.1 1 (liM T N σ m).2.2.2.1, (liM T N σ m).2.2)) else (0, (liM T N σ m).2.1, (liM T N σ m).2.2)
theorem lsM_fr {T : Nat → Int32} {N : Nat} {o' k' : Nat} {i' : Int32} (h : ¬ (o' = 8 ∧ (k' = 3 ∨ k' = 4 ∨ k' = 5 ∨ k' = 8 ∨ k' = 9 ∨ k' = 36))) : ∀ c σ m, (lsM T N c σ m).2.1 o' k' i' = σ o' k' i' := by
  intro c
  induction c with
  | zero => intro σ m; rfl
  | succ c ih =>
    intro σ m
    rw [lsM]
    split
    · rfl
    · split
      · split
        · exact (ih _ _).trans (liM_fr h)
        · exact (wg_fr (by grind)).trans (liM_fr h)
      · exact liM_fr h
theorem lsM_sh {T : Nat → Int32} {N : Nat} : ∀ c σ m, shM σ → shM (lsM T N c σ m).2.1 := by
  intro c
  induction c with
  | zero => intro σ m h; exact h
  | succ c ih =>
    intro σ m h
    rw [lsM]
    split
    · exact h
    · split
      · split
        · exact ih _ _ (liM_sh h)
        · intro b h1 h2
          dsimp only
          rw [wg_fr (by decide)]
          exact liM_sh h b h1 h2
      · exact liM_sh h
