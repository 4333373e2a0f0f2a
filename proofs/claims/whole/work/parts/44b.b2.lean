-- the rank
theorem ar_bnd {Y hd d : Int32} (hY : -10000000 ≤ -250000 * Y ∧ -250000 * Y ≤ 0) (h : 0 ≤ hd ∧ hd ≤ 100000 ∧ -250000 * Y ≤ d ∧ d ≤ 200000 - hd) : -10000000 ≤ d ∧ d ≤ 200000 := by
  generalize -250000 * Y = W at *
  grind
theorem ar_sub {a b : Int32} (ha : -10000000 ≤ a ∧ a ≤ 200000) (hb : -10000000 ≤ b ∧ b ≤ 200000) : (0 < b - a ↔ a < b) ∧ (b - a = 0 ↔ b = a) := by grind
theorem rk_eq {τ μ : rS} {n : Nat} {x : Int32} (hC : RC τ μ n) (hy : 0 ≤ yrs μ ∧ yrs μ ≤ 40) (hx : 0 ≤ x) (hx2 : x < nI n) : ∀ j, j ≤ n → rkF τ 3 x j = rkM μ x j := by
  have hn := nI_le12 hC.2.2.1
  have hb := neg_b hy.1 hy.2
  have hx3 : x < 12 := ar_lt hx2 hn
  have gx : gM τ 3 0 x 0 = μ 8 11 x := by
    rw [show gM τ 3 0 x 0 = τ 3 0 x from if_pos ⟨hx, by rw [hC.1]; exact hx2, hx3⟩, (hC.2.2.2.1 x hx hx3).1, Int32.zero_add]
  have bx := ar_bnd hb (hC.2.2.2.2.2 x hx hx3)
  intro j
  induction j with
  | zero => intro _; rfl
  | succ j ih =>
    intro hj
    have f := nI_facts (j := j) 12 (by omega : j < n) hC.2.2.1 (by decide) rfl
    have hj3 : nI j < 12 := ar_lt f.2.1 hn
    have gj : gM τ 3 0 (nI j) 0 = μ 8 11 (nI j) := by
      rw [show gM τ 3 0 (nI j) 0 = τ 3 0 (nI j) from if_pos ⟨f.1, by rw [hC.1]; exact f.2.1, hj3⟩, (hC.2.2.2.1 (nI j) f.1 hj3).1, Int32.zero_add]
    have e := ar_sub bx (ar_bnd hb (hC.2.2.2.2.2 (nI j) f.1 hj3))
    rw [rkF, rkM, gx, gj, ih (by omega)]
    simp only [e.1, e.2]
theorem fm_eq {τ μ : rS} {n : Nat} {k : Int32} (hC : RC τ μ n) (hy : 0 ≤ yrs μ ∧ yrs μ ≤ 40) : ∀ c j, j + c ≤ n → fmF τ 3 n k c j = fmM μ n k c j := by
  intro c
  induction c with
  | zero => intro j _; rfl
  | succ c ih =>
    intro j hj
    have f := nI_facts (j := j) 12 (by omega : j < n) hC.2.2.1 (by decide) rfl
    rw [fmF, fmM, rk_eq hC hy f.1 f.2.1 n (Nat.le_refl _), ih (j + 1) (by omega)]
theorem ar_k0 {x : Int32} (hx : 0 ≤ x) : ¬ x < 0 := by grind
theorem ar_k1 {r a : Int32} (a0 : 0 ≤ a) (a1 : a < 12) (h1 : 0 ≤ r) (h2 : r ≤ a) : r < a + 1 ∧ r ≤ a + 1 := by grind
theorem ar_k2 {r a : Int32} (a0 : 0 ≤ a) (a1 : a < 12) (h1 : 0 ≤ r) (h2 : r ≤ a) : 0 ≤ r + 1 ∧ r + 1 ≤ a + 1 ∧ (r < a → r + 1 < a + 1) := by grind
theorem rk_rng {μ : rS} {x : Int32} (hx : 0 ≤ x) : ∀ j, j ≤ 12 → 0 ≤ rkM μ x j ∧ rkM μ x j ≤ nI j ∧ (x < nI j → rkM μ x j < nI j) := by
  intro j
  induction j with
  | zero => intro _; exact ⟨Int32.le_refl 0, (show (0 : Int32) ≤ nI 0 from by decide), fun z => by rw [nI_0] at z; exact absurd z (ar_k0 hx)⟩
  | succ j ih =>
    intro hj
    obtain ⟨i1, i2, i3⟩ := ih (by omega)
    have f := nI_facts (j := j) (n := 12) 12 (by omega) (Nat.le_refl _) (by decide) rfl
    have f3 : nI j < 12 := f.2.1
    rw [rkM, f.2.2.2]
    have k1 := ar_k1 f.1 f3 i1 i2
    have k2 := ar_k2 f.1 f3 i1 i2
    by_cases hxj : x = nI j
    · rw [if_neg (by
        rw [hxj]
        intro z
        rcases z with z | z
        · exact Int32.lt_irrefl z
        · exact Int32.lt_irrefl z.2)]
      exact ⟨i1, k1.2, fun _ => k1.1⟩
    · split
      · exact ⟨k2.1, k2.2.1, fun z => k2.2.2 (i3 (ar_s2 f.1 (ar_41 f3) z hxj))⟩
      · exact ⟨i1, k1.2, fun _ => k1.1⟩
theorem fm_out {μ : rS} {n : Nat} {k : Int32} (hn : n ≤ 12) (hk : ¬ (0 ≤ k ∧ k < nI n)) : ∀ c j, j + c ≤ n → fmM μ n k c j = -1 := by
  intro c
  induction c with
  | zero => intro j _; rfl
  | succ c ih =>
    intro j hj
    have f := nI_facts (j := j) 12 (by omega : j < n) hn (by decide) rfl
    have r := rk_rng (μ := μ) (x := nI j) f.1 n hn
    rw [fmM, if_neg (fun z => hk (by rw [← z]; exact ⟨r.1, r.2.2 f.2.1⟩))]
    exact ih (j + 1) (by omega)
theorem b_richest {σ : rS} {k : Int32} (h : Rl σ) : both mX5_richest mX6_richest [.inl k] σ := by
  obtain ⟨q, p, n, m, c, h⟩ := h
  have h1 := joint0 (σ1 := σ) h rfl
  have hC := h1.2.2.1
  have hE := h1.2.2.2.2.1
  refine both_of (c_X5_richest hC.1 hC.2.2.1) (c_X6_richest rfl hC.2.1 hC.2.2.1) ?_ ⟨q, p, n, m, c, h1⟩ z2_fr
  rw [fm_eq hC ⟨hE.2.2.2.2.2.2.1, hE.2.2.2.2.2.2.2⟩ n 0 (by omega)]
  by_cases hk : 0 ≤ k ∧ k < nI n
  · rw [if_pos hk]
  · rw [if_neg hk, fm_out hC.2.2.1 hk n 0 (by omega)]
