-- steps of both sides: found, richest, part, gain
theorem ar_gain (D a b : Int32) : (if a ≤ b - D then a else b - D) - (a - D) = if a ≤ b - D then D else b - a := by
  split <;> grind
theorem ar_add {r a b : Int32} (h : r + a = r + b) : a = b := by grind
theorem ar_s1 {a p : Int32} (h0 : 0 ≤ a) (h1 : a < 40) (h : a + 1 ≤ p) : a ≤ p ∧ ¬ p = a := by grind
theorem ar_s2 {a p : Int32} (h0 : 0 ≤ a) (h1 : a < 40) (h : p < a + 1) (h2 : ¬ p = a) : p < a := by grind
theorem ar_s3 {a r : Int32} (h0 : 0 ≤ a) (h1 : a < 40) (h : r < a) : r < a + 1 := by grind
theorem ar_s4 {a : Int32} (h0 : 0 ≤ a) (h1 : a < 40) : a < a + 1 := by grind
theorem ar_n {b : Int32} (h : 0 ≤ b) : ¬ b = -1 ∧ ¬ b < 0 := by grind
theorem ar_lt {a b d : Int32} (h : a < b) (h2 : b ≤ d) : a < d := by grind
theorem ar_40 {a : Int32} (h : a < 24) : a < 40 := by grind
theorem ar_41 {a : Int32} (h : a < 12) : a < 40 := by grind
theorem ar_m1 {a m : Int32} (h : a = -1 ∨ (0 ≤ a ∧ a < m)) : (a = -1 ↔ a < 0) ∧ (¬ a = -1 ↔ 0 ≤ a) := by grind
theorem up_row {μ : rS} {rw a p v : Int32} : up μ 8 18 (rw + a) v 8 18 (rw + p) = if p = a then v else μ 8 18 (rw + p) := by
  by_cases h : p = a
  · rw [if_pos h, h]; exact up_self
  · rw [if_neg h]; exact up_i (fun y => h (ar_add y))
theorem nI12 {x : Int32} (h0 : 0 ≤ x) (h1 : x < 12) : ∃ i, i < 12 ∧ x = nI i := by
  obtain ⟨i, hi, e⟩ := nI_of2 (x := x) (M := 11) (n := 11) rfl (fun z => absurd h0 (Int32.not_le.mpr z)) (by grind)
  exact ⟨i, by omega, e⟩
theorem nI24 {x : Int32} (h0 : 0 ≤ x) (h1 : x < 24) : ∃ i, i < 24 ∧ x = nI i := by
  obtain ⟨i, hi, e⟩ := nI_of2 (x := x) (M := 23) (n := 23) rfl (fun z => absurd h0 (Int32.not_le.mpr z)) (by grind)
  exact ⟨i, by omega, e⟩
theorem nI40 {x : Int32} (h0 : 0 ≤ x) (h1 : x < 40) : ∃ i, i < 40 ∧ x = nI i := by
  obtain ⟨i, hi, e⟩ := nI_of2 (x := x) (M := 39) (n := 39) rfl (fun z => absurd h0 (Int32.not_le.mpr z)) (by grind)
  exact ⟨i, by omega, e⟩
theorem has_mn {τ μ : rS} {n : Nat} {x : Int32} (hC : RC τ μ n) : hasM τ 3 x ↔ mnB μ x := by
  have e3 := hC.1
  have e10 := hC.2.1
  have hn := nI_le12 hC.2.2.1
  clear hC
  show (0 ≤ x ∧ x < τ 3 7 0 ∧ x < 12) ↔ (0 ≤ x ∧ x < μ 8 10 0)
  rw [e3, e10]
  grind
theorem unc_at {τ T : rS} {x k : Int32} (e : T = up (up τ 3 1 x (τ 3 1 x - k)) 3 0 x (τ 3 0 x + k)) : (∀ y, T 3 0 y = if y = x then τ 3 0 x + k else τ 3 0 y) ∧ (∀ y, T 3 1 y = if y = x then τ 3 1 x - k else τ 3 1 y) ∧ (∀ o' k', ¬ (o' = 3 ∧ (k' = 0 ∨ k' = 1)) → T o' k' = τ o' k') := by
  subst e
  refine ⟨fun y => ?_, fun y => ?_, fun o' k' h => ?_⟩
  · simp [up]
  · simp [up]
  · funext i
    simp only [up]
    rw [if_neg (fun z => h ⟨z.1, Or.inl z.2.1⟩), if_neg (fun z => h ⟨z.1, Or.inr z.2.1⟩)]
theorem fou_at {μ U : rS} {x k : Int32} (e : U = sFound μ x k) : (∀ y, U 8 11 y = if y = x then μ 8 11 x + k else μ 8 11 y) ∧ (∀ y, U 8 12 y = if y = x then μ 8 12 x - k else μ 8 12 y) ∧ (∀ k', ¬ (k' = 11 ∨ k' = 12) → U 8 k' = μ 8 k') := by
  unfold sFound at e
  subst e
  refine ⟨fun y => ?_, fun y => ?_, fun k' h => ?_⟩
  · simp [up]
  · simp [up]
  · funext i
    rw [up_k (fun z => h (Or.inl z)), up_k (fun z => h (Or.inr z))]
theorem ar_fou {k Y hd d : Int32} (h1 : 1 ≤ k) (h2 : k ≤ hd) (hY : -10000000 ≤ -250000 * Y ∧ -250000 * Y ≤ 0) (h : 0 ≤ hd ∧ hd ≤ 100000 ∧ -250000 * Y ≤ d ∧ d ≤ 200000 - hd) : 0 ≤ hd - k ∧ hd - k ≤ 100000 ∧ -250000 * Y ≤ d + k ∧ d + k ≤ 200000 - (hd - k) := by
  generalize -250000 * Y = W at *
  grind
theorem p_found {τ μ : rS} {x k : Int32} {q p n m c : Nat} (h1 : Rl2 τ μ q p n m c) : bI (foB τ x k) = bI (mfoB μ x k) ∧ ∃ q p n m c, Rl2 (if foB τ x k then sUnc τ 3 x k else τ) (if mfoB μ x k then sFound μ x k else μ) q p n m c := by
  obtain ⟨hA, hB, hC, hD, hE, hF, hG, hH⟩ := id h1
  have hmn : hasM τ 3 x ↔ mnB μ x := has_mn hC
  have hfo : foB τ x k ↔ mfoB μ x k := by
    refine ⟨fun z => ⟨hmn.mp z.1, z.2.1, ?_⟩, fun z => ⟨hmn.mpr z.1, z.2.1, ?_⟩⟩
    · rw [← (hC.2.2.2.2.1 x z.1.1 z.1.2.2).1]; exact z.2.2
    · have := hmn.mpr z.1
      rw [(hC.2.2.2.2.1 x this.1 this.2.2).1]; exact z.2.2
  refine ⟨bI_eq hfo, q, p, n, m, c, ?_⟩
  by_cases hf : foB τ x k
  · rw [if_pos hf, if_pos (hfo.mp hf)]
    have hq3 : ¬ q = 3 := by rcases hA.1 with z | z <;> omega
    have hx0 := hf.1.1
    have hx12 := hf.1.2.2
    have hk1 := hf.2.1
    have hk2 := (hfo.mp hf).2.2
    have a5 := hC.2.2.2.2.2 x hx0 hx12
    have a3 := hC.2.2.2.1 x hx0 hx12
    have a4 := hC.2.2.2.2.1 x hx0 hx12
    rw [Int32.zero_add] at a3
    have eT : sUnc τ 3 x k = up (up τ 3 1 x (τ 3 1 x - k)) 3 0 x (τ 3 0 x + k) := if_pos hf.1
    obtain ⟨t0, t1, t⟩ := unc_at eT
    obtain ⟨u0, u1, u⟩ := fou_at (μ := μ) (x := x) (k := k) rfl
    generalize sUnc τ 3 x k = T at *
    generalize sFound μ x k = U at *
    have yU : yrs U = yrs μ := by unfold yrs; rw [u 16 (by decide), u 15 (by decide)]
    refine ⟨hA.tr (t 0 5 (by decide)) (t 0 6 (by decide)), hB.tr (by funext k'; exact t 1 k' (fun z => absurd z.1 (by decide))) (by funext k'; exact t 2 k' (fun z => absurd z.1 (by decide))) (u 0 (by decide)) (u 1 (by decide)) (u 8 (by decide)) (u 9 (by decide)), ⟨?_, ?_, hC.2.2.1, fun y a b => ?_, fun y a b => ?_, fun y a b => ?_⟩, hD.tr (by funext k'; exact t q k' (fun z => hq3 z.1)) (u 3 (by decide)) (u 4 (by decide)) (u 5 (by decide)) (u 6 (by decide)) (u 7 (by decide)), hE.tr (t 0 7 (by decide)) (t 0 8 (by decide)) (t 0 9 (by decide)) (t 0 10 (by decide)) (u 15 (by decide)) (u 16 (by decide)) (u 17 (by decide)) (u 20 (by decide)), hF.tr (by funext k'; exact t 5 k' (fun z => absurd z.1 (by decide))) (u 21 (by decide)) (u 22 (by decide)) (u 23 (by decide)) (u 24 (by decide)) (u 25 (by decide)) (u 26 (by decide)) (u 27 (by decide)) (u 28 (by decide)) (u 29 (by decide)), hG.tr (t 3 4 (by decide)) (t 3 5 (by decide)) (t 3 6 (by decide)) (by funext k'; exact t 5 k' (fun z => absurd z.1 (by decide))) (u 16 (by decide)) (u 18 (by decide)) (u 19 (by decide)), hH.tr (u 18 (by decide)) (u 30 (by decide))⟩
    · rw [t 3 7 (by decide)]; exact hC.1
    · rw [u 10 (by decide)]; exact hC.2.1
    · have z := hC.2.2.2.1 y a b
      rw [Int32.zero_add] at z ⊢
      rw [t0, u0, t 3 2 (by decide), u 13 (by decide), a3.1, z.1, z.2]
      exact ⟨rfl, rfl⟩
    · have z := hC.2.2.2.2.1 y a b
      rw [t1, u1, t 3 3 (by decide), u 14 (by decide), a4.1, z.1, z.2]
      exact ⟨rfl, rfl⟩
    · have z := hC.2.2.2.2.2 y a b
      rw [yU, u0, u1]
      by_cases e1 : y = x
      · simp only [if_pos e1]
        exact ar_fou hk1 hk2 (neg_b hE.2.2.2.2.2.2.1 hE.2.2.2.2.2.2.2) a5
      · simp only [if_neg e1]
        exact z
  · rw [if_neg hf, if_neg (fun z => hf (hfo.mpr z))]
    exact h1
theorem b_found {σ : rS} {x k : Int32} (h : Rl σ) : both mX5_found mX6_found [.inl x, .inl k] σ := by
  obtain ⟨q, p, n, m, c, h⟩ := h
  refine both_pure h c_X5_found (fun μ e hR => c_X6_found e ?_) ?_ (fun μ hR => p_found hR) ?_
  · rw [hR.2.2.1.2.1]; exact ⟨nI_pos' (by have := hR.2.2.1.2.2.1; omega), nI_le12 hR.2.2.1.2.2.1⟩
  · split
    · unfold sUnc; split
      · first | (funext i; simp [up]; done) | (funext k i; simp [up]; done)
      · rfl
    · rfl
  · intro μ o ho
    split
    · unfold sFound
      funext k i
      rw [up_o ho, up_o ho]
    · rfl
