-- THE RELATION between the court (objects 0 .. 7 of τ) and the reference (object 8 of μ)
def R1 (τ μ : rS) : Prop := τ 1 1 0 = μ 8 1 0 ∧ 0 ≤ μ 8 1 0 ∧ μ 8 1 0 ≤ 600 ∧ ∀ i, τ 1 0 i &&& 255 = μ 8 0 i
def R2 (τ μ : rS) : Prop := τ 2 4 0 = μ 8 8 0 ∧ τ 2 5 0 = μ 8 9 0
/-- the coins and the free years: object o against the rows from cn on -/
def R3 (τ μ : rS) (o : Nat) (cn : Int32) : Prop := ∀ x, 0 ≤ x → x < 12 → τ o 0 x = μ 8 11 (cn + x) ∧ τ o 2 x = μ 8 13 (cn + x)
def R4 (τ μ : rS) : Prop := ∀ x, 0 ≤ x → x < 12 → τ 3 1 x = μ 8 12 x ∧ τ 3 3 x = μ 8 14 x
/-- the years that are settled -/
def yrs (μ : rS) : Int32 := if μ 8 16 0 = 0 then μ 8 15 0 else μ 8 15 0 - 1
def R5 (μ : rS) : Prop := ∀ x, 0 ≤ x → x < 12 → 0 ≤ μ 8 12 x ∧ μ 8 12 x ≤ 100000 ∧ -250000 * yrs μ ≤ μ 8 11 x ∧ μ 8 11 x ≤ 200000 - μ 8 12 x
/-- places and their burdens -/
def R6p (τ μ : rS) (q m : Nat) : Prop := ∀ p, 0 ≤ p → p < nI m → τ q 3 p = μ 8 7 p ∧ 0 ≤ μ 8 7 p ∧ μ 8 7 p < 6 ∧ 1 ≤ μ 8 4 (μ 8 7 p)
def R6b (τ μ : rS) (q : Nat) : Prop := ∀ b, 0 ≤ b → b < 6 → τ q 1 b = μ 8 4 b ∧ 0 ≤ μ 8 4 b ∧ μ 8 4 b ≤ 4 ∧ (0 < μ 8 4 b → τ q 0 b = μ 8 3 b ∧ 1 ≤ μ 8 3 b ∧ μ 8 3 b ≤ 10000)
def R6s (τ μ : rS) (q : Nat) : Prop := ∀ k, 0 ≤ k → k < 4 → τ q 2 k = μ 8 5 k
/-- who bears: object o against the row from rw on -/
def R7 (τ μ : rS) (o : Nat) (rw : Int32) (n m : Nat) : Prop := (∀ p, 0 ≤ p → p < nI m → τ o 5 p = μ 8 18 (rw + p) ∧ (τ o 5 p = -1 ∨ (0 ≤ τ o 5 p ∧ τ o 5 p < nI n ∧ τ o 4 (τ o 5 p) = p))) ∧ (∀ x, 0 ≤ x → x < 12 → τ o 4 x = -1 ∨ (0 ≤ τ o 4 x ∧ τ o 4 x < nI m ∧ τ o 5 (τ o 4 x) = x))
def R8 (τ μ : rS) (m : Nat) : Prop := ∀ x p, 0 ≤ x → x < 12 → 0 ≤ p → p < nI m → (τ 3 6 p &&& ((1 : Int32) <<< (x &&& 31)) = 0 ↔ μ 8 19 (24 * x + p) = 0)
def R9 (τ : rS) : Prop := (∀ x, 0 ≤ x → x < 12 → τ 3 4 x = -1) ∧ ∀ p, 0 ≤ p → p < 24 → τ 3 5 p = -1
/-- the challenges -/
def R10 (τ μ : rS) (n c : Nat) : Prop := ∀ k, 0 ≤ k → k < nI c → τ 5 0 k = μ 8 22 k ∧ τ 5 1 k = μ 8 23 k ∧ τ 5 2 k = μ 8 24 k ∧ τ 5 3 k = μ 8 25 k ∧ τ 5 4 k = μ 8 26 k ∧ τ 5 5 k = μ 8 27 k ∧ τ 5 6 k = μ 8 28 k ∧ τ 5 7 k = μ 8 29 k ∧ 0 ≤ μ 8 22 k ∧ μ 8 22 k < nI n ∧ 0 ≤ μ 8 23 k ∧ μ 8 23 k < nI n ∧ 0 ≤ μ 8 24 k ∧ μ 8 24 k < 24 ∧ 0 ≤ μ 8 26 k
abbrev opn (τ : rS) (k : Int32) : Prop := τ 5 4 k = 0 ∨ τ 5 4 k = 1
/-- an open challenge stands as it should: its sayer bears, its hearer doesn't -/
def opO (τ : rS) (o m : Nat) (k : Int32) : Prop := τ o 4 (τ 5 0 k) = τ 5 2 k ∧ 0 ≤ τ 5 2 k ∧ τ 5 2 k < nI m ∧ τ o 5 (τ 5 2 k) = τ 5 0 k ∧ τ o 4 (τ 5 1 k) = -1
def apt (τ : rS) (k l : Int32) : Prop := ¬ τ 5 0 k = τ 5 0 l ∧ ¬ τ 5 0 k = τ 5 1 l ∧ ¬ τ 5 1 k = τ 5 0 l ∧ ¬ τ 5 1 k = τ 5 1 l
def R11 (τ : rS) (o m c : Nat) (l : Int32) : Prop := ∀ k, l ≤ k → k < nI c → opn τ k → opO τ o m k
def R12 (τ : rS) (c : Nat) : Prop := ∀ k l, 0 ≤ k → k < nI c → 0 ≤ l → l < nI c → opn τ k → opn τ l → ¬ k = l → apt τ k l
def R13 (τ : rS) (c : Nat) : Prop := ∀ k, 0 ≤ k → k < nI c → ¬ opn τ k
def RA (τ : rS) (q p : Nat) : Prop := (q = 6 ∧ p = 7 ∨ q = 7 ∧ p = 6) ∧ τ 0 5 0 = nI q ∧ τ 0 6 0 = nI p
def RB (τ μ : rS) : Prop := R1 τ μ ∧ R2 τ μ
def RC (τ μ : rS) (n : Nat) : Prop := τ 3 7 0 = nI n ∧ μ 8 10 0 = nI n ∧ n ≤ 12 ∧ R3 τ μ 3 0 ∧ R4 τ μ ∧ R5 μ
def RD (τ μ : rS) (q m : Nat) : Prop := τ q 4 0 = nI m ∧ μ 8 6 0 = nI m ∧ m ≤ 24 ∧ R6p τ μ q m ∧ R6b τ μ q ∧ R6s τ μ q
def RE (τ μ : rS) : Prop := τ 0 7 0 = μ 8 16 0 ∧ τ 0 8 0 = μ 8 15 0 ∧ 0 ≤ μ 8 15 0 ∧ μ 8 15 0 ≤ 40 ∧ τ 0 9 0 = μ 8 17 0 ∧ τ 0 10 0 = μ 8 20 0 ∧ 0 ≤ yrs μ ∧ yrs μ ≤ 40
def RF (τ μ : rS) (n c : Nat) : Prop := τ 5 8 0 = nI c ∧ μ 8 21 0 = nI c ∧ c ≤ 40 ∧ R10 τ μ n c
def RG (τ μ : rS) (n m c : Nat) : Prop := (¬ μ 8 16 0 = 0 → R7 τ μ 3 0 n m ∧ R8 τ μ m ∧ R11 τ 3 m c 0 ∧ R12 τ c) ∧ (μ 8 16 0 = 0 → R9 τ ∧ R13 τ c)
def RH (μ : rS) : Prop := MIr μ ∧ wdOk μ
def Rl2 (τ μ : rS) (q p n m c : Nat) : Prop := RA τ q p ∧ RB τ μ ∧ RC τ μ n ∧ RD τ μ q m ∧ RE τ μ ∧ RF τ μ n c ∧ RG τ μ n m c ∧ RH μ
def Rl (σ : rS) : Prop := ∃ q p n m c, Rl2 σ σ q p n m c
theorem Rl2.ref {τ μ μ' : rS} {q p n m c : Nat} (h : Rl2 τ μ q p n m c) (e : μ' 8 = μ 8) : Rl2 τ μ' q p n m c := by
  simp only [Rl2, RA, RB, RC, RD, RE, RF, RG, RH, R1, R2, R3, R4, R5, yrs, R6p, R6b, R6s, R7, R8, R9, R10, R11, R12, R13, MIr, wdOk, e] at h ⊢
  exact h
theorem Rl2.crt {τ τ' μ : rS} {q p n m c : Nat} (h : Rl2 τ μ q p n m c) (e : ∀ o, ¬ o = 8 → τ' o = τ o) : Rl2 τ' μ q p n m c := by
  have hq : ¬ q = 8 := by
    rcases h.1.1 with z | z
    · omega
    · omega
  simp only [Rl2, RA, RB, RC, RD, RE, RF, RG, RH, R1, R2, R3, R4, R5, yrs, R6p, R6b, R6s, R7, R8, R9, R10, R11, R12, R13, opn, opO, apt, e 0 (by decide), e 1 (by decide), e 2 (by decide), e 3 (by decide), e 5 (by decide), e q hq] at h ⊢
  exact h
/-- a step of both sides keeps the relation of the joint state -/
theorem Rl_step {σ τ μ : rS} (h : ∃ q p n m c, Rl2 τ μ q p n m c) (e : ∀ o, ¬ o = 8 → μ o = τ o) : Rl μ := by
  obtain ⟨q, p, n, m, c, h⟩ := h
  exact ⟨q, p, n, m, c, h.crt e⟩
theorem RA.tr {τ τ' : rS} {q p : Nat} (h : RA τ q p) (a : τ' 0 5 = τ 0 5) (b : τ' 0 6 = τ 0 6) : RA τ' q p := by
  simp only [RA, a, b] at h ⊢; exact h
theorem RB.tr {τ τ' μ μ' : rS} (h : RB τ μ) (a : τ' 1 = τ 1) (b : τ' 2 = τ 2) (c0 : μ' 8 0 = μ 8 0) (c1 : μ' 8 1 = μ 8 1) (c2 : μ' 8 8 = μ 8 8) (c3 : μ' 8 9 = μ 8 9) : RB τ' μ' := by
  simp only [RB, R1, R2, a, b, c0, c1, c2, c3] at h ⊢; exact h
theorem RC.tr {τ τ' μ μ' : rS} {n : Nat} (h : RC τ μ n) (a0 : τ' 3 0 = τ 3 0) (a1 : τ' 3 1 = τ 3 1) (a2 : τ' 3 2 = τ 3 2) (a3 : τ' 3 3 = τ 3 3) (a7 : τ' 3 7 = τ 3 7) (c0 : μ' 8 10 = μ 8 10) (c1 : μ' 8 11 = μ 8 11) (c2 : μ' 8 12 = μ 8 12) (c3 : μ' 8 13 = μ 8 13) (c4 : μ' 8 14 = μ 8 14) (c5 : μ' 8 15 = μ 8 15) (c16 : μ' 8 16 = μ 8 16) : RC τ' μ' n := by
  simp only [RC, R3, R4, R5, yrs, c16, a0, a1, a2, a3, a7, c0, c1, c2, c3, c4, c5] at h ⊢; exact h
theorem RD.tr {τ τ' μ μ' : rS} {q m : Nat} (h : RD τ μ q m) (a : τ' q = τ q) (c3 : μ' 8 3 = μ 8 3) (c4 : μ' 8 4 = μ 8 4) (c5 : μ' 8 5 = μ 8 5) (c6 : μ' 8 6 = μ 8 6) (c7 : μ' 8 7 = μ 8 7) : RD τ' μ' q m := by
  simp only [RD, R6p, R6b, R6s, a, c3, c4, c5, c6, c7] at h ⊢; exact h
theorem RE.tr {τ τ' μ μ' : rS} (h : RE τ μ) (a7 : τ' 0 7 = τ 0 7) (a8 : τ' 0 8 = τ 0 8) (a9 : τ' 0 9 = τ 0 9) (a10 : τ' 0 10 = τ 0 10) (c15 : μ' 8 15 = μ 8 15) (c16 : μ' 8 16 = μ 8 16) (c17 : μ' 8 17 = μ 8 17) (c20 : μ' 8 20 = μ 8 20) : RE τ' μ' := by
  simp only [RE, yrs, a7, a8, a9, a10, c15, c16, c17, c20] at h ⊢; exact h
theorem RF.tr {τ τ' μ μ' : rS} {n c : Nat} (h : RF τ μ n c) (a : τ' 5 = τ 5) (c21 : μ' 8 21 = μ 8 21) (c22 : μ' 8 22 = μ 8 22) (c23 : μ' 8 23 = μ 8 23) (c24 : μ' 8 24 = μ 8 24) (c25 : μ' 8 25 = μ 8 25) (c26 : μ' 8 26 = μ 8 26) (c27 : μ' 8 27 = μ 8 27) (c28 : μ' 8 28 = μ 8 28) (c29 : μ' 8 29 = μ 8 29) : RF τ' μ' n c := by
  simp only [RF, R10, a, c21, c22, c23, c24, c25, c26, c27, c28, c29] at h ⊢; exact h
theorem RG.tr {τ τ' μ μ' : rS} {n m c : Nat} (h : RG τ μ n m c) (a4 : τ' 3 4 = τ 3 4) (a5 : τ' 3 5 = τ 3 5) (a6 : τ' 3 6 = τ 3 6) (b : τ' 5 = τ 5) (c16 : μ' 8 16 = μ 8 16) (c18 : μ' 8 18 = μ 8 18) (c19 : μ' 8 19 = μ 8 19) : RG τ' μ' n m c := by
  simp only [RG, R7, R8, R9, R11, R12, R13, opn, opO, apt, a4, a5, a6, b, c16, c18, c19] at h ⊢; exact h
theorem RH.tr {μ μ' : rS} (h : RH μ) (c18 : μ' 8 18 = μ 8 18) (c30 : μ' 8 30 = μ 8 30) : RH μ' := by
  simp only [RH, MIr, wdOk, c18, c30] at h ⊢; exact h
/-- what the reference's contracts ask -/
theorem Rl2.mi {τ μ : rS} {q p n m c : Nat} (h : Rl2 τ μ q p n m c) : MI μ n m c := by
  obtain ⟨hA, hB, hC, hD, hE, hF, hG, hH⟩ := h
  refine ⟨hC.2.1, hC.2.2.1, hD.2.1, hD.2.2.1, hF.2.1, hF.2.2.1, fun p h1 h2 => (hD.2.2.2.1 p h1 h2).2, hH.1, fun k h1 h2 => ?_⟩
  have h3 := hF.2.2.2 k h1 h2
  have h4 := nI_le12 hC.2.2.1
  clear hA hB hC hD hE hF hG hH
  grind
theorem Rl2.sh {τ μ : rS} {q p n m c : Nat} (h : Rl2 τ μ q p n m c) : shC τ q n m c := by
  obtain ⟨hA, hB, hC, hD, hE, hF, hG, hH⟩ := h
  refine ⟨?_, ?_, hC.1, hC.2.2.1, hD.1, hD.2.2.1, hF.1, hF.2.2.1⟩
  · rw [hA.2.1]; rcases hA.1 with z | z <;> (rw [z.1]; rfl)
  · rcases hA.1 with z | z <;> (rw [z.1]; exact ⟨by decide, rfl⟩)
