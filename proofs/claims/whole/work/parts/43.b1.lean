-- steps of both sides: fault, man, found, told, count, place
theorem Rl2.ref2 {τ μ μ' : rS} {q p n m c : Nat} (h : Rl2 τ μ q p n m c) (e : ∀ k, ¬ k = 2 → μ' 8 k = μ 8 k) : Rl2 τ μ' q p n m c := by
  simp only [Rl2, RA, RB, RC, RD, RE, RF, RG, RH, R1, R2, R3, R4, R5, yrs, R6p, R6b, R6s, R7, R8, R9, R10, R11, R12, R13, MIr, wdOk, e 0 (by decide), e 1 (by decide), e 3 (by decide), e 4 (by decide), e 5 (by decide), e 6 (by decide), e 7 (by decide), e 8 (by decide), e 9 (by decide), e 10 (by decide), e 11 (by decide), e 12 (by decide), e 13 (by decide), e 14 (by decide), e 15 (by decide), e 16 (by decide), e 17 (by decide), e 18 (by decide), e 19 (by decide), e 20 (by decide), e 21 (by decide), e 22 (by decide), e 23 (by decide), e 24 (by decide), e 25 (by decide), e 26 (by decide), e 27 (by decide), e 28 (by decide), e 29 (by decide), e 30 (by decide)] at h ⊢
  exact h
abbrev z2 (σ : rS) : rS := up σ 8 2 0 0
theorem joint0 {σ σ1 : rS} {q p n m c : Nat} (h : Rl2 σ σ q p n m c) (f1 : σ1 8 = σ 8) : Rl2 σ (z2 σ1) q p n m c := by
  refine h.ref2 (fun k hk => ?_)
  funext i
  rw [show z2 σ1 8 k i = σ1 8 k i from up_k hk, f1]
theorem joint {σ1 μ2 : rS} (st : ∃ q p n m c, Rl2 σ1 μ2 q p n m c) (f2 : ∀ o, ¬ o = 8 → μ2 o = σ1 o) : Rl μ2 := by
  obtain ⟨q, p, n, m, c, h⟩ := st
  exact ⟨q, p, n, m, c, h.crt f2⟩
/-- what a pair of calls with the same answer gives -/
def both (MC MR : rM) (as : List rV) (σ : rS) : Prop := ∃ r σ1 σ2, Ct MC (.inr (0, 0) :: as) σ (some (.inl r)) σ1 ∧ Ct MR (.inr (8, 0) :: as) σ1 (some (.inl r)) σ2 ∧ Rl σ2
theorem both_of {MC MR : rM} {as : List rV} {σ σ1 σ2 : rS} {r r2 : Int32} (h1 : Ct MC (.inr (0, 0) :: as) σ (some (.inl r)) σ1) (h2 : Ct MR (.inr (8, 0) :: as) σ1 (some (.inl r2)) σ2) (e : r = r2) (st : ∃ q p n m c, Rl2 σ1 σ2 q p n m c) (f2 : ∀ o, ¬ o = 8 → σ2 o = σ1 o) : both MC MR as σ := by
  subst e
  exact ⟨r, σ1, σ2, h1, h2, joint st f2⟩
theorem z2_fr {σ : rS} : ∀ o, ¬ o = 8 → z2 σ o = σ o := fun o ho => by funext k i; exact up_o ho
theorem b_fault {σ : rS} {w : Int32} (h : Rl σ) : both mX5_fault mX6_fault [.inl w] σ := by
  obtain ⟨q, p, n, m, c, h⟩ := h
  have h1 := joint0 (σ1 := σ) h rfl
  have h2 := h1.2.1.2
  refine both_of c_X5_fault (c_X6_fault rfl) ?_ ⟨q, p, n, m, c, h1⟩ z2_fr
  rw [h2.1, h2.2]
theorem b_count {σ : rS} {w : Int32} (h : Rl σ) : both mX5_count mX6_count [.inl w] σ := by
  obtain ⟨q, p, n, m, c, h⟩ := h
  have h1 := joint0 (σ1 := σ) h rfl
  have hS := h1.sh
  refine both_of (c_X5_count hS.1 hS.2.1) (c_X6_count rfl) ?_ ⟨q, p, n, m, c, h1⟩ z2_fr
  obtain ⟨hA, hB, hC, hD, hE, hF, hG, hH⟩ := h1
  show _ = if w = 0 then z2 σ 8 10 0 else if w = 1 then z2 σ 8 6 0 else if w = 2 then z2 σ 8 15 0 else if w = 3 then (if ¬ z2 σ 8 16 0 = 0 then z2 σ 8 17 0 else -1) else if w = 4 then z2 σ 8 21 0 else if w = 5 then z2 σ 8 20 0 else -1
  rw [hC.1, hC.2.1, hD.1, hD.2.1, hE.1, hE.2.1, hE.2.2.2.2.1, hE.2.2.2.2.2.1, hF.1, hF.2.1]
theorem b_told {σ : rS} {k w : Int32} (h : Rl σ) : both mX5_told mX6_told [.inl k, .inl w] σ := by
  obtain ⟨q, p, n, m, c, h⟩ := h
  have h1 := joint0 (σ1 := σ) h rfl
  obtain ⟨hA, hB, hC, hD, hE, hF, hG, hH⟩ := id h1
  refine both_of c_X5_told (c_X6_told rfl hF.2.1 hF.2.2.1) ?_ ⟨q, p, n, m, c, h1⟩ z2_fr
  have hc := nI_le40 hF.2.2.1
  have e8 := hF.1
  by_cases hk : 0 ≤ k ∧ k < nI c
  · have hR := hF.2.2.2 k hk.1 hk.2
    have hh : hasC σ 5 k := by rw [show hasC σ 5 k ↔ (0 ≤ k ∧ k < σ 5 8 0 ∧ k < 40) from Iff.rfl, e8]; clear hR; grind
    clear hA hB hC hD hE hF hG hH h1 h
    unfold runB gC
    rw [if_pos hk, if_pos hh, if_pos hh, if_pos hh, if_pos hh, if_pos hh]
    clear hh e8
    grind
  · have hh : ¬ hasC σ 5 k := by rw [show hasC σ 5 k ↔ (0 ≤ k ∧ k < σ 5 8 0 ∧ k < 40) from Iff.rfl, e8]; exact fun z => hk ⟨z.1, z.2.1⟩
    unfold runB gC
    rw [if_neg hk, if_neg hh, if_neg hh, if_neg hh, if_neg hh, if_neg hh]
    split
    · rfl
    · split
      · rfl
      · split
        · rfl
        · split
          · rfl
          · split
            · rfl
            · split
              · exact if_neg (by decide)
              · rfl
theorem b_place {σ : rS} {p w : Int32} (h : Rl σ) : both mX5_place mX6_place [.inl p, .inl w] σ := by
  obtain ⟨q, p', n, m, c, h⟩ := h
  have h1 := joint0 (σ1 := σ) h rfl
  have hS := h1.sh
  obtain ⟨hA, hB, hC, hD, hE, hF, hG, hH⟩ := id h1
  refine both_of (c_X5_place hS.1 hS.2.1) (c_X6_place rfl hD.2.1 hD.2.2.1) ?_ ⟨q, p', n, m, c, h1⟩ z2_fr
  have hm := nI_le24 hD.2.2.1
  have e4 := hD.1
  by_cases hp : 0 ≤ p ∧ p < nI m
  · have hR := (hD.2.2.2.1 p hp.1 hp.2).1
    have hh : hasP σ q p := by rw [show hasP σ q p ↔ (0 ≤ p ∧ p < σ q 4 0 ∧ p < 24) from Iff.rfl, e4]; clear hR; grind
    have hpl : isPl p := ⟨hp.1, by clear hR hh; grind⟩
    rw [if_pos hh]
    have hB1 : ¬ z2 σ 8 16 0 = 0 → σ 3 5 p = z2 σ 8 18 p := fun z => by
      have := ((hG.1 z).1.1 p hp.1 hp.2).1
      rw [this, Int32.zero_add]
    have hB2 : z2 σ 8 16 0 = 0 → σ 3 5 p = -1 := fun z => (hG.2 z).1.2 p hpl.1 hpl.2
    have eg : gB σ 3 p = σ 3 5 p := if_pos hpl
    rw [eg]
    clear hA hB hC hD hE hF hG hH h1 h hh
    grind
  · have hh : ¬ hasP σ q p := by rw [show hasP σ q p ↔ (0 ≤ p ∧ p < σ q 4 0 ∧ p < 24) from Iff.rfl, e4]; exact fun z => hp ⟨z.1, z.2.1⟩
    rw [if_neg hh, if_neg (fun z => hp ⟨z.1, z.2.1⟩)]
theorem R7_n {τ μ : rS} {o n n' m : Nat} {rw : Int32} (h : R7 τ μ o rw n m) (hn : nI n ≤ nI n') : R7 τ μ o rw n' m := by
  refine ⟨fun p h1 h2 => ?_, h.2⟩
  have := h.1 p h1 h2
  clear h
  grind
theorem both_pure {MC MR : rM} {as : List rV} {σ C : rS} {rC : Int32} {F : rS → rS} {rF : rS → Int32} {q p n m c : Nat} (h : Rl2 σ σ q p n m c) (h1 : Ct MC (.inr (0, 0) :: as) σ (some (.inl rC)) C) (h2 : ∀ μ, z2 C = μ → Rl2 σ μ q p n m c → Ct MR (.inr (8, 0) :: as) C (some (.inl (rF μ))) (F μ)) (f1 : C 8 = σ 8) (pu : ∀ μ, Rl2 σ μ q p n m c → rC = rF μ ∧ ∃ q p n m c, Rl2 C (F μ) q p n m c) (f2 : ∀ μ o, ¬ o = 8 → F μ o = μ o) : both MC MR as σ := by
  have hj := joint0 (σ1 := C) h f1
  obtain ⟨e, st⟩ := pu _ hj
  exact both_of h1 (h2 _ rfl hj) e st (fun o ho => (f2 _ o ho).trans (z2_fr o ho))
theorem neg_b {b : Int32} (h1 : 0 ≤ b) (h2 : b ≤ 40) : -10000000 ≤ -250000 * b ∧ -250000 * b ≤ 0 := by grind
theorem p_man {τ μ : rS} {d e : Int32} {q p n m c : Nat} (h1 : Rl2 τ μ q p n m c) : (if coB d e then (if 0 ≤ τ 3 7 0 ∧ τ 3 7 0 < 12 then τ 3 7 0 else -1) else -1) = (if mcB μ d e then μ 8 10 0 else -1) ∧ ∃ q p n m c, Rl2 (if coB d e then sEnter τ 3 d e else τ) (if mcB μ d e then sMan μ d e else μ) q p n m c := by
  obtain ⟨hA, hB, hC, hD, hE, hF, hG, hH⟩ := id h1
  have hn12 := nI_le12 hC.2.2.1
  have hn0 : 0 ≤ nI n := nI_pos' (by have := hC.2.2.1; omega)
  have e3 := hC.1
  have e10 := hC.2.1
  by_cases hc : coB d e
  · by_cases hn : nI n = 12
    · have es : sEnter τ 3 d e = τ := by unfold sEnter; rw [e3, hn]; exact if_neg (by decide)
      have hm : ¬ mcB μ d e := fun z => z.2 (e10.trans hn)
      rw [if_neg hm, if_neg hm, if_pos hc, if_pos hc, es, e3, hn]
      exact ⟨if_neg (by decide), q, p, n, m, c, h1⟩
    · have hlt : nI n < 12 := by clear h1 hA hB hC hD hE hF hG hH; grind
      have hnn : n < 12 := by
        have := hC.2.2.1
        rcases Nat.lt_or_ge n 12 with z | z
        · exact z
        · exfalso
          have e : n = 12 := by omega
          rw [e] at hn; exact hn rfl
      have es : sEnter τ 3 d e = up (up (up τ 3 0 (nI n) d) 3 1 (nI n) e) 3 7 0 (nI n + 1) := by unfold sEnter; rw [e3]; exact if_pos ⟨hn0, hlt⟩
      have en1 : nI (n + 1) = nI n + 1 := (nI_facts (j := n) 12 hnn (Nat.le_refl _) (by decide) rfl).2.2.2
      have hm : mcB μ d e := ⟨hc, by rw [e10]; exact hn⟩
      rw [if_pos hm, if_pos hm, if_pos hc, if_pos hc, es, e3, e10]
      refine ⟨if_pos ⟨hn0, hlt⟩, q, p, n + 1, m, c, ?_⟩
      unfold sMan
      rw [e10]
      have hq3 : ¬ q = 3 := by rcases hA.1 with z | z <;> omega
      clear hm e10 e3 es h1
      refine ⟨hA.tr ?_ ?_, hB.tr ?_ ?_ ?_ ?_ ?_ ?_, ?_, hD.tr ?_ ?_ ?_ ?_ ?_ ?_, hE.tr ?_ ?_ ?_ ?_ ?_ ?_ ?_ ?_, ?_, ?_, hH.tr ?_ ?_⟩
      case refine_9 =>
        refine ⟨?_, ?_, by omega, ?_, ?_, ?_⟩
        · rw [en1]; simp [up]
        · rw [en1]; simp [up]
        · intro x h1 h2
          have := hC.2.2.2.1 x h1 h2
          clear hA hB hC hD hE hF hG hH
          simp only [up]
          grind
        · intro x h1 h2
          have := hC.2.2.2.2.1 x h1 h2
          clear hA hB hC hD hE hF hG hH
          simp only [up]
          grind
        · intro x h1 h2
          have h3 := hC.2.2.2.2.2 x h1 h2
          have h4 := hE.2.2.2.2.2.2.1
          have h5 := hE.2.2.2.2.2.2.2
          have h6 := hc.1
          have h7 := hc.2
          clear hA hB hC hD hE hF hG hH
          have h8 := neg_b h4 h5
          have e9 : yrs (up (up (up μ 8 11 (nI n) d) 8 12 (nI n) e) 8 10 0 (nI n + 1)) = yrs μ := by simp [yrs, up]
          rw [e9]
          clear e9
          generalize yrs μ = Y at *
          by_cases hx : x = nI n
          · simp only [up]
            clear h3
            simp [hx]
            grind
          · simp only [up]
            simp [hx]
            exact h3
      case refine_24 =>
        refine ⟨?_, ?_, hF.2.2.1, ?_⟩
        · have := hF.1; clear hA hB hC hD hE hF hG hH; simp only [up]; grind
        · have := hF.2.1; clear hA hB hC hD hE hF hG hH; simp only [up]; grind
        · intro k h1 h2
          have := hF.2.2.2 k h1 h2
          clear hA hB hC hD hE hF hG hH
          simp only [up]
          grind
      case refine_25 =>
        have hG2 : RG τ μ (n + 1) m c := ⟨fun z => ⟨R7_n (hG.1 z).1 (by rw [en1]; clear hA hB hC hD hE hF hG hH; grind), (hG.1 z).2⟩, hG.2⟩
        exact hG2.tr (by first | (funext i; simp [up]; done) | (funext k i; simp [up]; done)) (by first | (funext i; simp [up]; done) | (funext k i; simp [up]; done)) (by first | (funext i; simp [up]; done) | (funext k i; simp [up]; done)) (by first | (funext i; simp [up]; done) | (funext k i; simp [up]; done)) (by first | (funext i; simp [up]; done) | (funext k i; simp [up]; done)) (by first | (funext i; simp [up]; done) | (funext k i; simp [up]; done)) (by first | (funext i; simp [up]; done) | (funext k i; simp [up]; done))
      case refine_10 =>
        clear hA hB hC hD hE hF hG hH
        funext k i; simp only [up]; grind
      all_goals first | (funext i; simp [up]; done) | (funext k i; simp [up]; done)
  · have hm : ¬ mcB μ d e := fun z => hc z.1
    rw [if_neg hm, if_neg hm, if_neg hc, if_neg hc]
    exact ⟨rfl, q, p, n, m, c, h1⟩
theorem b_man {σ : rS} {d e : Int32} (h : Rl σ) : both mX5_man mX6_man [.inl d, .inl e] σ := by
  obtain ⟨q, p, n, m, c, h⟩ := h
  refine both_pure h c_X5_man (fun μ e hR => c_X6_man e ?_) ?_ (fun μ hR => p_man hR) ?_
  · rw [hR.2.2.1.2.1]; exact ⟨nI_pos' (by have := hR.2.2.1.2.2.1; omega), nI_le12 hR.2.2.1.2.2.1⟩
  · split
    · unfold sEnter; split
      · first | (funext i; simp [up]; done) | (funext k i; simp [up]; done)
      · rfl
    · rfl
  · intro μ o ho
    split
    · unfold sMan; (funext k i; simp only [up]; grind)
    · rfl
