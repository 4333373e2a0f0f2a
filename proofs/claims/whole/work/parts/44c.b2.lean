-- who bears
theorem beF_none {μ : rS} {x rw : Int32} : ∀ c j, (∀ i, j ≤ i → i < j + c → ¬ μ 8 18 (rw + nI i) = x) → beF μ x rw c j = -1 := by
  intro c
  induction c with
  | zero => intro j _; rfl
  | succ c ih =>
    intro j h
    rw [beF, if_neg (h j (Nat.le_refl _) (by omega))]
    exact ih (j + 1) (fun i h1 h2 => h i (by omega) (by omega))
theorem beF_some {μ : rS} {x rw : Int32} {i : Nat} : ∀ c j, j ≤ i → i < j + c → μ 8 18 (rw + nI i) = x → (∀ i2, j ≤ i2 → i2 < i → ¬ μ 8 18 (rw + nI i2) = x) → beF μ x rw c j = nI i := by
  intro c
  induction c with
  | zero => intro j h1 h2; omega
  | succ c ih =>
    intro j h1 h2 h3 h4
    rw [beF]
    by_cases hj : j = i
    · rw [hj, if_pos h3]
    · rw [if_neg (h4 j (Nat.le_refl _) (by omega))]
      exact ih (j + 1) (by omega) (by omega) h3 (fun i2 g1 g2 => h4 i2 (by omega) g2)
theorem be_R7 {τ μ : rS} {o n m : Nat} {rw x : Int32} (h : R7 τ μ o rw n m) (hm : m ≤ 24) (h0 : 0 ≤ x) (h1 : x < 12) : beF μ x rw m 0 = τ o 4 x := by
  have key : ∀ i, i < m → μ 8 18 (rw + nI i) = x → τ o 4 x = nI i := by
    intro i hi z
    have f := nI_facts (j := i) 24 hi hm (by decide) rfl
    have g := h.1 (nI i) f.1 f.2.1
    rw [z] at g
    rcases g.2 with g2 | g2
    · exfalso
      rw [g.1] at g2; rw [g2] at h0; exact absurd h0 (by decide)
    · have g3 := g2.2.2
      rw [g.1] at g3
      exact g3
  rcases h.2 x h0 h1 with hx | ⟨a, b, d⟩
  · rw [hx]
    refine beF_none m 0 (fun i _ hi z => ?_)
    have g3 := key i (by omega) z
    have f := nI_facts (j := i) 24 (by omega : i < m) hm (by decide) rfl
    rw [hx] at g3
    have := f.1
    rw [← g3] at this
    exact absurd this (by decide)
  · obtain ⟨i, hi, e⟩ := nI_of (x := τ o 4 x) (fun z => absurd a (Int32.not_le.mpr z))
    have him : i < m := by
      rw [e] at b
      exact (nI_ltI hi (by omega)).mp b
    rw [e]
    rw [e] at d
    have g := h.1 (nI i) (by rw [← e]; exact a) (by rw [← e]; exact b)
    refine beF_some m 0 (Nat.zero_le _) (by omega) (by rw [← g.1]; exact d) (fun i2 _ h2 z => ?_)
    have g3 := key i2 (by omega) z
    rw [e] at g3
    have := (nI_eq hi (by omega)).mp g3
    omega
-- what a place pays
theorem pb_eq {τ μ : rS} {q o n m : Nat} {rw p : Int32} (hD : RD τ μ q m) (h7 : R7 τ μ o rw n m) (hp : gBu τ q p = μ 8 7 p) : ∀ i, i ≤ m → paF τ o q p i = pbF μ p rw i := by
  intro i
  induction i with
  | zero => intro _; rfl
  | succ i ih =>
    intro hi
    have f := nI_facts (j := i) 24 (by omega : i < m) hD.2.2.1 (by decide) rfl
    have hi24 : nI i < 24 := ar_lt f.2.1 (nI_le24 hD.2.2.1)
    have e1 : gBu τ q (nI i) = μ 8 7 (nI i) := by
      rw [show gBu τ q (nI i) = τ q 3 (nI i) from if_pos ⟨f.1, by rw [hD.1]; exact f.2.1, hi24⟩]
      exact (hD.2.2.2.1 (nI i) f.1 f.2.1).1
    have g := h7.1 (nI i) f.1 f.2.1
    have ih' := ih (by omega)
    have e2 : ¬ τ o 5 (nI i) = -1 ↔ 0 ≤ μ 8 18 (rw + nI i) := by
      rw [← g.1]
      exact (ar_m1 (m := nI n) (g.2.imp id (fun z => ⟨z.1, z.2.1⟩))).2
    rw [paF, pbF, e1, hp, ih']
    simp only [e2]
theorem gBu_eq {τ μ : rS} {q m : Nat} {p : Int32} (hD : RD τ μ q m) (h0 : 0 ≤ p) (h1 : p < nI m) : gBu τ q p = μ 8 7 p := by
  have := nI_le24 hD.2.2.1
  rw [show gBu τ q p = τ q 3 p from if_pos ⟨h0, by rw [hD.1]; exact h1, ar_lt h1 this⟩]
  exact (hD.2.2.2.1 p h0 h1).1
theorem part_eq {τ μ : rS} {q o n m j : Nat} {rw : Int32} (hD : RD τ μ q m) (h7 : R7 τ μ o rw n m) (hj : j < m) : gPart τ q (gBu τ q (nI j)) (paF τ o q (nI j) j) = paM μ (nI j) rw j := by
  have f := nI_facts (j := j) 24 hj hD.2.2.1 (by decide) rfl
  have e1 := gBu_eq hD f.1 f.2.1
  rw [pb_eq hD h7 e1 j (by omega), e1]
  obtain ⟨u1, u2, u3, u4⟩ := hD.2.2.2.1 (nI j) f.1 f.2.1
  obtain ⟨v1, v2, v3, v4⟩ := hD.2.2.2.2.1 _ u2 u3
  have v5 := v4 (Int32.lt_of_lt_of_le (by decide) u4)
  have es : gSh τ q (μ 8 7 (nI j)) = μ 8 4 (μ 8 7 (nI j)) := by
    rw [← v1]; exact if_pos ⟨u2, u3⟩
  unfold gPart paM
  rw [es, v5.1, if_neg (fun z => absurd (Int32.le_trans u4 z) (by decide))]
theorem b_part {σ : rS} {p : Int32} (h : Rl σ) : both mX5_part mX6_part [.inl p] σ := by
  obtain ⟨q, p', n, m, c, h⟩ := h
  have h1 := joint0 (σ1 := σ) h rfl
  have hS := h1.sh
  have hM := h1.mi
  obtain ⟨hA, hB, hC, hD, hE, hF, hG, hH⟩ := id h1
  refine both_of (c_X5_part hS.1 hS.2.1) (c_X6_part rfl hM) ?_ ⟨q, p', n, m, c, h1⟩ z2_fr
  have hm := nI_le24 hD.2.2.1
  have hhp : hasP σ q p ↔ (0 ≤ p ∧ p < nI m) := by
    show (0 ≤ p ∧ p < σ q 4 0 ∧ p < 24) ↔ _
    rw [hD.1]
    exact ⟨fun z => ⟨z.1, z.2.1⟩, fun z => ⟨z.1, z.2, ar_lt z.2 hm⟩⟩
  by_cases hp : 0 ≤ p ∧ p < nI m
  · have hpl : isPl p := ⟨hp.1, ar_lt hp.2 hm⟩
    have eg : gB σ 3 p = σ 3 5 p := if_pos hpl
    by_cases hon : z2 σ 8 16 0 = 0
    · have e := (hG.2 hon).1.2 p hpl.1 hpl.2
      rw [if_neg (fun z => z.2 (by rw [eg]; exact e)), if_neg (fun z => z.1 hon)]
    · have h7 := (hG.1 hon).1
      have g := h7.1 p hp.1 hp.2
      have e0 : (0 : Int32) + p = p := Int32.zero_add p
      rw [e0] at g
      have ec : (hasP σ q p ∧ ¬ gB σ 3 p = -1) ↔ (¬ z2 σ 8 16 0 = 0 ∧ 0 ≤ p ∧ p < nI m ∧ 0 ≤ z2 σ 8 18 p) := by
        rw [eg, hhp, ← g.1, (ar_m1 (m := nI n) (g.2.imp id (fun z => ⟨z.1, z.2.1⟩))).2]
        exact ⟨fun z => ⟨hon, z.1.1, z.1.2, z.2⟩, fun z => ⟨⟨z.2.1, z.2.2.1⟩, z.2.2.2⟩⟩
      by_cases hc : (¬ z2 σ 8 16 0 = 0 ∧ 0 ≤ p ∧ p < nI m ∧ 0 ≤ z2 σ 8 18 p)
      · rw [if_pos (ec.mpr hc), if_pos hc]
        obtain ⟨j, hj, ej⟩ := nI_of (x := p) (fun z => absurd hp.1 (Int32.not_le.mpr z))
        have hjm : j < m := (nI_ltI hj (by have := hD.2.2.1; omega)).mp (by rw [← ej]; exact hp.2)
        have ej2 : p.toNatClampNeg = j := by rw [ej]; exact nI_clamp hj
        rw [ej2, ej]
        exact part_eq hD h7 hjm
      · rw [if_neg (fun z => hc (ec.mp z)), if_neg hc]
  · rw [if_neg (fun z => hp (hhp.mp z.1)), if_neg (fun z => hp ⟨z.2.1, z.2.2.1⟩)]
theorem b_gain {σ : rS} {x y : Int32} (h : Rl σ) : both mX5_gain mX6_gain [.inl x, .inl y] σ := by
  obtain ⟨q, p', n, m, c, h⟩ := h
  have h1 := joint0 (σ1 := σ) h rfl
  have hS := h1.sh
  have hM := h1.mi
  obtain ⟨hA, hB, hC, hD, hE, hF, hG, hH⟩ := id h1
  have hm := nI_le24 hD.2.2.1
  have h4 : ∀ x, hasM σ 3 x → σ 3 4 x = -1 ∨ isPl (σ 3 4 x) := by
    intro x hx
    by_cases hon : z2 σ 8 16 0 = 0
    · exact Or.inl ((hG.2 hon).1.1 x hx.1 hx.2.2)
    · rcases (hG.1 hon).1.2 x hx.1 hx.2.2 with e | e
      · exact Or.inl e
      · refine Or.inr ⟨e.1, ?_⟩
        exact ar_lt e.2.1 hm
  refine both_of (c_X5_gain hS.1 hS.2.1 h4) (c_X6_gain rfl hM) ?_ ⟨q, p', n, m, c, h1⟩ z2_fr
  have hx := has_mn (x := x) hC
  have hy := has_mn (x := y) hC
  by_cases hon : z2 σ 8 16 0 = 0
  · rw [if_neg (fun z => z.2.2.2 ((if_pos z.1).trans ((hG.2 hon).1.1 x z.1.1 z.1.2.2))), if_neg (fun z => z.1 hon)]
  · have h7 := (hG.1 hon).1
    by_cases hxy : mnB (z2 σ) x ∧ mnB (z2 σ) y ∧ ¬ x = y
    · have hx1 := hx.mpr hxy.1
      have hy1 := hy.mpr hxy.2.1
      have eb := be_R7 h7 hD.2.2.1 hx1.1 hx1.2.2
      have e4 : gM σ 3 4 x (-1) = σ 3 4 x := if_pos hx1
      have r4 := h7.2 x hx1.1 hx1.2.2
      by_cases hb : σ 3 4 x = -1
      · rw [if_neg (fun z => z.2.2.2 (e4.trans hb)), if_neg (fun z => z.2.2.2.2 (by rw [eb, hb]; decide))]
      · have r5 := Or.resolve_left r4 hb
        have c1 : gaB σ x y := ⟨hx1, hy1, hxy.2.2, by rw [e4]; exact hb⟩
        have c2 : mgaB (z2 σ) x y m := ⟨hon, hxy.1, hxy.2.1, hxy.2.2, by rw [eb]; exact fun z => absurd r5.1 (Int32.not_le.mpr z)⟩
        rw [if_pos c1, if_pos c2]
        obtain ⟨j, hj, ej⟩ := nI_of (x := σ 3 4 x) (fun z => absurd r5.1 (Int32.not_le.mpr z))
        have hjm : j < m := (nI_ltI hj (by have := hD.2.2.1; omega)).mp (by rw [← ej]; exact r5.2.1)
        have ed : gaD σ q x = mgD (z2 σ) x m := by
          unfold gaD mgD
          rw [eb, e4, ej, nI_clamp hj]
          exact part_eq hD h7 hjm
        have wx : woM σ x = woR (z2 σ) x := by
          show gM σ 3 0 x 0 + gM σ 3 1 x 0 = z2 σ 8 11 x + z2 σ 8 12 x
          rw [show gM σ 3 0 x 0 = σ 3 0 x from if_pos hx1, show gM σ 3 1 x 0 = σ 3 1 x from if_pos hx1, (hC.2.2.2.1 x hx1.1 hx1.2.2).1, (hC.2.2.2.2.1 x hx1.1 hx1.2.2).1, Int32.zero_add]
        have wy : woM σ y = woR (z2 σ) y := by
          show gM σ 3 0 y 0 + gM σ 3 1 y 0 = z2 σ 8 11 y + z2 σ 8 12 y
          rw [show gM σ 3 0 y 0 = σ 3 0 y from if_pos hy1, show gM σ 3 1 y 0 = σ 3 1 y from if_pos hy1, (hC.2.2.2.1 y hy1.1 hy1.2.2).1, (hC.2.2.2.2.1 y hy1.1 hy1.2.2).1, Int32.zero_add]
        rw [ed, wx, wy]
        generalize mgD (z2 σ) x m = D
        generalize woR (z2 σ) x = a
        generalize woR (z2 σ) y = b
        exact ar_gain D a b
    · rw [if_neg (fun z => hxy ⟨hx.mp z.1, hy.mp z.2.1, z.2.2.1⟩), if_neg (fun z => hxy ⟨z.2.1, z.2.2.1, z.2.2.2.1⟩)]
