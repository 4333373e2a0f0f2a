-- steps of both sides: found, richest, part, gain
theorem ar_gain (D a b : Int32) : (if a ≤ b - D then a else b - D) - (a - D) = if a ≤ b - D then D else b - a := by
  split <;> grind
theorem ar_add {r a b : Int32} (h : r + a = r + b) : a = b := by grind
theorem ar_s1 {a p : Int32} (h0 : 0 ≤ a) (h1 : a < 40) (h : a + 1 ≤ p) : a ≤ p ∧ ¬ p = a := by grind
theorem ar_s2 {a p : Int32} (h0 : 0 ≤ a) (h1 : a < 40) (h : p < a + 1) (h2 : ¬ p = a) : p < a := by grind
theorem ar_s3 {a r : Int32} (h0 : 0 ≤ a) (h1 : a < 40) (h : r < a) : r < a + 1 := by grind
theorem ar_s4 {a : Int32} (h0 : 0 ≤ a) (h1 : a < 40) : a < a + 1 := by grind
theorem ar_n {b : Int32} (h : 0 ≤ b) : ¬ b = -1 ∧ ¬ b < 0 := by grind
theorem ar_lt {a b d : Int32} (h : a < b) (h2 : b ≤ d) : a < d := by grind
theorem ar_40 {a : Int32} (h : a < 24) : a < 40 := by grind
theorem ar_41 {a : Int32} (h : a < 12) : a < 40 := by grind
theorem ar_m1 {a m : Int32} (h : a = -1 ∨ (0 ≤ a ∧ a < m)) : (a = -1 ↔ a < 0) ∧ (¬ a = -1 ↔ 0 ≤ a) := by grind
theorem up_row {μ : rS} {rw a p v : Int32} : up μ 8 18 (rw + a) v 8 18 (rw + p) = if p = a then v else μ 8 18 (rw + p) := by
  by_cases h : p = a
  · rw [if_pos h, h]; exact up_self
  · rw [if_neg h]; exact up_i (fun y => h (ar_add y))
theorem has_mn {τ μ : rS} {n : Nat} {x : Int32} (hC : RC τ μ n) : hasM τ 3 x ↔ mnB μ x := by
  have e3 := hC.1
  have e10 := hC.2.1
  have hn := nI_le12 hC.2.2.1
  clear hC
  show (0 ≤ x ∧ x < τ 3 7 0 ∧ x < 12) ↔ (0 ≤ x ∧ x < μ 8 10 0)
  rw [e3, e10]
  grind
theorem p_found {τ μ : rS} {x k : Int32} {q p n m c : Nat} (h1 : Rl2 τ μ q p n m c) : bI (foB τ x k) = bI (mfoB μ x k) ∧ ∃ q p n m c, Rl2 (if foB τ x k then sUnc τ 3 x k else τ) (if mfoB μ x k then sFound μ x k else μ) q p n m c := by
  obtain ⟨hA, hB, hC, hD, hE, hF, hG, hH⟩ := id h1
  have hmn : hasM τ 3 x ↔ mnB μ x := has_mn hC
  have hfo : foB τ x k ↔ mfoB μ x k := by
    refine ⟨fun z => ⟨hmn.mp z.1, z.2.1, ?_⟩, fun z => ⟨hmn.mpr z.1, z.2.1, ?_⟩⟩
    · rw [← (hC.2.2.2.2.1 x z.1.1 z.1.2.2).1]; exact z.2.2
    · have := hmn.mpr z.1
      rw [(hC.2.2.2.2.1 x this.1 this.2.2).1]; exact z.2.2
  refine ⟨bI_eq hfo, q, p, n, m, c, ?_⟩
  by_cases hf : foB τ x k
  · rw [if_pos hf, if_pos (hfo.mp hf)]
    unfold sUnc sFound
    rw [if_pos hf.1]
    have hq3 : ¬ q = 3 := by rcases hA.1 with z | z <;> omega
    have hx0 := hf.1.1
    have hx12 := hf.1.2.2
    have hk1 := hf.2.1
    have hk2 := (hfo.mp hf).2.2
    have a5 := hC.2.2.2.2.2 x hx0 hx12
    have a3 := hC.2.2.2.1 x hx0 hx12
    have a4 := hC.2.2.2.2.1 x hx0 hx12
    clear hfo hf hmn h1
    refine ⟨hA.tr ?_ ?_, hB.tr ?_ ?_ ?_ ?_ ?_ ?_, ?_, hD.tr ?_ ?_ ?_ ?_ ?_ ?_, hE.tr ?_ ?_ ?_ ?_ ?_ ?_ ?_ ?_, hF.tr ?_ ?_ ?_ ?_ ?_ ?_ ?_ ?_ ?_ ?_, hG.tr ?_ ?_ ?_ ?_ ?_ ?_ ?_, hH.tr ?_ ?_⟩
    case refine_9 =>
      refine ⟨?_, ?_, hC.2.2.1, ?_, ?_, ?_⟩
      · rw [← hC.1]; simp [up]
      · rw [← hC.2.1]; simp [up]
      · intro y h1 h2
        have := hC.2.2.2.1 y h1 h2
        clear hA hB hC hD hE hF hG hH
        simp only [up]
        grind
      · intro y h1 h2
        have := hC.2.2.2.2.1 y h1 h2
        clear hA hB hC hD hE hF hG hH
        simp only [up]
        grind
      · intro y h1 h2
        have h3 := hC.2.2.2.2.2 y h1 h2
        have h4 := neg_b hE.2.2.2.2.2.2.1 hE.2.2.2.2.2.2.2
        have e9 : yrs (up (up μ 8 12 x (μ 8 12 x - k)) 8 11 x (μ 8 11 x + k)) = yrs μ := by simp [yrs, up]
        rw [e9]
        clear e9
        generalize yrs μ = Y at *
        clear hA hB hC hD hE hF hG hH
        simp only [up]
        grind
    case refine_10 =>
      clear hA hB hC hD hE hF hG hH
      funext k i; simp only [up]; grind
    all_goals first | (funext i; simp [up]; done) | (funext k i; simp [up]; done)
  · rw [if_neg hf, if_neg (fun z => hf (hfo.mpr z))]
    exact h1
theorem b_found {σ : rS} {x k : Int32} (h : Rl σ) : both mX5_found mX6_found [.inl x, .inl k] σ := by
  obtain ⟨q, p, n, m, c, h⟩ := h
  refine both_pure h c_X5_found (fun μ e hR => c_X6_found e ?_) ?_ (fun μ hR => p_found hR) ?_
  · rw [hR.2.2.1.2.1]; exact ⟨nI_pos' (by have := hR.2.2.1.2.2.1; omega), nI_le12 hR.2.2.1.2.2.1⟩
  · split
    · unfold sUnc; split
      · first | (funext i; simp [up]; done) | (funext k i; simp [up]; done)
      · rfl
    · rfl
  · intro μ o ho
    split
    · unfold sFound; (funext k i; simp only [up]; grind)
    · rfl
-- the rank
theorem rk_eq {τ μ : rS} {n : Nat} {x : Int32} (hC : RC τ μ n) (hy : 0 ≤ yrs μ ∧ yrs μ ≤ 40) (hx : 0 ≤ x) (hx2 : x < nI n) : ∀ j, j ≤ n → rkF τ 3 x j = rkM μ x j := by
  have hn := nI_le12 hC.2.2.1
  have hb := neg_b hy.1 hy.2
  have hx3 : x < 12 := by clear hC; grind
  have gx : gM τ 3 0 x 0 = μ 8 11 x := by
    rw [show gM τ 3 0 x 0 = τ 3 0 x from if_pos ⟨hx, by rw [hC.1]; exact hx2, hx3⟩, (hC.2.2.2.1 x hx hx3).1, Int32.zero_add]
  have bx := hC.2.2.2.2.2 x hx hx3
  intro j
  induction j with
  | zero => intro _; rfl
  | succ j ih =>
    intro hj
    have f := nI_facts (j := j) 12 (by omega : j < n) hC.2.2.1 (by decide) rfl
    have hj3 : nI j < 12 := by clear hC; grind
    have gj : gM τ 3 0 (nI j) 0 = μ 8 11 (nI j) := by
      rw [show gM τ 3 0 (nI j) 0 = τ 3 0 (nI j) from if_pos ⟨f.1, by rw [hC.1]; exact f.2.1, hj3⟩, (hC.2.2.2.1 (nI j) f.1 hj3).1, Int32.zero_add]
    have bj := hC.2.2.2.2.2 (nI j) f.1 hj3
    have ih' := ih (by omega)
    rw [rkF, rkM, gx, gj, ih']
    clear ih ih' gx gj hC
    generalize μ 8 11 x = a at *
    generalize μ 8 11 (nI j) = b at *
    generalize yrs μ = Y at *
    have e : (0 < b - a ∨ b - a = 0 ∧ nI j < x) ↔ (a < b ∨ b = a ∧ nI j < x) := by grind
    simp only [e]
theorem fm_eq {τ μ : rS} {n : Nat} {k : Int32} (hC : RC τ μ n) (hy : 0 ≤ yrs μ ∧ yrs μ ≤ 40) : ∀ c j, j + c ≤ n → fmF τ 3 n k c j = fmM μ n k c j := by
  intro c
  induction c with
  | zero => intro j _; rfl
  | succ c ih =>
    intro j hj
    have f := nI_facts (j := j) 12 (by omega : j < n) hC.2.2.1 (by decide) rfl
    rw [fmF, fmM, rk_eq hC hy f.1 f.2.1 n (Nat.le_refl _), ih (j + 1) (by omega)]
theorem rk_rng {μ : rS} {x : Int32} (hx : 0 ≤ x) : ∀ j, j ≤ 12 → 0 ≤ rkM μ x j ∧ rkM μ x j ≤ nI j ∧ (x < nI j → rkM μ x j < nI j) := by
  intro j
  induction j with
  | zero => intro _; exact ⟨by decide, by decide, fun z => by rw [nI_0] at z; exfalso; grind⟩
  | succ j ih =>
    intro hj
    obtain ⟨i1, i2, i3⟩ := ih (by omega)
    have f := nI_facts (j := j) (n := 12) 12 (by omega) (Nat.le_refl _) (by decide) rfl
    have f3 : nI j < 12 := f.2.1
    rw [rkM, f.2.2.2]
    generalize rkM μ x j = r at *
    by_cases hxj : x = nI j
    · rw [if_neg (by rw [hxj]; clear i1 i2 i3 f; grind)]
      clear hxj
      grind
    · split
      · grind
      · grind
theorem fm_out {μ : rS} {n : Nat} {k : Int32} (hn : n ≤ 12) (hk : ¬ (0 ≤ k ∧ k < nI n)) : ∀ c j, j + c ≤ n → fmM μ n k c j = -1 := by
  intro c
  induction c with
  | zero => intro j _; rfl
  | succ c ih =>
    intro j hj
    have f := nI_facts (j := j) 12 (by omega : j < n) hn (by decide) rfl
    have r := rk_rng (μ := μ) (x := nI j) f.1 n hn
    rw [fmM, if_neg (fun z => hk (by rw [← z]; exact ⟨r.1, r.2.2 f.2.1⟩))]
    exact ih (j + 1) (by omega)
theorem b_richest {σ : rS} {k : Int32} (h : Rl σ) : both mX5_richest mX6_richest [.inl k] σ := by
  obtain ⟨q, p, n, m, c, h⟩ := h
  have h1 := joint0 (σ1 := σ) h rfl
  have hC := h1.2.2.1
  have hE := h1.2.2.2.2.1
  refine both_of (c_X5_richest hC.1 hC.2.2.1) (c_X6_richest rfl hC.2.1 hC.2.2.1) ?_ ⟨q, p, n, m, c, h1⟩ z2_fr
  rw [fm_eq hC ⟨hE.2.2.2.2.2.2.1, hE.2.2.2.2.2.2.2⟩ n 0 (by omega)]
  by_cases hk : 0 ≤ k ∧ k < nI n
  · rw [if_pos hk]
  · rw [if_neg hk, fm_out hC.2.2.1 hk n 0 (by omega)]
-- who bears
theorem beF_none {μ : rS} {x rw : Int32} : ∀ c j, (∀ i, j ≤ i → i < j + c → ¬ μ 8 18 (rw + nI i) = x) → beF μ x rw c j = -1 := by
  intro c
  induction c with
  | zero => intro j _; rfl
  | succ c ih =>
    intro j h
    rw [beF, if_neg (h j (Nat.le_refl _) (by omega))]
    exact ih (j + 1) (fun i h1 h2 => h i (by omega) (by omega))
theorem beF_some {μ : rS} {x rw : Int32} {i : Nat} : ∀ c j, j ≤ i → i < j + c → μ 8 18 (rw + nI i) = x → (∀ i2, j ≤ i2 → i2 < i → ¬ μ 8 18 (rw + nI i2) = x) → beF μ x rw c j = nI i := by
  intro c
  induction c with
  | zero => intro j h1 h2; omega
  | succ c ih =>
    intro j h1 h2 h3 h4
    rw [beF]
    by_cases hj : j = i
    · rw [hj, if_pos h3]
    · rw [if_neg (h4 j (Nat.le_refl _) (by omega))]
      exact ih (j + 1) (by omega) (by omega) h3 (fun i2 g1 g2 => h4 i2 (by omega) g2)
theorem be_R7 {τ μ : rS} {o n m : Nat} {rw x : Int32} (h : R7 τ μ o rw n m) (hm : m ≤ 24) (h0 : 0 ≤ x) (h1 : x < 12) : beF μ x rw m 0 = τ o 4 x := by
  have key : ∀ i, i < m → μ 8 18 (rw + nI i) = x → τ o 4 x = nI i := by
    intro i hi z
    have f := nI_facts (j := i) 24 hi hm (by decide) rfl
    have g := h.1 (nI i) f.1 f.2.1
    rw [z] at g
    rcases g.2 with g2 | g2
    · exfalso
      rw [g.1] at g2; rw [g2] at h0; exact absurd h0 (by decide)
    · have g3 := g2.2.2
      rw [g.1] at g3
      exact g3
  rcases h.2 x h0 h1 with hx | ⟨a, b, d⟩
  · rw [hx]
    refine beF_none m 0 (fun i _ hi z => ?_)
    have g3 := key i (by omega) z
    have f := nI_facts (j := i) 24 (by omega : i < m) hm (by decide) rfl
    rw [hx] at g3
    have := f.1
    rw [← g3] at this
    exact absurd this (by decide)
  · obtain ⟨i, hi, e⟩ := nI_of (x := τ o 4 x) (fun z => absurd a (Int32.not_le.mpr z))
    have him : i < m := by
      rw [e] at b
      exact (nI_ltI hi (by omega)).mp b
    rw [e]
    rw [e] at d
    have g := h.1 (nI i) (by rw [← e]; exact a) (by rw [← e]; exact b)
    refine beF_some m 0 (Nat.zero_le _) (by omega) (by rw [← g.1]; exact d) (fun i2 _ h2 z => ?_)
    have g3 := key i2 (by omega) z
    rw [e] at g3
    have := (nI_eq hi (by omega)).mp g3
    omega
-- what a place pays
theorem pb_eq {τ μ : rS} {q o n m : Nat} {rw p : Int32} (hD : RD τ μ q m) (h7 : R7 τ μ o rw n m) (hp : gBu τ q p = μ 8 7 p) : ∀ i, i ≤ m → paF τ o q p i = pbF μ p rw i := by
  intro i
  induction i with
  | zero => intro _; rfl
  | succ i ih =>
    intro hi
    have f := nI_facts (j := i) 24 (by omega : i < m) hD.2.2.1 (by decide) rfl
    have hi24 : nI i < 24 := by clear hD h7; grind
    have e1 : gBu τ q (nI i) = μ 8 7 (nI i) := by
      rw [show gBu τ q (nI i) = τ q 3 (nI i) from if_pos ⟨f.1, by rw [hD.1]; exact f.2.1, hi24⟩]
      exact (hD.2.2.2.1 (nI i) f.1 f.2.1).1
    have g := h7.1 (nI i) f.1 f.2.1
    have ih' := ih (by omega)
    have e2 : ¬ τ o 5 (nI i) = -1 ↔ 0 ≤ μ 8 18 (rw + nI i) := by
      clear ih ih' hD h7 e1 hp
      grind
    rw [paF, pbF, e1, hp, ih']
    simp only [e2]
theorem gBu_eq {τ μ : rS} {q m : Nat} {p : Int32} (hD : RD τ μ q m) (h0 : 0 ≤ p) (h1 : p < nI m) : gBu τ q p = μ 8 7 p := by
  have := nI_le24 hD.2.2.1
  rw [show gBu τ q p = τ q 3 p from if_pos ⟨h0, by rw [hD.1]; exact h1, by clear hD; grind⟩]
  exact (hD.2.2.2.1 p h0 h1).1
theorem part_eq {τ μ : rS} {q o n m j : Nat} {rw : Int32} (hD : RD τ μ q m) (h7 : R7 τ μ o rw n m) (hj : j < m) : gPart τ q (gBu τ q (nI j)) (paF τ o q (nI j) j) = paM μ (nI j) rw j := by
  have f := nI_facts (j := j) 24 hj hD.2.2.1 (by decide) rfl
  have e1 := gBu_eq hD f.1 f.2.1
  rw [pb_eq hD h7 e1 j (by omega), e1]
  obtain ⟨u1, u2, u3, u4⟩ := hD.2.2.2.1 (nI j) f.1 f.2.1
  obtain ⟨v1, v2, v3, v4⟩ := hD.2.2.2.2.1 _ u2 u3
  have v5 := v4 (by clear v4 hD h7; grind)
  have es : gSh τ q (μ 8 7 (nI j)) = μ 8 4 (μ 8 7 (nI j)) := by
    rw [← v1]; exact if_pos ⟨u2, u3⟩
  unfold gPart paM
  rw [es, v5.1, if_neg (by clear v4 v5 hD h7; grind)]
theorem b_part {σ : rS} {p : Int32} (h : Rl σ) : both mX5_part mX6_part [.inl p] σ := by
  obtain ⟨q, p', n, m, c, h⟩ := h
  have h1 := joint0 (σ1 := σ) h rfl
  have hS := h1.sh
  have hM := h1.mi
  obtain ⟨hA, hB, hC, hD, hE, hF, hG, hH⟩ := id h1
  refine both_of (c_X5_part hS.1 hS.2.1) (c_X6_part rfl hM) ?_ ⟨q, p', n, m, c, h1⟩ z2_fr
  have hm := nI_le24 hD.2.2.1
  have hhp : hasP σ q p ↔ (0 ≤ p ∧ p < nI m) := by
    show (0 ≤ p ∧ p < σ q 4 0 ∧ p < 24) ↔ _
    rw [hD.1]
    clear hA hB hC hD hE hF hG hH
    clear h1 h hS hM
    grind
  by_cases hp : 0 ≤ p ∧ p < nI m
  · have hpl : isPl p := ⟨hp.1, by clear hhp hA hB hC hD hE hF hG hH h1 h hS hM; grind⟩
    have eg : gB σ 3 p = σ 3 5 p := if_pos hpl
    by_cases hon : z2 σ 8 16 0 = 0
    · have e := (hG.2 hon).1.2 p hpl.1 hpl.2
      rw [if_neg (fun z => z.2 (by rw [eg]; exact e)), if_neg (fun z => z.1 hon)]
    · have h7 := (hG.1 hon).1
      have g := h7.1 p hp.1 hp.2
      have e0 : (0 : Int32) + p = p := Int32.zero_add
      rw [e0] at g
      have ec : (hasP σ q p ∧ ¬ gB σ 3 p = -1) ↔ (¬ z2 σ 8 16 0 = 0 ∧ 0 ≤ p ∧ p < nI m ∧ 0 ≤ z2 σ 8 18 p) := by
        rw [eg, hhp]
        clear hA hB hC hD hE hF hG hH
        clear h7 h1 h hS hM hhp eg
        grind
      by_cases hc : (¬ z2 σ 8 16 0 = 0 ∧ 0 ≤ p ∧ p < nI m ∧ 0 ≤ z2 σ 8 18 p)
      · rw [if_pos (ec.mpr hc), if_pos hc]
        obtain ⟨j, hj, ej⟩ := nI_of (x := p) (fun z => absurd hp.1 (Int32.not_le.mpr z))
        have hjm : j < m := (nI_ltI hj (by have := hD.2.2.1; omega)).mp (by rw [← ej]; exact hp.2)
        have ej2 : p.toNatClampNeg = j := by rw [ej]; exact nI_clamp hj
        rw [ej2, ej]
        exact part_eq hD h7 hjm
      · rw [if_neg (fun z => hc (ec.mp z)), if_neg hc]
  · rw [if_neg (fun z => hp (hhp.mp z.1)), if_neg (fun z => hp ⟨z.2.1, z.2.2.1⟩)]
theorem b_gain {σ : rS} {x y : Int32} (h : Rl σ) : both mX5_gain mX6_gain [.inl x, .inl y] σ := by
  obtain ⟨q, p', n, m, c, h⟩ := h
  have h1 := joint0 (σ1 := σ) h rfl
  have hS := h1.sh
  have hM := h1.mi
  obtain ⟨hA, hB, hC, hD, hE, hF, hG, hH⟩ := id h1
  have hm := nI_le24 hD.2.2.1
  have h4 : ∀ x, hasM σ 3 x → σ 3 4 x = -1 ∨ isPl (σ 3 4 x) := by
    intro x hx
    by_cases hon : z2 σ 8 16 0 = 0
    · exact Or.inl ((hG.2 hon).1.1 x hx.1 hx.2.2)
    · rcases (hG.1 hon).1.2 x hx.1 hx.2.2 with e | e
      · exact Or.inl e
      · refine Or.inr ⟨e.1, ?_⟩
        have := e.2.1
        clear hA hB hC hD hE hF hG hH
        clear h1 h hS hM
        grind
  refine both_of (c_X5_gain hS.1 hS.2.1 h4) (c_X6_gain rfl hM) ?_ ⟨q, p', n, m, c, h1⟩ z2_fr
  have hx := has_mn (x := x) hC
  have hy := has_mn (x := y) hC
  by_cases hon : z2 σ 8 16 0 = 0
  · rw [if_neg (fun z => z.2.2.2 ((if_pos z.1).trans ((hG.2 hon).1.1 x z.1.1 z.1.2.2))), if_neg (fun z => z.1 hon)]
  · have h7 := (hG.1 hon).1
    by_cases hxy : mnB (z2 σ) x ∧ mnB (z2 σ) y ∧ ¬ x = y
    · have hx1 := hx.mpr hxy.1
      have hy1 := hy.mpr hxy.2.1
      have eb := be_R7 h7 hD.2.2.1 hx1.1 hx1.2.2
      have e4 : gM σ 3 4 x (-1) = σ 3 4 x := if_pos hx1
      have r4 := h7.2 x hx1.1 hx1.2.2
      by_cases hb : σ 3 4 x = -1
      · rw [if_neg (fun z => z.2.2.2 (e4.trans hb)), if_neg (fun z => z.2.2.2.2 (by rw [eb, hb]; decide))]
      · have r5 := Or.resolve_left r4 hb
        rw [if_pos ⟨hx1, hy1, hxy.2.2, by rw [e4]; exact hb⟩, if_pos ⟨hon, hxy.1, hxy.2.1, hxy.2.2, by rw [eb]; exact fun z => absurd r5.1 (Int32.not_le.mpr z)⟩]
        obtain ⟨j, hj, ej⟩ := nI_of (x := σ 3 4 x) (fun z => absurd r5.1 (Int32.not_le.mpr z))
        have hjm : j < m := (nI_ltI hj (by have := hD.2.2.1; omega)).mp (by rw [← ej]; exact r5.2.1)
        have ed : gaD σ q x = mgD (z2 σ) x m := by
          unfold gaD mgD
          rw [eb, e4, ej, nI_clamp hj]
          exact part_eq hD h7 hjm
        have wx : woM σ x = woR (z2 σ) x := by
          show gM σ 3 0 x 0 + gM σ 3 1 x 0 = z2 σ 8 11 x + z2 σ 8 12 x
          rw [show gM σ 3 0 x 0 = σ 3 0 x from if_pos hx1, show gM σ 3 1 x 0 = σ 3 1 x from if_pos hx1, (hC.2.2.2.1 x hx1.1 hx1.2.2).1, (hC.2.2.2.2.1 x hx1.1 hx1.2.2).1, Int32.zero_add]
        have wy : woM σ y = woR (z2 σ) y := by
          show gM σ 3 0 y 0 + gM σ 3 1 y 0 = z2 σ 8 11 y + z2 σ 8 12 y
          rw [show gM σ 3 0 y 0 = σ 3 0 y from if_pos hy1, show gM σ 3 1 y 0 = σ 3 1 y from if_pos hy1, (hC.2.2.2.1 y hy1.1 hy1.2.2).1, (hC.2.2.2.2.1 y hy1.1 hy1.2.2).1, Int32.zero_add]
        rw [ed, wx, wy]
        generalize mgD (z2 σ) x m = D
        generalize woR (z2 σ) x = a
        generalize woR (z2 σ) y = b
        exact ar_gain D a b
    · rw [if_neg (fun z => hxy ⟨hx.mp z.1, hy.mp z.2.1, z.2.2.1⟩), if_neg (fun z => hxy ⟨z.2.1, z.2.2.1, z.2.2.2.1⟩)]
