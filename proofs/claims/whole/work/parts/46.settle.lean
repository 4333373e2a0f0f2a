-- settling, on both sides
theorem R3_pay {S R : rS} {o : Nat} {cn M D year r x : Int32} (c1 : S o 0 x = R 8 11 (cn + x) ∧ S o 2 x = R 8 13 (cn + x)) (c2 : S o 0 M = R 8 11 (cn + M) ∧ S o 2 M = R 8 13 (cn + M)) : up (up (up S o 0 M (S o 0 M - D)) o 3 M (S o 3 M + 1)) o 2 M (year + 1 + r) o 0 x = up (up R 8 11 (cn + M) (R 8 11 (cn + M) - D)) 8 13 (cn + M) (year + r + 1) 8 11 (cn + x) ∧ up (up (up S o 0 M (S o 0 M - D)) o 3 M (S o 3 M + 1)) o 2 M (year + 1 + r) o 2 x = up (up R 8 11 (cn + M) (R 8 11 (cn + M) - D)) 8 13 (cn + M) (year + r + 1) 8 13 (cn + x) := by
  by_cases h : x = M
  · subst h
    simp only [up]
    grind
  · have h2 : ¬ cn + x = cn + M := fun y => h (ar_add y)
    simp only [up]
    grind
theorem settle_eq {τ μ : rS} {o q n m : Nat} {cn rw year : Int32} (hs : τ o 7 0 = nI n) (hn : n ≤ 12) (h3 : R3 τ μ o cn) (h7 : R7 τ μ o rw n m) (hD : RD τ μ q m) (hqo : ¬ q = o) : ∀ j, j ≤ m → (seF o q year τ j).1 = (enG cn rw year μ j).1 ∧ R3 (seF o q year τ j).2 (enG cn rw year μ j).2 o cn := by
  have hm := hD.2.2.1
  intro j
  induction j with
  | zero => intro _; exact ⟨rfl, h3⟩
  | succ j ih =>
    intro hj
    obtain ⟨i1, i3⟩ := ih (by omega)
    have f := nI_facts (j := j) 24 (by omega : j < m) hm (by decide) rfl
    have hj24 : nI j < 24 := ar_lt f.2.1 (nI_le24 hm)
    show (seStep o q year j (seF o q year τ j)).1 = (enStep cn rw year j (enG cn rw year μ j)).1 ∧ R3 (seStep o q year j (seF o q year τ j)).2 (enStep cn rw year j (enG cn rw year μ j)).2 o cn
    have fs : ∀ k, ¬ (k = 0 ∨ k = 2 ∨ k = 3) → (seF o q year τ j).2 o k = τ o k := fun k hk => by
      funext i; exact seF_fr (fun z => hk z.2) j
    have fq : (seF o q year τ j).2 q = τ q := by
      funext k i; exact seF_fr (fun z => hqo z.1) j
    have fr : ∀ k, ¬ (k = 11 ∨ k = 13) → (enG cn rw year μ j).2 8 k = μ 8 k := fun k hk => by
      funext i; exact enG_fr (fun z => hk z.2) j
    generalize seF o q year τ j = S at *
    generalize enG cn rw year μ j = R at *
    have g7 : R7 S.2 R.2 o rw n m := h7.tr (fs 4 (by decide)) (fs 5 (by decide)) (fr 18 (by decide))
    have gD : RD S.2 R.2 q m := hD.tr fq (fr 3 (by decide)) (fr 4 (by decide)) (fr 5 (by decide)) (fr 6 (by decide)) (fr 7 (by decide))
    have ep : seDue o q j S.2 = paM R.2 (nI j) rw j := part_eq (j := j) gD g7 (by omega)
    have g := g7.1 (nI j) f.1 f.2.1
    have egB : gB S.2 o (nI j) = S.2 o 5 (nI j) := if_pos ⟨f.1, hj24⟩
    have e0 : gSet S.2 q 0 = R.2 8 5 0 := (if_pos (by decide)).trans (gD.2.2.2.2.2 0 (by decide) (by decide))
    have e7 : S.2 o 7 0 = nI n := by rw [fs 7 (by decide)]; exact hs
    unfold seStep enStep
    rw [egB, ← g.1, ep, e0]
    have g2 := g.2
    clear ep egB e0 g7 gD g fs fq fr ih h7 hD h3
    generalize paM R.2 (nI j) rw j = D
    generalize S.2 o 5 (nI j) = M at *
    rcases g2 with z | ⟨z1, z2, z3⟩
    · rw [if_neg (fun y => by have := y.1; rw [z] at this; exact absurd this (by decide)), if_pos (by rw [z]; decide)]
      exact ⟨i1, i3⟩
    · have hM12 : M < 12 := ar_lt z2 (nI_le12 hn)
      have hMM : hasM S.2 o M := ⟨z1, by rw [e7]; exact z2, hM12⟩
      rw [if_pos hMM, if_neg (ar_n z1).2]
      refine ⟨?_, fun x a b => ?_⟩
      · show S.1 + D = R.1 + D
        rw [i1]
      · exact R3_pay (i3 x a b) (i3 M z1 hM12)
theorem ys_up {S R : rS} {D y M x : Int32} (c1 : S 3 3 x = R 8 14 x) (c2 : S 3 3 M = R 8 14 M) : up (up (up S 3 0 M D) 3 3 M (S 3 3 M + 1)) 3 2 M y 3 3 x = up R 8 14 M (R 8 14 M + 1) 8 14 x := by
  simp only [up]
  grind
theorem ys_eq {τ μ : rS} {q n m : Nat} {year : Int32} (hs : τ 3 7 0 = nI n) (hn : n ≤ 12) (hm : m ≤ 24) (h7 : R7 τ μ 3 0 n m) (h4 : ∀ x, 0 ≤ x → x < 12 → τ 3 3 x = μ 8 14 x) : ∀ j, j ≤ m → ∀ x, 0 ≤ x → x < 12 → (seF 3 q year τ j).2 3 3 x = itS ysStep j μ 8 14 x := by
  intro j
  induction j with
  | zero => intro _; exact h4
  | succ j ih =>
    intro hj
    have ih := ih (by omega)
    have f := nI_facts (j := j) 24 (by omega : j < m) hm (by decide) rfl
    have hj24 : nI j < 24 := ar_lt f.2.1 (nI_le24 hm)
    intro x a b
    show (seStep 3 q year j (seF 3 q year τ j)).2 3 3 x = ysStep j (itS ysStep j μ) 8 14 x
    have fs : ∀ k, ¬ (k = 0 ∨ k = 2 ∨ k = 3) → (seF 3 q year τ j).2 3 k = τ 3 k := fun k hk => by
      funext i; exact seF_fr (fun z => hk z.2) j
    have fr : itS ysStep j μ 8 18 = μ 8 18 := by
      funext i; exact ys_fr (fun z => absurd z.2 (by decide)) j
    generalize seF 3 q year τ j = S at *
    generalize itS ysStep j μ = R at *
    have g7 : R7 S.2 R 3 0 n m := h7.tr (fs 4 (by decide)) (fs 5 (by decide)) fr
    have g := g7.1 (nI j) f.1 f.2.1
    rw [Int32.zero_add] at g
    have egB : gB S.2 3 (nI j) = S.2 3 5 (nI j) := if_pos ⟨f.1, hj24⟩
    have e7 : S.2 3 7 0 = nI n := by rw [fs 7 (by decide)]; exact hs
    unfold seStep ysStep
    rw [egB, ← g.1]
    have g2 := g.2
    clear egB g7 g fs fr h7
    generalize S.2 3 5 (nI j) = M at *
    rcases g2 with z | ⟨z1, z2, z3⟩
    · rw [if_neg (fun y => by have := y.1; rw [z] at this; exact absurd this (by decide)), if_neg (by rw [z]; decide)]
      exact ih x a b
    · have hM12 : M < 12 := ar_lt z2 (nI_le12 hn)
      have hMM : hasM S.2 3 M := ⟨z1, by rw [e7]; exact z2, hM12⟩
      rw [if_pos hMM, if_pos z1]
      exact ys_up (D := S.2 3 0 M - seDue 3 q j S.2) (y := year + 1 + gSet S.2 q 0) (ih x a b) (ih M z1 hM12)
-- how much is paid
theorem dv_rng {a b : Int32} (ha : 1 ≤ a) (ha2 : a ≤ 10000) (hb : 1 ≤ b) : 0 ≤ a / b ∧ a / b ≤ a := by
  have h1 : (1 : Int) ≤ a.toInt := Int32.le_iff_toInt_le.mp ha
  have h2 : (1 : Int) ≤ b.toInt := Int32.le_iff_toInt_le.mp hb
  have hne : a ≠ Int32.minValue := fun z => by rw [z] at ha; exact absurd ha (by decide)
  have e := Int32.toInt_div_of_ne_left a b hne
  refine ⟨Int32.le_iff_toInt_le.mpr ?_, Int32.le_iff_toInt_le.mpr ?_⟩
  · rw [e]; exact Int.tdiv_nonneg (by omega) (by omega)
  · rw [e]; exact Int.tdiv_le_self _ (by omega)
theorem ar_pay {d : Int32} {p : Prop} [Decidable p] (h : 0 ≤ d ∧ d ≤ 10000) : 0 ≤ d + (if p then 1 else 0) ∧ d + (if p then 1 else 0) ≤ 10001 := by
  split <;> grind
theorem pay_rng {τ μ : rS} {q m j : Nat} {rw : Int32} (hD : RD τ μ q m) (hj : j < m) : 0 ≤ paM μ (nI j) rw j ∧ paM μ (nI j) rw j ≤ 10001 := by
  have f := nI_facts (j := j) 24 hj hD.2.2.1 (by decide) rfl
  obtain ⟨u1, u2, u3, u4⟩ := hD.2.2.2.1 (nI j) f.1 f.2.1
  obtain ⟨v1, v2, v3, v4⟩ := hD.2.2.2.2.1 _ u2 u3
  have v5 := v4 (Int32.lt_of_lt_of_le (by decide) u4)
  have d := dv_rng v5.2.1 v5.2.2 u4
  exact ar_pay ⟨d.1, Int32.le_trans d.2 v5.2.2⟩
theorem ar_w0 : ∀ i, i < 24 → 0 ≤ (10001 : Int32) * nI i ∧ (10001 : Int32) * nI i ≤ 230023 ∧ (10001 : Int32) * (nI i + 1) = 10001 * nI i + 10001 := by decide +kernel
theorem ar_w {j : Int32} (h0 : 0 ≤ j) (h1 : j < 24) : 0 ≤ 10001 * j ∧ 10001 * j ≤ 230023 ∧ 10001 * (j + 1) = 10001 * j + 10001 := by
  obtain ⟨i, hi, rfl⟩ := nI24 h0 h1
  exact ar_w0 i hi
theorem tI_sub {a b : Int32} (h : -2147483648 ≤ a.toInt - b.toInt) (h2 : a.toInt - b.toInt < 2147483648) : (a - b).toInt = a.toInt - b.toInt := by
  rw [Int32.toInt_sub]
  exact Int.bmod_eq_of_le_mul_two (by omega) (by omega)
theorem tI_add {a b : Int32} (h : -2147483648 ≤ a.toInt + b.toInt) (h2 : a.toInt + b.toInt < 2147483648) : (a + b).toInt = a.toInt + b.toInt := by
  rw [Int32.toInt_add]
  exact Int.bmod_eq_of_le_mul_two (by omega) (by omega)
theorem tI_le {a b : Int32} {x y : Int} (h : a ≤ b) (ha : a.toInt = x) (hb : b.toInt = y) : x ≤ y := by
  rw [← ha, ← hb]; exact Int32.le_iff_toInt_le.mp h
theorem ar_bd0 {a v w D : Int32} (h1 : -10000000 ≤ a) (h2 : a ≤ 200000) (h3 : v ≤ a) (h4 : a - w ≤ v) (w0 : 0 ≤ w) (w1 : w ≤ 230023) (d0 : 0 ≤ D) (d1 : D ≤ 10001) : v - D ≤ a ∧ a - (w + 10001) ≤ v - D ∧ a - (w + 10001) ≤ v := by
  have h1 := tI_le h1 (x := -10000000) rfl rfl
  have h2 := tI_le h2 (y := 200000) rfl rfl
  have h3 := tI_le h3 rfl rfl
  have w0 := tI_le w0 (x := 0) rfl rfl
  have w1 := tI_le w1 (y := 230023) rfl rfl
  have d0 := tI_le d0 (x := 0) rfl rfl
  have d1 := tI_le d1 (y := 10001) rfl rfl
  have e1 : (a - w).toInt = a.toInt - w.toInt := tI_sub (by omega) (by omega)
  have h4 := tI_le h4 e1 rfl
  have e2 : (v - D).toInt = v.toInt - D.toInt := tI_sub (by omega) (by omega)
  have e3 : (w + 10001).toInt = w.toInt + 10001 := tI_add (b := 10001) (by show -2147483648 ≤ w.toInt + 10001; omega) (by show w.toInt + 10001 < 2147483648; omega)
  have e4 : (a - (w + 10001)).toInt = a.toInt - (w + 10001).toInt := tI_sub (by omega) (by omega)
  rw [e3] at e4
  refine ⟨Int32.le_iff_toInt_le.mpr ?_, Int32.le_iff_toInt_le.mpr ?_, Int32.le_iff_toInt_le.mpr ?_⟩
  · rw [e2]; omega
  · rw [e4, e2]; omega
  · rw [e4]; omega
theorem ar_bd {a v j D : Int32} (h1 : -10000000 ≤ a) (h2 : a ≤ 200000) (h3 : v ≤ a) (h4 : a - 10001 * j ≤ v) (hj : 0 ≤ j) (hj2 : j < 24) (hD : 0 ≤ D ∧ D ≤ 10001) : (v - D ≤ a ∧ a - 10001 * (j + 1) ≤ v - D) ∧ (v ≤ a ∧ a - 10001 * (j + 1) ≤ v) := by
  obtain ⟨w0, w1, w2⟩ := ar_w hj hj2
  rw [w2]
  have z := ar_bd0 h1 h2 h3 h4 w0 w1 hD.1 hD.2
  exact ⟨⟨z.1, z.2.1⟩, h3, z.2.2⟩
theorem en_up {R : rS} {M D y x : Int32} : up (up R 8 11 M (R 8 11 M - D)) 8 13 M y 8 11 x = if x = M then R 8 11 x - D else R 8 11 x := by
  simp only [up]
  grind
theorem en_bd {τ μ : rS} {q n m : Nat} {year : Int32} (hD : RD τ μ q m) (hb : ∀ x, 0 ≤ x → x < 12 → -10000000 ≤ μ 8 11 x ∧ μ 8 11 x ≤ 200000) : ∀ j, j ≤ m → ∀ x, 0 ≤ x → x < 12 → (enG 0 0 year μ j).2 8 11 x ≤ μ 8 11 x ∧ μ 8 11 x - 10001 * nI j ≤ (enG 0 0 year μ j).2 8 11 x := by
  intro j
  induction j with
  | zero =>
    intro _ x a b
    refine ⟨Int32.le_refl _, ?_⟩
    show μ 8 11 x - 10001 * 0 ≤ μ 8 11 x
    rw [show (10001 : Int32) * 0 = 0 from by decide, Int32.sub_zero]
    exact Int32.le_refl _
  | succ j ih =>
    intro hj
    have ih := ih (by omega)
    have f := nI_facts (j := j) 24 (by omega : j < m) hD.2.2.1 (by decide) rfl
    have hj24 : nI j < 24 := ar_lt f.2.1 (nI_le24 hD.2.2.1)
    intro x a b
    show (enStep 0 0 year j (enG 0 0 year μ j)).2 8 11 x ≤ μ 8 11 x ∧ μ 8 11 x - 10001 * nI (j + 1) ≤ (enStep 0 0 year j (enG 0 0 year μ j)).2 8 11 x
    have fr : ∀ k, ¬ (k = 11 ∨ k = 13) → (enG 0 0 year μ j).2 8 k = μ 8 k := fun k hk => by
      funext i; exact enG_fr (fun z => hk z.2) j
    generalize enG 0 0 year μ j = R at *
    have gD : RD τ R.2 q m := hD.tr rfl (fr 3 (by decide)) (fr 4 (by decide)) (fr 5 (by decide)) (fr 6 (by decide)) (fr 7 (by decide))
    have pr := pay_rng (rw := 0) (j := j) gD (by omega)
    have i := ih x a b
    have B := hb x a b
    rw [f.2.2.2]
    unfold enStep
    generalize paM R.2 (nI j) 0 j = D at *
    have Z := ar_bd B.1 B.2 i.1 i.2 f.1 hj24 pr
    by_cases hM : R.2 8 18 (0 + nI j) < 0
    · rw [if_pos hM]
      exact Z.2
    · rw [if_neg hM]
      simp only [Int32.zero_add]
      rw [en_up]
      split
      · exact Z.1
      · exact Z.2
