-- steps of both sides: challenge, answer
theorem fit_eq {τ μ : rS} {o q n m : Nat} {cn rw year x : Int32} (h3 : R3 τ μ o cn) (h7 : R7 τ μ o rw n m) (hm : m ≤ 24) (h6 : R6s τ μ q) (hx : hasM τ o x) : fitB τ o q x year ↔ mfB μ x cn rw year m := by
  have e5 : gSet τ q 1 = μ 8 5 1 := by
    rw [show gSet τ q 1 = τ q 2 1 from if_pos (by decide)]
    exact h6 1 (by decide) (by decide)
  have c3 := h3 x hx.1 hx.2.2
  have eb := be_R7 h7 hm hx.1 hx.2.2
  have r4 := h7.2 x hx.1 hx.2.2
  show (hasM τ o x ∧ gSet τ q 1 ≤ τ o 0 x ∧ τ o 2 x ≤ year ∧ τ o 4 x = -1) ↔ (μ 8 5 1 ≤ μ 8 11 (cn + x) ∧ μ 8 13 (cn + x) ≤ year ∧ beF μ x rw m 0 < 0)
  rw [eb, e5, c3.1, c3.2, (ar_m1 (m := nI m) (r4.imp id (fun z => ⟨z.1, z.2.1⟩))).1]
  exact ⟨fun z => z.2, fun z => ⟨hx, z⟩⟩
theorem en_op {τ μ : rS} {n c : Nat} {x y : Int32} (h : RF τ μ n c) : ∀ d j, j + d ≤ c → (opB μ x y d j = true ↔ (enF τ 5 x d j = true ∨ enF τ 5 y d j = true)) := by
  intro d
  induction d with
  | zero => intro j _; exact ⟨fun z => absurd z Bool.false_ne_true, fun z => z.elim (fun z => absurd z Bool.false_ne_true) (fun z => absurd z Bool.false_ne_true)⟩
  | succ d ih =>
    intro j hj
    have ih := ih (j + 1) (by omega)
    have f := nI_facts (j := j) 40 (by omega : j < c) h.2.2.1 (by decide) rfl
    obtain ⟨r1, r2⟩ := run_op h f.1 f.2.1
    obtain ⟨a0, a1, -⟩ := h.2.2.2 (nI j) f.1 f.2.1
    rw [opB, enF, enF, Bool.or_eq_true, Bool.or_eq_true, Bool.or_eq_true, decide_eq_true_iff, decide_eq_true_iff, decide_eq_true_iff, ih, r1, ← r2, a0, a1]
    generalize opn τ (nI j) = O
    generalize (enF τ 5 x d (j + 1) = true) = A
    generalize (enF τ 5 y d (j + 1) = true) = B
    generalize (μ 8 22 (nI j) = x) = X1
    generalize (μ 8 22 (nI j) = y) = Y1
    generalize (μ 8 23 (nI j) = x) = X2
    generalize (μ 8 23 (nI j) = y) = Y2
    clear ih r1 r2 a0 a1 f h
    grind
theorem en_no {τ μ : rS} {n c : Nat} {x : Int32} (h : RF τ μ n c) : ∀ d j, j + d ≤ c → ¬ enF τ 5 x d j = true → ∀ i, j ≤ i → i < j + d → opn τ (nI i) → ¬ τ 5 0 (nI i) = x ∧ ¬ τ 5 1 (nI i) = x := by
  intro d
  induction d with
  | zero => intro j _ _ i h1 h2; omega
  | succ d ih =>
    intro j hj hE i h1 h2 ho
    rw [enF, Bool.or_eq_true, decide_eq_true_iff] at hE
    by_cases hij : i = j
    · have f := nI_facts (j := j) 40 (by omega : j < c) h.2.2.1 (by decide) rfl
      obtain ⟨r1, r2⟩ := run_op h f.1 f.2.1
      rw [hij] at ho ⊢
      exact ⟨fun z => hE (Or.inl ⟨r1.mpr ho, Or.inl z⟩), fun z => hE (Or.inl ⟨r1.mpr ho, Or.inr z⟩)⟩
    · exact ih (j + 1) (by omega) (fun z => hE (Or.inr z)) i (by omega) (by omega) ho
theorem sEnt_5 {τ : rS} {x y P d e C : Int32} (h : τ 5 8 0 = C) (h0 : 0 ≤ C ∧ C < 40) (E : rS) (eE : E = sEnt τ 5 x y P d e) : (E 5 8 0 = C + 1) ∧ (∀ i, E 5 0 i = if i = C then x else τ 5 0 i) ∧ (∀ i, E 5 1 i = if i = C then y else τ 5 1 i) ∧ (∀ i, E 5 2 i = if i = C then P else τ 5 2 i) ∧ (∀ i, E 5 3 i = if i = C then d else τ 5 3 i) ∧ (∀ i, E 5 4 i = if i = C then 0 else τ 5 4 i) ∧ (∀ i, E 5 5 i = if i = C then d + e else τ 5 5 i) ∧ (∀ i, E 5 6 i = if i = C then 0 else τ 5 6 i) ∧ (∀ i, E 5 7 i = if i = C then 0 else τ 5 7 i) ∧ (∀ o', ¬ o' = 5 → E o' = τ o') := by
  unfold sEnt at eE
  rw [h, if_pos h0] at eE
  subst eE
  refine ⟨?_, fun i => ?_, fun i => ?_, fun i => ?_, fun i => ?_, fun i => ?_, fun i => ?_, fun i => ?_, fun i => ?_, fun o' ho => ?_⟩
  · simp [up]
  · simp [up]
  · simp [up]
  · simp [up]
  · simp [up]
  · simp [up]
  · simp [up]
  · simp [up]
  · simp [up]
  · funext k i; simp [up, ho]
theorem sCha_8 {μ : rS} {x y P C : Int32} (h : μ 8 21 0 = C) (M : rS) (eM : M = sCha μ x y P) : (M 8 21 0 = C + 1) ∧ (∀ i, M 8 22 i = if i = C then x else μ 8 22 i) ∧ (∀ i, M 8 23 i = if i = C then y else μ 8 23 i) ∧ (∀ i, M 8 24 i = if i = C then P else μ 8 24 i) ∧ (∀ i, M 8 25 i = if i = C then μ 8 17 0 else μ 8 25 i) ∧ (∀ i, M 8 26 i = if i = C then 0 else μ 8 26 i) ∧ (∀ i, M 8 27 i = if i = C then μ 8 17 0 + μ 8 5 2 else μ 8 27 i) ∧ (∀ i, M 8 28 i = if i = C then 0 else μ 8 28 i) ∧ (∀ i, M 8 29 i = if i = C then 0 else μ 8 29 i) ∧ (∀ k', ¬ (21 ≤ k' ∧ k' ≤ 29) → M 8 k' = μ 8 k') := by
  unfold sCha at eM
  rw [h] at eM
  subst eM
  refine ⟨?_, fun i => ?_, fun i => ?_, fun i => ?_, fun i => ?_, fun i => ?_, fun i => ?_, fun i => ?_, fun i => ?_, fun k' hk => ?_⟩
  · simp [up]
  · simp [up]
  · simp [up]
  · simp [up]
  · simp [up]
  · simp [up]
  · simp [up]
  · simp [up]
  · simp [up]
  · funext i
    rw [up_k (by omega), up_k (by omega), up_k (by omega), up_k (by omega), up_k (by omega), up_k (by omega), up_k (by omega), up_k (by omega), up_k (by omega)]
/-- one more challenge -/
theorem JR_new {τ μ E M : rS} {n m c : Nat} {x y P d e : Int32} (h : JR τ μ n m c) (hc : c < 40) (hx : 0 ≤ x ∧ x < nI n) (hy : 0 ≤ y ∧ y < nI n) (hP : 0 ≤ P ∧ P < nI m) (hm : nI m ≤ 24) (eE : E = sEnt τ 5 x y P d e) (eM : M = sCha μ x y P) (ed : d = μ 8 17 0) (ee : e = μ 8 5 2) (o1 : τ 3 4 x = P) (o2 : τ 3 5 P = x) (o3 : τ 3 4 y = -1) (nx : ∀ i, 0 ≤ i → i < nI c → opn τ i → ¬ τ 5 0 i = x ∧ ¬ τ 5 1 i = x) (ny : ∀ i, 0 ≤ i → i < nI c → opn τ i → ¬ τ 5 0 i = y ∧ ¬ τ 5 1 i = y) : JR E M n m (c + 1) := by
  obtain ⟨h1, h2, h3, h4, h5⟩ := h
  have f := nI_facts (j := c) (n := 40) 40 hc (Nat.le_refl _) (by decide) rfl
  have fc : nI c < 40 := f.2.1
  obtain ⟨s8, s0, s1, s2, s3, s4, s5, s6, s7, so⟩ := sEnt_5 h1.1 ⟨f.1, fc⟩ E eE
  obtain ⟨m1, m2, m3, m4, m5, m6, m7, m8, m9, mo⟩ := sCha_8 h1.2.1 M eM
  subst ed ee
  have lo : ∀ i : Int32, i < nI (c + 1) → ¬ i = nI c → i < nI c := fun i a b => ar_s2 f.1 fc (by rw [← f.2.2.2]; exact a) b
  have E3 : E 3 = τ 3 := so 3 (by decide)
  have op_lo : ∀ i, ¬ i = nI c → opn E i → opn τ i := fun i hi o => by unfold opn at o ⊢; rw [s4, if_neg hi] at o; exact o
  refine ⟨⟨by rw [s8, f.2.2.2], by rw [m1, f.2.2.2], by omega, fun i a b => ?_⟩, ?_, ?_, ?_, ?_⟩
  · rw [s0, s1, s2, s3, s4, s5, s6, s7, m2, m3, m4, m5, m6, m7, m8, m9]
    by_cases hi : i = nI c
    · simp only [if_pos hi]
      exact ⟨trivial, trivial, trivial, trivial, trivial, trivial, trivial, trivial, hx.1, hx.2, hy.1, hy.2, hP.1, ar_lt hP.2 hm, by decide⟩
    · simp only [if_neg hi]
      exact h1.2.2.2 i a (lo i b hi)
  · exact h2.tr (by rw [E3]) (by rw [E3]) (mo 18 (by decide))
  · intro a b
    rw [E3, mo 19 (by decide)]
    exact h3 a b
  · intro k a b o
    unfold opO
    rw [E3, s0, s1, s2]
    by_cases hi : k = nI c
    · simp only [if_pos hi]
      exact ⟨o1, hP.1, hP.2, o2, o3⟩
    · simp only [if_neg hi]
      exact h4 k a (lo k b hi) (op_lo k hi o)
  · intro k l a b a2 b2 o o' ne
    unfold apt
    rw [s0, s0, s1, s1]
    by_cases hk : k = nI c
    · have hl : ¬ l = nI c := fun z => ne (hk.trans z.symm)
      simp only [if_pos hk, if_neg hl]
      have nx' := nx l a2 (lo l b2 hl) (op_lo l hl o')
      have ny' := ny l a2 (lo l b2 hl) (op_lo l hl o')
      exact ⟨fun z => nx'.1 z.symm, fun z => nx'.2 z.symm, fun z => ny'.1 z.symm, fun z => ny'.2 z.symm⟩
    · by_cases hl : l = nI c
      · simp only [if_pos hl, if_neg hk]
        have nx' := nx k a (lo k b hk) (op_lo k hk o)
        have ny' := ny k a (lo k b hk) (op_lo k hk o)
        exact ⟨nx'.1, ny'.1, nx'.2, ny'.2⟩
      · simp only [if_neg hl, if_neg hk]
        exact h5 k l a (lo k b hk) a2 (lo l b2 hl) (op_lo k hk o) (op_lo l hl o') ne
theorem nI_lt40 {c : Nat} (hc : c ≤ 40) : (nI c < 40 ↔ c < 40) ∧ (nI c = 40 ↔ c = 40) := by
  rw [show (40 : Int32) = nI 40 from rfl, nI_ltI (by omega) (by omega), nI_eq (by omega) (by omega)]
  exact ⟨Iff.rfl, Iff.rfl⟩
theorem p_challenge {τ μ : rS} {x y : Int32} {q p n m c : Nat} (h1 : Rl2 τ μ q p n m c) : (if chB τ q c x y then (if borB τ 3 y (gM τ 3 4 x (-1)) then -3 else if 0 ≤ τ 5 8 0 ∧ τ 5 8 0 < 40 then τ 5 8 0 else -1) else -1) = (if mchB μ x y m c then (if ¬ μ 8 19 (24 * y + beF μ x 0 m 0) = 0 then -3 else μ 8 21 0) else -1) ∧ ∃ q' p' n' m' c', Rl2 (if chB τ q c x y ∧ ¬ borB τ 3 y (gM τ 3 4 x (-1)) then sEnt τ 5 x y (gM τ 3 4 x (-1)) (τ 0 9 0) (gSet τ q 2) else τ) (if mchB μ x y m c ∧ μ 8 19 (24 * y + beF μ x 0 m 0) = 0 then sCha μ x y (beF μ x 0 m 0) else μ) q' p' n' m' c' := by
  obtain ⟨hA, hB, hC, hD, hE, hF, hG, hH⟩ := id h1
  have hx := has_mn (x := x) hC
  have hy := has_mn (x := y) hC
  have c40 := nI_lt40 hF.2.2.1
  have e58 := hF.1
  have e21 := hF.2.1
  by_cases hp : ¬ μ 8 16 0 = 0 ∧ mnB μ x ∧ mnB μ y
  · obtain ⟨hon, hmx, hmy⟩ := hp
    have h7 := (hG.1 hon).1
    have hx1 := hx.mpr hmx
    have hy1 := hy.mpr hmy
    have eb := be_R7 h7 hD.2.2.1 hx1.1 hx1.2.2
    have e4 : gM τ 3 4 x (-1) = τ 3 4 x := if_pos hx1
    have r4 := h7.2 x hx1.1 hx1.2.2
    have hfit := fit_eq (year := μ 8 15 0 - 1) hC.2.2.2.1 h7 hD.2.2.1 hD.2.2.2.2.2 hy1
    have hop := en_op (x := x) (y := y) hF c 0 (by omega)
    have hcc : chB τ q c x y ↔ mchB μ x y m c := by
      show (¬ τ 0 7 0 = 0 ∧ τ 5 8 0 < 40 ∧ hasM τ 3 x ∧ hasM τ 3 y ∧ ¬ gM τ 3 4 x (-1) = -1 ∧ (¬ τ 0 7 0 = 0 ∧ fitB τ 3 q y (τ 0 8 0 - 1)) ∧ ¬ enF τ 5 x c 0 = true ∧ ¬ enF τ 5 y c 0 = true) ↔ (¬ μ 8 16 0 = 0 ∧ mnB μ x ∧ mnB μ y ∧ ¬ μ 8 21 0 = 40 ∧ ¬ beF μ x 0 m 0 < 0 ∧ mfB μ y 0 0 (μ 8 15 0 - 1) m ∧ ¬ opB μ x y c 0 = true)
      rw [hE.1, hE.2.1, e58, e21, e4, eb, hfit, hop, hx, hy, c40.1, c40.2, (ar_m1 (m := nI m) (r4.imp id (fun z => ⟨z.1, z.2.1⟩))).1]
      have c4 := hF.2.2.1
      constructor
      · rintro ⟨a1, a2, a3, a4, a5, a6, a7, a8⟩
        exact ⟨a1, a3, a4, by omega, a5, a6.2, fun z => z.elim a7 a8⟩
      · rintro ⟨a1, a3, a4, a2, a5, a6, a7⟩
        exact ⟨a1, by omega, a3, a4, a5, ⟨a1, a6⟩, fun z => a7 (Or.inl z), fun z => a7 (Or.inr z)⟩
    by_cases hc : mchB μ x y m c
    · have hcT := hcc.mpr hc
      have hP : 0 ≤ τ 3 4 x ∧ τ 3 4 x < nI m ∧ τ 3 5 (τ 3 4 x) = x := by
        rcases r4 with z | z
        · exact absurd (e4.trans z) hcT.2.2.2.2.1
        · exact z
      have hP24 : τ 3 4 x < 24 := ar_lt hP.2.1 (nI_le24 hD.2.2.1)
      have r8 := (hG.1 hon).2.1 y (τ 3 4 x) hy1.1 hy1.2.2 hP.1 hP.2.1
      have hbor : borB τ 3 y (gM τ 3 4 x (-1)) ↔ ¬ μ 8 19 (24 * y + beF μ x 0 m 0) = 0 := by
        rw [e4, eb, ← r8]
        exact ⟨fun z => z.2.2, fun z => ⟨hy1, ⟨hP.1, hP24⟩, z⟩⟩
      rw [if_pos hc, if_pos hcT]
      by_cases hb : μ 8 19 (24 * y + beF μ x 0 m 0) = 0
      · have nb : ¬ borB τ 3 y (gM τ 3 4 x (-1)) := fun z => (hbor.mp z) hb
        have nn : ¬ ¬ μ 8 19 (24 * y + beF μ x 0 m 0) = 0 := fun z => z hb
        have p1 : chB τ q c x y ∧ ¬ borB τ 3 y (gM τ 3 4 x (-1)) := ⟨hcT, nb⟩
        have p2 : mchB μ x y m c ∧ μ 8 19 (24 * y + beF μ x 0 m 0) = 0 := ⟨hc, hb⟩
        rw [if_neg nb, if_neg nn, if_pos p1, if_pos p2]
        have hc4 : c < 40 := by
          have := hcT.2.1
          rw [e58] at this
          exact c40.1.mp this
        have f := nI_facts (j := c) (n := 40) 40 hc4 (Nat.le_refl _) (by decide) rfl
        refine ⟨?_, q, p, n, m, c + 1, ?_⟩
        · rw [e58, e21, if_pos ⟨f.1, f.2.1⟩]
        · rw [e4, eb]
          obtain ⟨E, eE⟩ : ∃ E, E = sEnt τ 5 x y (τ 3 4 x) (τ 0 9 0) (gSet τ q 2) := ⟨_, rfl⟩
          obtain ⟨M, eM⟩ : ∃ M, M = sCha μ x y (τ 3 4 x) := ⟨_, rfl⟩
          rw [← eE, ← eM]
          obtain ⟨-, -, -, -, -, -, -, -, -, so⟩ := sEnt_5 e58 ⟨f.1, f.2.1⟩ E eE
          obtain ⟨-, -, -, -, -, -, -, -, -, mo⟩ := sCha_8 e21 M eM
          have nI2 : ∀ z : Int32, ¬ enF τ 5 z c 0 = true → ∀ i, 0 ≤ i → i < nI c → opn τ i → ¬ τ 5 0 i = z ∧ ¬ τ 5 1 i = z := by
            intro z hz i a b o
            obtain ⟨j, hj, rfl⟩ := nI40 a (Int32.lt_trans b f.2.1)
            exact en_no hF c 0 (by omega) hz j (by omega) (by have := (nI_ltI (a := j) (b := c) (by omega) (by omega)).mp b; omega) o
          have J := JR_new (E := E) (M := M) ⟨hF, hG.1 hon⟩ hc4 ⟨hx1.1, by rw [← hC.1]; exact hx1.2.1⟩ ⟨hy1.1, by rw [← hC.1]; exact hy1.2.1⟩ ⟨hP.1, hP.2.1⟩ (nI_le24 hD.2.2.1) eE eM hE.2.2.2.2.1 ((if_pos (by decide)).trans (hD.2.2.2.2.2 2 (by decide) (by decide))) rfl hP.2.2 (hcT.2.2.2.2.2.1.2.2.2.2) (nI2 x hcT.2.2.2.2.2.2.1) (nI2 y hcT.2.2.2.2.2.2.2)
          have hq5 : ¬ q = 5 := by rcases hA.1 with z | z <;> omega
          have s3 := so 3 (by decide)
          have s0 := so 0 (by decide)
          refine ⟨hA.tr (by rw [s0]) (by rw [s0]), hB.tr (so 1 (by decide)) (so 2 (by decide)) (mo 0 (by decide)) (mo 1 (by decide)) (mo 8 (by decide)) (mo 9 (by decide)), hC.tr (by rw [s3]) (by rw [s3]) (by rw [s3]) (by rw [s3]) (by rw [s3]) (mo 10 (by decide)) (mo 11 (by decide)) (mo 12 (by decide)) (mo 13 (by decide)) (mo 14 (by decide)) (mo 15 (by decide)) (mo 16 (by decide)), hD.tr (so q hq5) (mo 3 (by decide)) (mo 4 (by decide)) (mo 5 (by decide)) (mo 6 (by decide)) (mo 7 (by decide)), hE.tr (by rw [s0]) (by rw [s0]) (by rw [s0]) (by rw [s0]) (mo 15 (by decide)) (mo 16 (by decide)) (mo 17 (by decide)) (mo 20 (by decide)), J.1, ⟨fun _ => J.2, fun z => absurd z (by rw [mo 16 (by decide)]; exact hon)⟩, hH.tr (mo 18 (by decide)) (mo 30 (by decide))⟩
      · have n1 : ¬ (chB τ q c x y ∧ ¬ borB τ 3 y (gM τ 3 4 x (-1))) := fun z => z.2 (hbor.mpr hb)
        have n2 : ¬ (mchB μ x y m c ∧ μ 8 19 (24 * y + beF μ x 0 m 0) = 0) := fun z => hb z.2
        rw [if_pos (hbor.mpr hb), if_pos hb, if_neg n1, if_neg n2]
        exact ⟨rfl, q, p, n, m, c, h1⟩
    · have n0 : ¬ chB τ q c x y := fun z => hc (hcc.mp z)
      have n1 : ¬ (chB τ q c x y ∧ ¬ borB τ 3 y (gM τ 3 4 x (-1))) := fun z => n0 z.1
      have n2 : ¬ (mchB μ x y m c ∧ μ 8 19 (24 * y + beF μ x 0 m 0) = 0) := fun z => hc z.1
      rw [if_neg hc, if_neg n0, if_neg n1, if_neg n2]
      exact ⟨rfl, q, p, n, m, c, h1⟩
  · have n1 : ¬ chB τ q c x y := fun z => hp ⟨by rw [← hE.1]; exact z.1, hx.mp z.2.2.1, hy.mp z.2.2.2.1⟩
    have n2 : ¬ mchB μ x y m c := fun z => hp ⟨z.1, z.2.1, z.2.2.1⟩
    have n3 : ¬ (chB τ q c x y ∧ ¬ borB τ 3 y (gM τ 3 4 x (-1))) := fun z => n1 z.1
    have n4 : ¬ (mchB μ x y m c ∧ μ 8 19 (24 * y + beF μ x 0 m 0) = 0) := fun z => n2 z.1
    rw [if_neg n1, if_neg n2, if_neg n3, if_neg n4]
    exact ⟨rfl, q, p, n, m, c, h1⟩
theorem b_challenge {σ : rS} {x y : Int32} (h : Rl σ) : both mX5_challenge mX6_challenge [.inl x, .inl y] σ := by
  obtain ⟨q, p, n, m, c, h⟩ := h
  refine both_pure h (c_X5_challenge h.sh) (fun μ e hR => c_X6_challenge e hR.2.2.1.2.1 hR.2.2.1.2.2.1 hR.2.2.2.1.2.1 hR.2.2.2.1.2.2.1 hR.2.2.2.2.2.1.2.1 hR.2.2.2.2.2.1.2.2.1) ?_ (fun μ hR => p_challenge hR) ?_
  · split
    · unfold sEnt
      split
      · funext k i; simp [up]
      · rfl
    · rfl
  · intro μ o ho
    split
    · unfold sCha
      funext k i; simp [up, ho]
    · rfl
-- answer
theorem gC_op {τ μ : rS} {q p n m c : Nat} {k v : Int32} (h1 : Rl2 τ μ q p n m c) (hv : v = 0 ∨ v = 1) : gC τ 5 4 k (-1) = v ↔ (¬ μ 8 16 0 = 0 ∧ 0 ≤ k ∧ k < μ 8 21 0 ∧ μ 8 26 k = v) := by
  obtain ⟨hA, hB, hC, hD, hE, hF, hG, hH⟩ := h1
  rw [hF.2.1]
  by_cases hk : 0 ≤ k ∧ k < nI c
  · have e : gC τ 5 4 k (-1) = τ 5 4 k := if_pos (hasC_of hF hk.1 hk.2)
    have e4 := (hF.2.2.2 k hk.1 hk.2).2.2.2.2.1
    rw [e]
    refine ⟨fun z => ⟨fun y => (hG.2 y).2 k hk.1 hk.2 ?_, hk.1, hk.2, by rw [← e4]; exact z⟩, fun z => by rw [e4]; exact z.2.2.2⟩
    unfold opn
    rw [z]
    exact hv
  · have e : gC τ 5 4 k (-1) = -1 := if_neg (fun z => hk ⟨z.1, by rw [← hF.1]; exact z.2.1⟩)
    rw [e]
    refine ⟨fun z => ?_, fun z => absurd ⟨z.2.1, z.2.2.1⟩ hk⟩
    rcases hv with y | y
    · rw [y] at z; exact absurd z (by decide)
    · rw [y] at z; exact absurd z (by decide)
theorem RF_chg {τ μ : rS} {n c : Nat} {k d : Int32} (h : RF τ μ n c) : RF (up (up τ 5 4 k 1) 5 5 k d) (up (up μ 8 26 k 1) 8 27 k d) n c := by
  have h' := RF_st (k := k) (v := 1) h (by decide)
  refine ⟨?_, ?_, h.2.2.1, fun i a b => ?_⟩
  · rw [← h'.1]; exact up_k (by decide)
  · rw [← h'.2.1]; exact up_k (by decide)
  · have := h'.2.2.2 i a b
    clear h h'
    generalize up τ 5 4 k 1 = T at *
    generalize up μ 8 26 k 1 = U at *
    simp only [up]
    by_cases z : i = k
    · simp [z]
      rw [z] at this
      exact ⟨this.1, this.2.1, this.2.2.1, this.2.2.2.1, this.2.2.2.2.1, this.2.2.2.2.2.2.1, this.2.2.2.2.2.2.2.1, this.2.2.2.2.2.2.2.2⟩
    · simp [z]
      exact this
/-- what a step that leaves estates, statutes and the year alone must show -/
theorem Rl2_JR {τ μ τ' μ' : rS} {q p n m c : Nat} (h1 : Rl2 τ μ q p n m c) (hon : ¬ μ 8 16 0 = 0) (J : JR τ' μ' n m c) (hr : MIr μ') (t : ∀ o' k', ¬ (o' = 3 ∧ (k' = 4 ∨ k' = 5 ∨ k' = 6)) → ¬ o' = 5 → τ' o' k' = τ o' k') (u : ∀ k', ¬ (k' = 18 ∨ k' = 19) → ¬ (21 ≤ k' ∧ k' ≤ 29) → μ' 8 k' = μ 8 k') : Rl2 τ' μ' q p n m c := by
  obtain ⟨hA, hB, hC, hD, hE, hF, hG, hH⟩ := h1
  have hq : ¬ q = 3 ∧ ¬ q = 5 := by rcases hA.1 with z | z <;> omega
  exact ⟨hA.tr (t 0 5 (by decide) (by decide)) (t 0 6 (by decide) (by decide)), hB.tr (by funext k'; exact t 1 k' (fun z => absurd z.1 (by decide)) (by decide)) (by funext k'; exact t 2 k' (fun z => absurd z.1 (by decide)) (by decide)) (u 0 (by decide) (by decide)) (u 1 (by decide) (by decide)) (u 8 (by decide) (by decide)) (u 9 (by decide) (by decide)), hC.tr (t 3 0 (by decide) (by decide)) (t 3 1 (by decide) (by decide)) (t 3 2 (by decide) (by decide)) (t 3 3 (by decide) (by decide)) (t 3 7 (by decide) (by decide)) (u 10 (by decide) (by decide)) (u 11 (by decide) (by decide)) (u 12 (by decide) (by decide)) (u 13 (by decide) (by decide)) (u 14 (by decide) (by decide)) (u 15 (by decide) (by decide)) (u 16 (by decide) (by decide)), hD.tr (by funext k'; exact t q k' (fun z => hq.1 z.1) hq.2) (u 3 (by decide) (by decide)) (u 4 (by decide) (by decide)) (u 5 (by decide) (by decide)) (u 6 (by decide) (by decide)) (u 7 (by decide) (by decide)), hE.tr (t 0 7 (by decide) (by decide)) (t 0 8 (by decide) (by decide)) (t 0 9 (by decide) (by decide)) (t 0 10 (by decide) (by decide)) (u 15 (by decide) (by decide)) (u 16 (by decide) (by decide)) (u 17 (by decide) (by decide)) (u 20 (by decide) (by decide)), J.1, ⟨fun _ => J.2, fun z => absurd z (by rw [u 16 (by decide) (by decide)]; exact hon)⟩, ⟨hr, fun i hi => by rw [u 30 (by decide) (by decide)]; exact hH.2 i hi⟩⟩
theorem ov_rng {μ : rS} {k v : Int32} (h : MIr μ) (hg : rgB μ k) : MIr (sOv (up μ 8 26 k v) k) := by
  intro p h1 h2
  have h3 := h p h1 h2
  obtain ⟨q1, q2, q3, q4, q5, q6⟩ := hg
  clear h
  unfold sOv
  simp only [up]
  grind
theorem p_answer {τ μ : rS} {k b : Int32} {q p n m c : Nat} (h1 : Rl2 τ μ q p n m c) : bI (gC τ 5 4 k (-1) = 0) = bI (maB μ k) ∧ ∃ q' p' n' m' c', Rl2 (if gC τ 5 4 k (-1) = 0 then (if b = 0 then sChg τ 5 k (τ 0 9 0 + gSet τ q 3) else sTake τ 5 3 k) else τ) (if maB μ k then (if b = 0 then up (up μ 8 26 k 1) 8 27 k (μ 8 17 0 + μ 8 5 3) else sOv (up μ 8 26 k 2) k) else μ) q' p' n' m' c' := by
  have hg : gC τ 5 4 k (-1) = 0 ↔ maB μ k := gC_op h1 (Or.inl rfl)
  obtain ⟨hA, hB, hC, hD, hE, hF, hG, hH⟩ := id h1
  refine ⟨bI_eq hg, q, p, n, m, c, ?_⟩
  by_cases hm : maB μ k
  · rw [if_pos hm, if_pos (hg.mpr hm)]
    have hon := hm.1
    have hk0 := hm.2.1
    have hk1 : k < nI c := by rw [← hF.2.1]; exact hm.2.2.1
    have hhC := hasC_of hF hk0 hk1
    have e4 := (hF.2.2.2 k hk0 hk1).2.2.2.2.1
    have ho : opn τ k := Or.inl (e4.trans hm.2.2.2)
    have J0 : JR τ μ n m c := ⟨hF, hG.1 hon⟩
    by_cases hb : b = 0
    · rw [if_pos hb, if_pos hb]
      have e3 : gSet τ q 3 = μ 8 5 3 := (if_pos (by decide)).trans (hD.2.2.2.2.2 3 (by decide) (by decide))
      unfold sChg
      rw [if_pos hhC, hE.2.2.2.2.1, e3]
      generalize μ 8 17 0 + μ 8 5 3 = D
      have J : JR (up (up τ 5 4 k 1) 5 5 k D) (up (up μ 8 26 k 1) 8 27 k D) n m c := JR_doc J0 (RF_chg hF) (by funext i; simp [up]) (by funext i; simp [up]) (by funext i; simp [up]) (by funext i; simp [up]) (by funext i; simp [up]) (by funext i; simp [up]) (by funext i; simp [up]) (by funext i; simp [up]) (fun i a b o => by
        by_cases hi : i = k
        · rw [hi]; exact ho
        · unfold opn at o ⊢
          rw [show up (up τ 5 4 k 1) 5 5 k D 5 4 i = τ 5 4 i from (up_k (by decide)).trans (up_i hi)] at o
          exact o)
      refine Rl2_JR h1 hon J ?_ (fun o' k' _ h => by funext i; rw [up_o h, up_o h]) (fun k' _ h => by funext i; rw [up_k (by omega), up_k (by omega)])
      intro i a b
      rw [show up (up μ 8 26 k 1) 8 27 k D 8 18 i = μ 8 18 i from (up_k (by decide)).trans (up_k (by decide))]
      exact hH.1 i a b
    · rw [if_neg hb, if_neg hb]
      unfold sTake
      rw [if_pos hhC]
      refine Rl2_JR h1 hon (JR_go J0 hC.1 hC.2.2.1 hD.2.2.1 hk0 hk1 (by decide) ho) (ov_rng hH.1 (h1.mi.2.2.2.2.2.2.2.2 k hk0 hk1)) (fun o' k' h h2 => by
        funext i
        rw [sLay_fr h, sFree_fr (fun z => h ⟨z.1, Or.inl z.2⟩), up_o h2]) (fun k' h h2 => by
        funext i
        unfold sOv
        rw [up_k (by omega), up_k (by omega), up_k (by omega)])
  · rw [if_neg hm, if_neg (fun z => hm (hg.mp z))]
    exact h1
theorem b_answer {σ : rS} {k b : Int32} (h : Rl σ) : both mX5_answer mX6_answer [.inl k, .inl b] σ := by
  obtain ⟨q, p, n, m, c, h⟩ := h
  have hS := h.sh
  refine both_pure h (c_X5_answer hS.1 hS.2.1) (fun μ e hR => c_X6_answer e hR.2.2.2.2.2.1.2.1 hR.2.2.2.2.2.1.2.2.1 hR.mi.2.2.2.2.2.2.2.2) ?_ (fun μ hR => p_answer hR) ?_
  · split
    · split
      · unfold sChg
        split
        · funext k i; simp [up]
        · rfl
      · unfold sTake
        split
        · funext f i
          rw [sLay_fr (fun z => absurd z.1 (by decide)), sFree_fr (fun z => absurd z.1 (by decide)), up_o (by decide)]
        · rfl
    · rfl
  · intro μ o ho
    split
    · split
      · funext f i; rw [up_o ho, up_o ho]
      · unfold sOv
        funext f i; rw [up_o ho, up_o ho, up_o ho]
    · rfl
