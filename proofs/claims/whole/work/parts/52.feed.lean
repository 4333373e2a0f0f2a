-- steps of both sides: feed
theorem b255 (b : BitVec 32) : (BitVec.signExtend 32 (BitVec.signExtend 8 b)) &&& 255#32 = b &&& 255#32 := by
  apply BitVec.eq_of_getLsbD_eq
  intro i hi
  have h255 : ∀ i, i < 32 → (255#32).getLsbD i = decide (i < 8) := by decide
  rw [BitVec.getLsbD_and, BitVec.getLsbD_and, h255 i hi]
  by_cases h : i < 8
  · rw [BitVec.getLsbD_signExtend, BitVec.getLsbD_signExtend]
    have h2 : i < 32 := hi
    simp [h, h2]
  · simp [h]
theorem by255 (x : Int32) : x.toInt8.toInt32.toInt8.toInt32 &&& 255 = x &&& 255 := by
  rw [show x.toInt8.toInt32.toInt8 = x.toInt8 from by simp]
  apply Int32.toBitVec_inj.1
  rw [Int32.toBitVec_and, Int32.toBitVec_and, Int8.toBitVec_toInt32, Int32.toBitVec_toInt8]
  exact b255 x.toBitVec
def FR (T U : rS) (B : Int32) (t : Nat) : Prop := (∀ i, T 1 0 i &&& 255 = U 8 0 i) ∧ T 1 1 0 = B + nI t ∧ U 8 1 0 = B
theorem FR_step {T U : rS} {B a b c d e w : Int32} {t j : Nat} (h : FR T U B t) (hw : wSel a b c d e t = w) (hs : (24 - 8 * (nI t - nI t / 4 * 4)) &&& 31 = (24 - 8 * nI j) &&& 31) : FR (up (up T 1 0 (T 1 1 0) (byJ w j)) 1 1 0 (T 1 1 0 + 1)) (fdStep a b c d e t U) B (t + 1) := by
  obtain ⟨h1, h2, h3⟩ := h
  refine ⟨fun i => ?_, ?_, ?_⟩
  · unfold fdStep
    rw [hw, hs, h2, h3, show ∀ v, up (up T 1 0 (B + nI t) (byJ w j)) 1 1 0 v 1 0 i = up T 1 0 (B + nI t) (byJ w j) 1 0 i from fun v => up_k (by decide)]
    by_cases hi : i = B + nI t
    · rw [hi, up_self, up_self]
      exact by255 _
    · rw [show up T 1 0 (B + nI t) (byJ w j) 1 0 i = T 1 0 i from up_i hi, up_i hi]
      exact h1 i
  · rw [up_self, h2, nI_succ, Int32.add_assoc]
  · unfold fdStep
    rw [← h3]
    exact up_k (by decide)
theorem FR_w {T U : rS} {B a b c d e w : Int32} {t0 : Nat} (h : FR T (itS (fdStep a b c d e) t0 U) B t0) (hw : ∀ j, j < 4 → wSel a b c d e (t0 + j) = w) (hs : ∀ j, j < 4 → (24 - 8 * (nI (t0 + j) - nI (t0 + j) / 4 * 4)) &&& 31 = (24 - 8 * nI j) &&& 31) : ∀ j, j ≤ 4 → FR (apF 1 w j T) (itS (fdStep a b c d e) (t0 + j) U) B (t0 + j) := by
  intro j
  induction j with
  | zero => intro _; exact h
  | succ j ih =>
    intro hj
    rw [apF_s]
    exact FR_step (ih (by omega)) (hw j (by omega)) (hs j (by omega))
theorem FR_all {T U : rS} {B a b c d e : Int32} (h : FR T U B 0) : FR (s5 T a b c d e) (itS (fdStep a b c d e) 20 U) B 20 := by
  have l0 : ∀ j, j < 4 → nI (0 + j) < 4 := by decide
  have l1 : ∀ j, j < 4 → ¬ nI (4 + j) < 4 ∧ nI (4 + j) < 8 := by decide
  have l2 : ∀ j, j < 4 → ¬ nI (8 + j) < 4 ∧ ¬ nI (8 + j) < 8 ∧ nI (8 + j) < 12 := by decide
  have l3 : ∀ j, j < 4 → ¬ nI (12 + j) < 4 ∧ ¬ nI (12 + j) < 8 ∧ ¬ nI (12 + j) < 12 ∧ nI (12 + j) < 16 := by decide
  have l4 : ∀ j, j < 4 → ¬ nI (16 + j) < 4 ∧ ¬ nI (16 + j) < 8 ∧ ¬ nI (16 + j) < 12 ∧ ¬ nI (16 + j) < 16 := by decide
  have h0 := FR_w (a := a) (b := b) (c := c) (d := d) (e := e) (t0 := 0) (w := a) h (fun j hj => if_pos (l0 j hj)) (by decide) 4 (Nat.le_refl _)
  have h1 := FR_w (a := a) (b := b) (c := c) (d := d) (e := e) (t0 := 4) (w := b) h0 (fun j hj => by unfold wSel; rw [if_neg (l1 j hj).1, if_pos (l1 j hj).2]) (by decide) 4 (Nat.le_refl _)
  have h2 := FR_w (a := a) (b := b) (c := c) (d := d) (e := e) (t0 := 8) (w := c) h1 (fun j hj => by unfold wSel; rw [if_neg (l2 j hj).1, if_neg (l2 j hj).2.1, if_pos (l2 j hj).2.2]) (by decide) 4 (Nat.le_refl _)
  have h3 := FR_w (a := a) (b := b) (c := c) (d := d) (e := e) (t0 := 12) (w := d) h2 (fun j hj => by unfold wSel; rw [if_neg (l3 j hj).1, if_neg (l3 j hj).2.1, if_neg (l3 j hj).2.2.1, if_pos (l3 j hj).2.2.2]) (by decide) 4 (Nat.le_refl _)
  have h4 := FR_w (a := a) (b := b) (c := c) (d := d) (e := e) (t0 := 16) (w := e) h3 (fun j hj => by unfold wSel; rw [if_neg (l4 j hj).1, if_neg (l4 j hj).2.1, if_neg (l4 j hj).2.2.1, if_neg (l4 j hj).2.2.2]) (by decide) 4 (Nat.le_refl _)
  exact h4
theorem ap_fr {σ : rS} {w : Int32} {o' k' : Nat} {i' : Int32} (h : ¬ o' = 1) : apF 1 w 4 σ o' k' i' = σ o' k' i' := by
  rw [apF_s 3, up_o h, up_o h, apF_s 2, up_o h, up_o h, apF_s 1, up_o h, up_o h, apF_s 0, up_o h, up_o h]
  rfl
theorem ar_f20 {x : Int32} (h : 0 ≤ x) (h2 : x ≤ 600) : 0 ≤ x + 20 := by grind
theorem p_feed {τ μ : rS} {a b c' d e : Int32} {q p n m c : Nat} (h1 : Rl2 τ μ q p n m c) : (if τ 1 1 0 + 20 ≤ 600 then τ 1 1 0 + 20 else -1) = (if μ 8 1 0 + 20 ≤ 600 then μ 8 1 0 + 20 else -1) ∧ ∃ q' p' n' m' c'', Rl2 (if τ 1 1 0 + 20 ≤ 600 then s5 τ a b c' d e else τ) (if μ 8 1 0 + 20 ≤ 600 then up (itS (fdStep a b c' d e) 20 μ) 8 1 0 (μ 8 1 0 + 20) else μ) q' p' n' m' c'' := by
  obtain ⟨hA, hB, hC, hD, hE, hF, hG, hH⟩ := id h1
  obtain ⟨⟨r1, r2, r3, r4⟩, r5⟩ := hB
  rw [r1]
  by_cases hb : μ 8 1 0 + 20 ≤ 600
  · rw [if_pos hb, if_pos hb, if_pos hb]
    refine ⟨rfl, q, p, n, m, c, ?_⟩
    obtain ⟨f1, f2, f3⟩ := FR_all (T := τ) (U := μ) (B := μ 8 1 0) (a := a) (b := b) (c := c') (d := d) (e := e) ⟨r4, by rw [r1, nI_0, Int32.add_zero], rfl⟩
    have t : ∀ o', ¬ o' = 1 → s5 τ a b c' d e o' = τ o' := fun o' h => by
      funext k i
      exact (ap_fr h).trans ((ap_fr h).trans ((ap_fr h).trans ((ap_fr h).trans (ap_fr h))))
    have u : ∀ k', ¬ (k' = 0 ∨ k' = 1) → up (itS (fdStep a b c' d e) 20 μ) 8 1 0 (μ 8 1 0 + 20) 8 k' = μ 8 k' := fun k' h => by
      funext i
      rw [up_k (fun z => h (Or.inr z))]
      exact fd_fr (fun z => h (Or.inl z.2)) 20
    have u0 : up (itS (fdStep a b c' d e) 20 μ) 8 1 0 (μ 8 1 0 + 20) 8 0 = itS (fdStep a b c' d e) 20 μ 8 0 := by funext i; exact up_k (by decide)
    have u1 : up (itS (fdStep a b c' d e) 20 μ) 8 1 0 (μ 8 1 0 + 20) 8 1 0 = μ 8 1 0 + 20 := up_self
    rw [← u0] at f1
    have f2' : s5 τ a b c' d e 1 1 0 = μ 8 1 0 + 20 := f2
    clear f2 f3
    generalize s5 τ a b c' d e = T at *
    generalize up (itS (fdStep a b c' d e) 20 μ) 8 1 0 (μ 8 1 0 + 20) = U at *
    have hq : ¬ q = 1 := by rcases hA.1 with z | z <;> omega
    have t0 := t 0 (by decide)
    have t2 := t 2 (by decide)
    have t3 := t 3 (by decide)
    have t5 := t 5 (by decide)
    exact ⟨hA.tr (by rw [t0]) (by rw [t0]), ⟨⟨by rw [f2', u1], by rw [u1]; exact ar_f20 r2 r3, by rw [u1]; exact hb, f1⟩, by rw [t2, u 8 (by decide)]; exact r5.1, by rw [t2, u 9 (by decide)]; exact r5.2⟩, hC.tr (by rw [t3]) (by rw [t3]) (by rw [t3]) (by rw [t3]) (by rw [t3]) (u 10 (by decide)) (u 11 (by decide)) (u 12 (by decide)) (u 13 (by decide)) (u 14 (by decide)) (u 15 (by decide)) (u 16 (by decide)), hD.tr (t q hq) (u 3 (by decide)) (u 4 (by decide)) (u 5 (by decide)) (u 6 (by decide)) (u 7 (by decide)), hE.tr (by rw [t0]) (by rw [t0]) (by rw [t0]) (by rw [t0]) (u 15 (by decide)) (u 16 (by decide)) (u 17 (by decide)) (u 20 (by decide)), hF.tr t5 (u 21 (by decide)) (u 22 (by decide)) (u 23 (by decide)) (u 24 (by decide)) (u 25 (by decide)) (u 26 (by decide)) (u 27 (by decide)) (u 28 (by decide)) (u 29 (by decide)), hG.tr (by rw [t3]) (by rw [t3]) (by rw [t3]) t5 (u 16 (by decide)) (u 18 (by decide)) (u 19 (by decide)), hH.tr (u 18 (by decide)) (u 30 (by decide))⟩
  · rw [if_neg hb, if_neg hb, if_neg hb]
    exact ⟨rfl, q, p, n, m, c, h1⟩
theorem b_feed {σ : rS} {a b c' d e : Int32} (h : Rl σ) : both mX5_feed mX6_feed [.inl a, .inl b, .inl c', .inl d, .inl e] σ := by
  obtain ⟨q, p, n, m, c, h⟩ := h
  have hl := h.2.1.1
  refine both_pure h (c_X5_feed (by rw [hl.1]; exact ⟨hl.2.1, hl.2.2.1⟩)) (fun μ e hR => c_X6_feed e ⟨hR.2.1.1.2.1, hR.2.1.1.2.2.1⟩) ?_ (fun μ hR => p_feed hR) ?_
  · split
    · funext k i
      exact (ap_fr (by decide)).trans ((ap_fr (by decide)).trans ((ap_fr (by decide)).trans ((ap_fr (by decide)).trans (ap_fr (by decide)))))
    · rfl
  · intro μ o ho
    split
    · funext k i
      rw [up_o ho]
      exact fd_fr (fun z => ho z.1) 20
    · rfl
