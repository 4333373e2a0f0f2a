/-! look: both sides -/
theorem ar_six {w : Int32} (h : 0 ≤ w ∧ w ≤ 5) : w = 0 ∨ w = 1 ∨ w = 2 ∨ w = 3 ∨ w = 4 ∨ w = 5 := by grind
theorem ar_nosix {w : Int32} (h : ¬ (0 ≤ w ∧ w ≤ 5)) : (w < 0 ∨ 5 < w) ∧ ¬ (w = 0 ∨ w = 1 ∨ w = 2 ∨ w = 3 ∨ w = 4 ∨ w = 5) := by grind
theorem if_six {w a b c d e f : Int32} (h : w = 0 ∨ w = 1 ∨ w = 2 ∨ w = 3 ∨ w = 4 ∨ w = 5) : (if w = 0 then a else if w = 1 then b else if w = 2 then c else if w = 3 then d else if w = 4 then e else f) = (if w = 0 then a else if w = 1 then b else if w = 2 then c else if w = 3 then d else if w = 4 then e else if w = 5 then f else 0) := by grind
theorem if6_c {w a b c d e f a' b' c' d' e' f' : Int32} (h1 : a = a') (h2 : b = b') (h3 : c = c') (h4 : d = d') (h5 : e = e') (h6 : f = f') : (if w = 0 then a else if w = 1 then b else if w = 2 then c else if w = 3 then d else if w = 4 then e else f) = (if w = 0 then a' else if w = 1 then b' else if w = 2 then c' else if w = 3 then d' else if w = 4 then e' else f') := by
  rw [h1, h2, h3, h4, h5, h6]
theorem ifc_ {p q : Prop} [Decidable p] [Decidable q] {a b : Int32} (h : p ↔ q) : (if p then a else b) = (if q then a else b) := by
  by_cases hp : p
  · rw [if_pos hp, if_pos (h.mp hp)]
  · rw [if_neg hp, if_neg (fun z => hp (h.mpr z))]
theorem p_look {τ μ : rS} {x w : Int32} {q p n m c : Nat} (h1 : Rl2 τ μ q p n m c) (hx : hasM τ 3 x) : (if w = 0 then gM τ 3 0 x 0 else if w = 1 then gM τ 3 1 x 0 else if w = 2 then gM τ 3 4 x (-1) else if w = 3 then gM τ 3 2 x 0 else if w = 4 then gM τ 3 3 x 0 else (if ¬ τ 0 7 0 = 0 ∧ fitB τ 3 q x (τ 0 8 0 - 1) then 1 else 0)) = (if w = 0 then μ 8 11 x else if w = 1 then μ 8 12 x else if w = 2 then (if ¬ μ 8 16 0 = 0 then beF μ x 0 m 0 else -1) else if w = 3 then μ 8 13 x else if w = 4 then μ 8 14 x else (if ¬ μ 8 16 0 = 0 ∧ mfB μ x 0 0 (μ 8 15 0 - 1) m then 1 else 0)) := by
  obtain ⟨hA, hB, hC, hD, hE, hF, hG, hH⟩ := id h1
  have g : ∀ (k : Nat) (d : Int32), gM τ 3 k x d = τ 3 k x := fun k d => if_pos hx
  have h3 := hC.2.2.2.1 x hx.1 hx.2.2
  have h4 := hC.2.2.2.2.1 x hx.1 hx.2.2
  rw [Int32.zero_add] at h3
  have e2 : τ 3 4 x = if ¬ μ 8 16 0 = 0 then beF μ x 0 m 0 else -1 := by
    by_cases hon : μ 8 16 0 = 0
    · rw [if_neg (fun z => z hon)]; exact (hG.2 hon).1.1 x hx.1 hx.2.2
    · rw [if_pos hon]; exact (be_R7 (hG.1 hon).1 hD.2.2.1 hx.1 hx.2.2).symm
  have e5 : (¬ μ 8 16 0 = 0 ∧ fitB τ 3 q x (μ 8 15 0 - 1)) = (¬ μ 8 16 0 = 0 ∧ mfB μ x 0 0 (μ 8 15 0 - 1) m) := propext (and_congr_right (fun hon => fit_eq hC.2.2.2.1 (hG.1 hon).1 hD.2.2.1 hD.2.2.2.2.2 hx))
  refine if6_c ((g 0 0).trans h3.1) ((g 1 0).trans h4.1) ((g 4 (-1)).trans e2) ((g 2 0).trans h3.2) ((g 3 0).trans h4.2) (ifc_ ?_)
  rw [hE.1, hE.2.1]
  exact Eq.to_iff e5
theorem b_look {σ : rS} {man w : Int32} (h : Rl σ) : ∃ r k σ2, Ct mX6_look [.inr (8, 0), .inl man, .inl w] σ (some (.inl r)) σ2 ∧ Ct mX6_thrown [.inr (8, 0)] σ2 (some (.inl k)) σ2 ∧ Rl σ2 ∧ ((¬ hasM σ 3 man ∧ k = 1) ∨ (hasM σ 3 man ∧ (w < 0 ∨ 5 < w) ∧ k = 2) ∨ (k = 0 ∧ Ct mX5_look [.inr (0, 0), .inl man, .inl w] σ (some (.inl r)) σ)) := by
  obtain ⟨q, p, n, m, c, h⟩ := h
  have h1 := joint0 (σ1 := σ) h rfl
  have hS := h1.sh
  have hM := h1.mi
  have hx := has_mn (x := man) h1.2.2.1
  have h8 := c_X6_look (m := man) (w := w) (σ := σ) rfl hM.1 hM.2.1 hM.2.2.1 hM.2.2.2.1
  have hj : ∀ v, Rl (up (z2 σ) 8 2 0 v) := fun v => joint ⟨q, p, n, m, c, h1.ref2 (fun k hk => funext (fun i => up_k hk))⟩ (fun o ho => by funext k i; exact (up_o ho).trans (up_o ho))
  by_cases hm : hasM σ 3 man
  · rw [if_pos (hx.mp hm), if_pos (hx.mp hm)] at h8
    by_cases hw : 0 ≤ w ∧ w ≤ 5
    · have hor := ar_six hw
      rw [if_pos hor] at h8
      have h5 := c_X5_look hS.1 hS.2.1 hm hw
      rw [p_look h1 hm, if_six hor] at h5
      exact ⟨_, _, _, h8, c_X6_thrown, joint ⟨q, p, n, m, c, h1⟩ z2_fr, Or.inr (Or.inr ⟨up_self, h5⟩)⟩
    · have hor := ar_nosix hw
      rw [if_neg hor.2] at h8
      exact ⟨_, _, _, h8, c_X6_thrown, hj 2, Or.inr (Or.inl ⟨hm, hor.1, up_self⟩)⟩
  · rw [if_neg (fun z => hm (hx.mpr z)), if_neg (fun z => hm (hx.mpr z))] at h8
    exact ⟨_, _, _, h8, c_X6_thrown, hj 1, Or.inl ⟨hm, up_self⟩⟩
