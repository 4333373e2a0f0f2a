-- steps of both sides: swear, end
theorem sExch_at {τ E : rS} {a b : Int32} (ha : hasM τ 3 a) (hb : hasM τ 3 b) (e : E = sExch τ 3 a b) : (∀ x, E 3 0 x = if x = b then τ 3 0 a else if x = a then τ 3 0 b else τ 3 0 x) ∧ (∀ x, E 3 1 x = if x = b then τ 3 1 a else if x = a then τ 3 1 b else τ 3 1 x) ∧ (∀ o' k', ¬ (o' = 3 ∧ (k' = 0 ∨ k' = 1)) → E o' k' = τ o' k') := by
  unfold sExch at e
  rw [if_pos ⟨ha, hb⟩] at e
  subst e
  clear ha hb
  refine ⟨fun x => ?_, fun x => ?_, fun o' k' h => ?_⟩
  · simp only [up]; grind
  · simp only [up]; grind
  · funext i; simp only [up]; grind
def exM (μ : rS) (X Y : Int32) : rS := up (up (up (up μ 8 11 X (μ 8 11 Y)) 8 11 Y (μ 8 11 X)) 8 12 X (μ 8 12 Y)) 8 12 Y (μ 8 12 X)
theorem exM_at {μ E : rS} {a b : Int32} (e : E = exM μ a b) : (∀ x, E 8 11 x = if x = b then μ 8 11 a else if x = a then μ 8 11 b else μ 8 11 x) ∧ (∀ x, E 8 12 x = if x = b then μ 8 12 a else if x = a then μ 8 12 b else μ 8 12 x) ∧ (∀ k', ¬ (k' = 11 ∨ k' = 12) → E 8 k' = μ 8 k') := by
  unfold exM at e
  subst e
  refine ⟨fun x => ?_, fun x => ?_, fun k' h => ?_⟩
  · simp only [up]; grind
  · simp only [up]; grind
  · funext i; simp only [up]; grind
theorem sw_ex {μ : rS} {k : Int32} : sSw2 μ k = exM (up μ 8 26 k 3) (μ 8 22 k) (μ 8 23 k) := by
  unfold sSw2 exM
  rw [show ∀ x, up μ 8 26 k 3 8 11 x = μ 8 11 x from fun x => up_k (by decide), show ∀ x, up μ 8 26 k 3 8 12 x = μ 8 12 x from fun x => up_k (by decide)]
  simp only [show ∀ x, up μ 8 26 k 3 8 11 x = μ 8 11 x from fun x => up_k (by decide), show ∀ x, up μ 8 26 k 3 8 12 x = μ 8 12 x from fun x => up_k (by decide)]
theorem Rl2_exch {τ μ τ' μ' : rS} {q p n m c : Nat} {X Y : Int32} (h1 : Rl2 τ μ q p n m c) (hX : hasM τ 3 X) (hY : hasM τ 3 Y) (et : τ' = sExch τ 3 X Y) (eu : μ' = exM μ X Y) : Rl2 τ' μ' q p n m c := by
  obtain ⟨hA, hB, hC, hD, hE, hF, hG, hH⟩ := h1
  have hq : ¬ q = 3 := by rcases hA.1 with z | z <;> omega
  obtain ⟨t0, t1, t⟩ := sExch_at hX hY et
  obtain ⟨u0, u1, u⟩ := exM_at eu
  have yU : yrs μ' = yrs μ := by unfold yrs; rw [u 16 (by decide), u 15 (by decide)]
  have x3 := hC.2.2.2.1 X hX.1 hX.2.2
  have y3 := hC.2.2.2.1 Y hY.1 hY.2.2
  have x4 := hC.2.2.2.2.1 X hX.1 hX.2.2
  have y4 := hC.2.2.2.2.1 Y hY.1 hY.2.2
  have x5 := hC.2.2.2.2.2 X hX.1 hX.2.2
  have y5 := hC.2.2.2.2.2 Y hY.1 hY.2.2
  rw [Int32.zero_add] at x3 y3
  refine ⟨hA.tr (t 0 5 (by decide)) (t 0 6 (by decide)), hB.tr (by funext k'; exact t 1 k' (fun z => absurd z.1 (by decide))) (by funext k'; exact t 2 k' (fun z => absurd z.1 (by decide))) (u 0 (by decide)) (u 1 (by decide)) (u 8 (by decide)) (u 9 (by decide)), ⟨?_, ?_, hC.2.2.1, fun x a b => ?_, fun x a b => ?_, fun x a b => ?_⟩, hD.tr (by funext k'; exact t q k' (fun z => hq z.1)) (u 3 (by decide)) (u 4 (by decide)) (u 5 (by decide)) (u 6 (by decide)) (u 7 (by decide)), hE.tr (t 0 7 (by decide)) (t 0 8 (by decide)) (t 0 9 (by decide)) (t 0 10 (by decide)) (u 15 (by decide)) (u 16 (by decide)) (u 17 (by decide)) (u 20 (by decide)), hF.tr (by funext k'; exact t 5 k' (fun z => absurd z.1 (by decide))) (u 21 (by decide)) (u 22 (by decide)) (u 23 (by decide)) (u 24 (by decide)) (u 25 (by decide)) (u 26 (by decide)) (u 27 (by decide)) (u 28 (by decide)) (u 29 (by decide)), hG.tr (t 3 4 (by decide)) (t 3 5 (by decide)) (t 3 6 (by decide)) (by funext k'; exact t 5 k' (fun z => absurd z.1 (by decide))) (u 16 (by decide)) (u 18 (by decide)) (u 19 (by decide)), hH.tr (u 18 (by decide)) (u 30 (by decide))⟩
  · rw [t 3 7 (by decide)]; exact hC.1
  · rw [u 10 (by decide)]; exact hC.2.1
  · have z := hC.2.2.2.1 x a b
    rw [Int32.zero_add] at z ⊢
    rw [t0, u0, t 3 2 (by decide), u 13 (by decide), x3.1, y3.1, z.1, z.2]
    exact ⟨rfl, rfl⟩
  · have z := hC.2.2.2.2.1 x a b
    rw [t1, u1, t 3 3 (by decide), u 14 (by decide), x4.1, y4.1, z.1, z.2]
    exact ⟨rfl, rfl⟩
  · have z := hC.2.2.2.2.2 x a b
    rw [yU, u0, u1]
    by_cases e1 : x = Y
    · simp only [if_pos e1]
      exact x5
    · by_cases e2 : x = X
      · simp only [if_neg e1, if_pos e2]
        exact y5
      · simp only [if_neg e1, if_neg e2]
        exact z
theorem RF_ox {τ μ : rS} {n c : Nat} {k : Int32} (h : RF τ μ n c) : RF (up τ 5 6 k 1) (up μ 8 28 k 1) n c := by
  refine ⟨?_, ?_, h.2.2.1, fun i a b => ?_⟩
  · rw [← h.1]; exact up_k (by decide)
  · rw [← h.2.1]; exact up_k (by decide)
  · have := h.2.2.2 i a b
    clear h
    simp only [up]
    by_cases z : i = k
    · simp [z]
      rw [z] at this
      exact ⟨this.1, this.2.1, this.2.2.1, this.2.2.2.1, this.2.2.2.2.1, this.2.2.2.2.2.1, this.2.2.2.2.2.2.2.1, this.2.2.2.2.2.2.2.2⟩
    · simp [z]
      exact this
theorem RF_oy {τ μ : rS} {n c : Nat} {k : Int32} (h : RF τ μ n c) : RF (up τ 5 7 k 1) (up μ 8 29 k 1) n c := by
  refine ⟨?_, ?_, h.2.2.1, fun i a b => ?_⟩
  · rw [← h.1]; exact up_k (by decide)
  · rw [← h.2.1]; exact up_k (by decide)
  · have := h.2.2.2 i a b
    clear h
    simp only [up]
    by_cases z : i = k
    · simp [z]
      rw [z] at this
      exact ⟨this.1, this.2.1, this.2.2.1, this.2.2.2.1, this.2.2.2.2.1, this.2.2.2.2.2.1, this.2.2.2.2.2.2.1, this.2.2.2.2.2.2.2.2⟩
    · simp [z]
      exact this
theorem oath_fr {τ : rS} {k b : Int32} {o' k' : Nat} (h : ¬ (o' = 5 ∧ (k' = 6 ∨ k' = 7))) : sOath1 τ 5 k b o' k' = τ o' k' := by
  funext i
  unfold sOath1
  split
  · exact if_neg (fun z => h ⟨z.1, Or.inr z.2.1⟩)
  · exact if_neg (fun z => h ⟨z.1, Or.inl z.2.1⟩)
theorem sw1_fr {μ : rS} {k b : Int32} {o' k' : Nat} (h : ¬ (o' = 8 ∧ (k' = 28 ∨ k' = 29))) : sSw1 μ k b o' k' = μ o' k' := by
  funext i
  unfold sSw1
  split
  · exact if_neg (fun z => h ⟨z.1, Or.inr z.2.1⟩)
  · exact if_neg (fun z => h ⟨z.1, Or.inl z.2.1⟩)
theorem sw_iff {b s1 s2 : Int32} {H : Prop} (hH : H) : ¬ (H ∧ ((¬ b = 0 ∧ ¬ s1 = 0) ∨ (b = 0 ∧ ¬ s2 = 0))) ↔ ((¬ b = 0 ∧ s1 = 0) ∨ (b = 0 ∧ s2 = 0)) := by grind
theorem p_swear {τ μ : rS} {k b : Int32} {q p n m c : Nat} (h1 : Rl2 τ μ q p n m c) : bI (swB τ k b) = bI (msB μ k b) ∧ ∃ q' p' n' m' c', Rl2 (if swB τ k b then sOath τ 5 3 k b else τ) (if msB μ k b then sSw μ k b else μ) q' p' n' m' c' := by
  have hg : gC τ 5 4 k (-1) = 1 ↔ (¬ μ 8 16 0 = 0 ∧ 0 ≤ k ∧ k < μ 8 21 0 ∧ μ 8 26 k = 1) := gC_op h1 (Or.inr rfl)
  obtain ⟨hA, hB, hC, hD, hE, hF, hG, hH⟩ := id h1
  have fl : 0 ≤ k → k < nI c → τ 5 6 k = μ 8 28 k ∧ τ 5 7 k = μ 8 29 k := fun a b => by
    obtain ⟨a0, a1, a2, a3, a4, a5, a6, a7, -⟩ := hF.2.2.2 k a b
    exact ⟨a6, a7⟩
  have hsw : swB τ k b ↔ msB μ k b := by
    constructor
    · intro z
      obtain ⟨g1, g2, g3, g4⟩ := hg.mp z.1
      have g3' : k < nI c := by rw [← hF.2.1]; exact g3
      obtain ⟨f6, f7⟩ := fl g2 g3'
      have z2 := (sw_iff (hasC_of hF g2 g3')).mp z.2
      rw [f6, f7] at z2
      exact ⟨g1, g2, g3, g4, z2⟩
    · rintro ⟨g1, g2, g3, g4, z2⟩
      have g3' : k < nI c := by rw [← hF.2.1]; exact g3
      obtain ⟨f6, f7⟩ := fl g2 g3'
      rw [← f6, ← f7] at z2
      exact ⟨hg.mpr ⟨g1, g2, g3, g4⟩, (sw_iff (hasC_of hF g2 g3')).mpr z2⟩
  refine ⟨bI_eq hsw, q, p, n, m, c, ?_⟩
  by_cases hm : msB μ k b
  · rw [if_pos hm, if_pos (hsw.mpr hm)]
    have hon := hm.1
    have hk0 := hm.2.1
    have hk1 : k < nI c := by rw [← hF.2.1]; exact hm.2.2.1
    have hhC := hasC_of hF hk0 hk1
    have J0 : JR τ μ n m c := ⟨hF, hG.1 hon⟩
    have F1 : RF (sOath1 τ 5 k b) (sSw1 μ k b) n c := by
      unfold sOath1 sSw1
      split
      · exact RF_oy hF
      · exact RF_ox hF
    have J1 : JR (sOath1 τ 5 k b) (sSw1 μ k b) n m c := JR_doc J0 F1 (oath_fr (by decide)) (oath_fr (by decide)) (oath_fr (by decide)) (oath_fr (by decide)) (oath_fr (by decide)) (oath_fr (by decide)) (sw1_fr (by decide)) (sw1_fr (by decide)) (fun i _ _ o => by unfold opn at o ⊢; rw [oath_fr (by decide)] at o; exact o)
    have hr1 : MIr (sSw1 μ k b) := by
      intro i a b
      rw [sw1_fr (by decide)]
      exact hH.1 i a b
    have R1 : Rl2 (sOath1 τ 5 k b) (sSw1 μ k b) q p n m c := Rl2_JR h1 hon J1 hr1 (fun o' k' _ h => oath_fr (fun z => h z.1)) (fun k' _ h => sw1_fr (by omega))
    have hon1 : ¬ sSw1 μ k b 8 16 0 = 0 := by rw [sw1_fr (by decide)]; exact hon
    have ex : τ 5 0 k = sOath1 τ 5 k b 5 0 k ∧ τ 5 1 k = sOath1 τ 5 k b 5 1 k := ⟨by rw [oath_fr (by decide)], by rw [oath_fr (by decide)]⟩
    unfold sOath sSw
    rw [if_pos hhC, ex.1, ex.2]
    obtain ⟨a0, a1, a2, a3, a4, a5, a6, a7, -⟩ := F1.2.2.2 k hk0 hk1
    obtain ⟨x1, y1, -⟩ := F1.men hk0 hk1
    have hs1 : sOath1 τ 5 k b 3 7 0 = nI n := R1.2.2.1.1
    clear ex hhC J0 h1 hsw hg fl hm hA hB hD hE hF hG hH
    generalize sOath1 τ 5 k b = T at *
    generalize sSw1 μ k b = U at *
    rw [a6, a7]
    by_cases hb : U 8 28 k = 0 ∨ U 8 29 k = 0
    · rw [if_pos hb, if_neg (fun z => hb.elim z.1 z.2)]
      exact R1
    · rw [if_neg hb, if_pos ⟨fun z => hb (Or.inl z), fun z => hb (Or.inr z)⟩, sw_ex]
      have J2 := JR_close (k := k) (v := 3) J1 (by decide)
      have R2 : Rl2 (up T 5 4 k 3) (up U 8 26 k 3) q p n m c := Rl2_JR R1 hon1 J2 (by
        intro i a b
        rw [show up U 8 26 k 3 8 18 i = U 8 18 i from up_k (by decide)]
        exact hr1 i a b) (fun o' k' _ h => by funext i; exact up_o h) (fun k' _ h => by funext i; exact up_k (by omega))
      have n12 := nI_le12 hC.2.2.1
      have s2 : up T 5 4 k 3 3 7 0 = nI n := by rw [show up T 5 4 k 3 3 7 0 = T 3 7 0 from up_o (by decide)]; exact hs1
      refine Rl2_exch R2 (X := T 5 0 k) (Y := T 5 1 k) ⟨x1.1, by rw [s2]; exact x1.2, ar_lt x1.2 n12⟩ ⟨y1.1, by rw [s2]; exact y1.2, ar_lt y1.2 n12⟩ rfl (by rw [a0, a1])
  · rw [if_neg hm, if_neg (fun z => hm (hsw.mp z))]
    exact h1
theorem b_swear {σ : rS} {k b : Int32} (h : Rl σ) : both mX5_swear mX6_swear [.inl k, .inl b] σ := by
  obtain ⟨q, p, n, m, c, h⟩ := h
  refine both_pure h c_X5_swear (fun μ e hR => c_X6_swear e hR.2.2.2.2.2.1.2.1 hR.2.2.2.2.2.1.2.2.1 hR.mi.2.2.2.2.2.2.2.2) ?_ (fun μ hR => p_swear hR) ?_
  · split
    · unfold sOath
      split
      · split
        · unfold sExch
          split
          · funext f i
            rw [up_o (by decide), up_o (by decide), up_o (by decide), up_o (by decide), up_o (by decide), oath_fr (fun z => absurd z.1 (by decide))]
          · funext f i
            rw [up_o (by decide), oath_fr (fun z => absurd z.1 (by decide))]
        · funext f i
          rw [oath_fr (fun z => absurd z.1 (by decide))]
      · rfl
    · rfl
  · intro μ o ho
    split
    · unfold sSw
      split
      · funext f; exact sw1_fr (fun z => ho z.1)
      · unfold sSw2
        funext f i
        rw [up_o ho, up_o ho, up_o ho, up_o ho, up_o ho, sw1_fr (fun z => ho z.1)]
    · rfl
-- the end of a year
theorem ld1_at {σ : rS} {o : Nat} : ∀ j i, i < j → j ≤ 40 → sLd1 o j σ o 4 (nI i) = -1 := by
  intro j
  induction j with
  | zero => intro i hi; omega
  | succ j ih =>
    intro i hi hj
    show up (sLd1 o j σ) o 4 (nI j) (-1) o 4 (nI i) = -1
    by_cases hij : i = j
    · rw [hij]; exact up_self
    · rw [show up (sLd1 o j σ) o 4 (nI j) (-1) o 4 (nI i) = sLd1 o j σ o 4 (nI i) from up_i (fun z => hij ((nI_eq (by omega) (by omega)).mp z))]
      exact ih i (by omega) (by omega)
theorem ld2_at {σ : rS} {o : Nat} : ∀ j i, i < j → j ≤ 40 → sLd2 o j σ o 5 (nI i) = -1 := by
  intro j
  induction j with
  | zero => intro i hi; omega
  | succ j ih =>
    intro i hi hj
    show up (sLd2 o j σ) o 5 (nI j) (-1) o 5 (nI i) = -1
    by_cases hij : i = j
    · rw [hij]; exact up_self
    · rw [show up (sLd2 o j σ) o 5 (nI j) (-1) o 5 (nI i) = sLd2 o j σ o 5 (nI i) from up_i (fun z => hij ((nI_eq (by omega) (by omega)).mp z))]
      exact ih i (by omega) (by omega)
theorem seS_45 {σ : rS} {o q m : Nat} {year : Int32} : (∀ x, 0 ≤ x → x < 12 → seS o q year m σ o 4 x = -1) ∧ (∀ p, 0 ≤ p → p < 24 → seS o q year m σ o 5 p = -1) := by
  refine ⟨fun x a b => ?_, fun p a b => ?_⟩
  · obtain ⟨i, hi, rfl⟩ := nI12 a b
    rw [show seS o q year m σ o 4 (nI i) = sLd1 o 12 (seF o q year σ m).2 o 4 (nI i) from ld2_fr (fun z => absurd z.2 (by decide)) 24]
    exact ld1_at 12 i hi (by decide)
  · obtain ⟨i, hi, rfl⟩ := nI24 a b
    exact ld2_at 24 i hi (by decide)
theorem seS_k {σ : rS} {o q m o' k' : Nat} {year : Int32} (h : ¬ (o' = o ∧ (k' = 4 ∨ k' = 5))) : seS o q year m σ o' k' = (seF o q year σ m).2 o' k' := by
  funext i
  rw [show seS o q year m σ o' k' i = sLd1 o 12 (seF o q year σ m).2 o' k' i from ld2_fr (fun z => h ⟨z.1, Or.inr z.2⟩) 24]
  exact ld1_fr (fun z => h ⟨z.1, Or.inl z.2⟩) 12
theorem ar_w24 {j : Int32} (h0 : 0 ≤ j) (h1 : j ≤ 24) : 0 ≤ 10001 * j ∧ 10001 * j ≤ 240024 := by
  by_cases h : j = 24
  · subst h; decide
  · obtain ⟨w0, w1, -⟩ := ar_w (j := j) h0 (by grind)
    exact ⟨w0, Int32.le_trans w1 (by decide)⟩
theorem ar_e0 : ∀ i, i < 40 → (-9750000 : Int32) ≤ -250000 * nI i ∧ (-250000 : Int32) * nI i ≤ 0 ∧ (-250000 : Int32) * (nI i + 1) = -250000 * nI i - 250000 := by decide +kernel
theorem ar_e1 {a v w W hd : Int32} (h : W ≤ a) (W0 : -9750000 ≤ W) (W1 : W ≤ 0) (h2 : a - w ≤ v) (h3 : v ≤ a) (j0 : 0 ≤ w) (j1 : w ≤ 240024) (h4 : a ≤ 200000 - hd) (d0 : 0 ≤ hd) (d1 : hd ≤ 100000) : W - 250000 ≤ v ∧ v ≤ 200000 - hd := by
  have h := tI_le h rfl rfl
  have W0 := tI_le W0 (x := -9750000) rfl rfl
  have W1 := tI_le W1 (y := 0) rfl rfl
  have h3' := tI_le h3 rfl rfl
  have j0 := tI_le j0 (x := 0) rfl rfl
  have j1 := tI_le j1 (y := 240024) rfl rfl
  have d0 := tI_le d0 (x := 0) rfl rfl
  have d1 := tI_le d1 (y := 100000) rfl rfl
  have e0 : (200000 - hd).toInt = 200000 - hd.toInt := tI_sub (a := 200000) (by show -2147483648 ≤ 200000 - hd.toInt; omega) (by show 200000 - hd.toInt < 2147483648; omega)
  have h4' := tI_le h4 rfl e0
  have e1 : (a - w).toInt = a.toInt - w.toInt := tI_sub (by omega) (by omega)
  have h2 := tI_le h2 e1 rfl
  have e2 : (W - 250000).toInt = W.toInt - 250000 := tI_sub (b := 250000) (by show -2147483648 ≤ W.toInt - 250000; omega) (by show W.toInt - 250000 < 2147483648; omega)
  refine ⟨Int32.le_iff_toInt_le.mpr ?_, Int32.le_trans h3 h4⟩
  rw [e2]
  omega
theorem ar_end {a v j Y hd : Int32} (h : -250000 * Y ≤ a) (y0 : 0 ≤ Y) (y1 : Y ≤ 39) (h2 : a - 10001 * j ≤ v) (h3 : v ≤ a) (j0 : 0 ≤ j) (j1 : j ≤ 24) (h4 : a ≤ 200000 - hd) (d0 : 0 ≤ hd) (d1 : hd ≤ 100000) : -250000 * (Y + 1) ≤ v ∧ v ≤ 200000 - hd := by
  obtain ⟨w0, w1⟩ := ar_w24 j0 j1
  obtain ⟨i, hi, rfl⟩ := nI40 (x := Y) y0 (by grind)
  obtain ⟨e0, e1, e2⟩ := ar_e0 i hi
  rw [e2]
  exact ar_e1 h e0 e1 h2 h3 w0 w1 h4 d0 d1
theorem ar_y {b Y : Int32} (h : Y = b - 1) (h0 : 0 ≤ Y) (h1 : 0 ≤ b) (h2 : b ≤ 40) : Y ≤ 39 ∧ b = Y + 1 := by grind
theorem ar_y2 {Y a hd : Int32} (h0 : 0 ≤ Y) (h1 : Y ≤ 40) (h : -250000 * Y ≤ a) (d0 : 0 ≤ hd) (d1 : hd ≤ 100000) (h4 : a ≤ 200000 - hd) : -10000000 ≤ a ∧ a ≤ 200000 := ar_bnd (neg_b h0 h1) ⟨d0, d1, h, h4⟩
theorem p_end {τ μ : rS} {q p n m c : Nat} (h1 : Rl2 τ μ q p n m c) : (if ¬ τ 0 7 0 = 0 then (seF 3 q (τ 0 8 0 - 1) (sEnd1 c τ) m).1 else -1) = (if ¬ μ 8 16 0 = 0 then (mE2 μ m c).1 else -1) ∧ ∃ q' p' n' m' c', Rl2 (if ¬ τ 0 7 0 = 0 then up (up (seS 3 q (τ 0 8 0 - 1) m (sEnd1 c τ)) 0 10 0 (τ 0 10 0 + (seF 3 q (τ 0 8 0 - 1) (sEnd1 c τ) m).1)) 0 7 0 0 else τ) (if ¬ μ 8 16 0 = 0 then mE3 μ m c else μ) q' p' n' m' c' := by
  obtain ⟨hA, hB, hC, hD, hE, hF, hG, hH⟩ := id h1
  rw [hE.1]
  by_cases hon : μ 8 16 0 = 0
  · rw [if_neg (fun z => z hon), if_neg (fun z => z hon), if_neg (fun z => z hon), if_neg (fun z => z hon)]
    exact ⟨rfl, q, p, n, m, c, h1⟩
  · rw [if_pos hon, if_pos hon, if_pos hon, if_pos hon]
    have hq : ¬ q = 3 ∧ ¬ q = 5 ∧ ¬ q = 0 := by rcases hA.1 with z | z <;> omega
    have J0 : JR τ μ n m c := ⟨hF, hG.1 hon⟩
    obtain ⟨J, JC⟩ := ja_eq J0 hC.2.2.2.1 hC.1 hC.2.2.1 hD.2.2.1 c (Nat.le_refl _)
    have hr1 : MIr (itS egStep c μ) := eg_rng hH.1 h1.mi.2.2.2.2.2.2.2.2 hF.2.2.1 c (Nat.le_refl _)
    have T1f : ∀ o' k', ¬ (o' = 3 ∧ (k' = 4 ∨ k' = 5 ∨ k' = 6)) → ¬ (o' = 5 ∧ k' = 4) → sEnd1 c τ o' k' = τ o' k' := fun o' k' x y => by funext i; exact ja_fr x y c
    have U1f : ∀ k', ¬ (k' = 18 ∨ k' = 19 ∨ k' = 26) → itS egStep c μ 8 k' = μ 8 k' := fun k' x => by funext i; exact eg_fr (fun z => x z.2) c
    have U2f : ∀ k', ¬ k' = 14 → mE1 μ m c 8 k' = itS egStep c μ 8 k' := fun k' x => by funext i; exact ys_fr (fun z => x z.2) m
    have JC' : ∀ i, 0 ≤ i → i < nI c → ¬ opn (sEnd1 c τ) i := fun i a b => by
      obtain ⟨j, hj, rfl⟩ := nI40 a (ar_lt b (nI_le40 hF.2.2.1))
      exact JC j ((nI_ltI (by omega) (by have := hF.2.2.1; omega)).mp b)
    have g3 : R3 (sEnd1 c τ) (mE1 μ m c) 3 0 := fun x a b => by
      rw [T1f 3 0 (by decide) (by decide), T1f 3 2 (by decide) (by decide), U2f 11 (by decide), U2f 13 (by decide), U1f 11 (by decide), U1f 13 (by decide)]
      exact hC.2.2.2.1 x a b
    have g7 : R7 (sEnd1 c τ) (mE1 μ m c) 3 0 n m := J.2.1.tr rfl rfl (U2f 18 (by decide))
    have gD : RD (sEnd1 c τ) (mE1 μ m c) q m := hD.tr (by funext k'; exact T1f q k' (fun z => hq.1 z.1) (fun z => hq.2.1 z.1)) ((U2f 3 (by decide)).trans (U1f 3 (by decide))) ((U2f 4 (by decide)).trans (U1f 4 (by decide))) ((U2f 5 (by decide)).trans (U1f 5 (by decide))) ((U2f 6 (by decide)).trans (U1f 6 (by decide))) ((U2f 7 (by decide)).trans (U1f 7 (by decide)))
    have gs : sEnd1 c τ 3 7 0 = nI n := by rw [T1f 3 7 (by decide) (by decide)]; exact hC.1
    obtain ⟨s1, s3⟩ := settle_eq (year := μ 8 15 0 - 1) gs hC.2.2.1 g3 g7 gD hq.1 m (Nat.le_refl _)
    have YS := ys_eq (q := q) (year := μ 8 15 0 - 1) gs hC.2.2.1 hD.2.2.1 J.2.1 (fun x a b => by rw [T1f 3 3 (by decide) (by decide), U1f 14 (by decide)]; exact (hC.2.2.2.2.1 x a b).2) m (Nat.le_refl _)
    have hy0 := hE.2.2.2.2.2.2.1
    have hy1 := hE.2.2.2.2.2.2.2
    have eY : yrs μ = μ 8 15 0 - 1 := if_neg hon
    have aY := ar_y eY hy0 hE.2.2.1 hE.2.2.2.1
    have BD := en_bd (n := n) (year := μ 8 15 0 - 1) gD (fun x a b => by
      rw [U2f 11 (by decide), U1f 11 (by decide)]
      have z := hC.2.2.2.2.2 x a b
      exact ar_y2 hy0 hy1 z.2.2.1 z.1 z.2.1 z.2.2.2) m (Nat.le_refl _)
    rw [hE.2.1]
    refine ⟨s1, q, p, n, m, c, ?_⟩
    have r9 := seS_45 (σ := sEnd1 c τ) (o := 3) (q := q) (m := m) (year := μ 8 15 0 - 1)
    have sk : ∀ o' k', ¬ (o' = 3 ∧ (k' = 4 ∨ k' = 5)) → seS 3 q (μ 8 15 0 - 1) m (sEnd1 c τ) o' k' = (seF 3 q (μ 8 15 0 - 1) (sEnd1 c τ) m).2 o' k' := fun o' k' h => seS_k h
    have sf : ∀ o' k', ¬ (o' = 3 ∧ (k' = 0 ∨ k' = 2 ∨ k' = 3)) → (seF 3 q (μ 8 15 0 - 1) (sEnd1 c τ) m).2 o' k' = sEnd1 c τ o' k' := fun o' k' h => by funext i; exact seF_fr h m
    have ef : ∀ k', ¬ (k' = 11 ∨ k' = 13) → (mE2 μ m c).2 8 k' = mE1 μ m c 8 k' := fun k' h => by funext i; exact enG_fr (fun z => h z.2) m
    have e10 := hE.2.2.2.2.2.1
    rw [e10]
    unfold mE3
    have s1' : (seF 3 q (μ 8 15 0 - 1) (sEnd1 c τ) m).1 = (mE2 μ m c).1 := s1
    have s3' : R3 (seF 3 q (μ 8 15 0 - 1) (sEnd1 c τ) m).2 (mE2 μ m c).2 3 0 := s3
    have BD' : ∀ x, 0 ≤ x → x < 12 → (mE2 μ m c).2 8 11 x ≤ mE1 μ m c 8 11 x ∧ mE1 μ m c 8 11 x - 10001 * nI m ≤ (mE2 μ m c).2 8 11 x := BD
    have YS' : ∀ x, 0 ≤ x → x < 12 → (seF 3 q (μ 8 15 0 - 1) (sEnd1 c τ) m).2 3 3 x = mE1 μ m c 8 14 x := YS
    clear s1 s3 BD YS g3 g7
    generalize seS 3 q (μ 8 15 0 - 1) m (sEnd1 c τ) = Z at *
    generalize seF 3 q (μ 8 15 0 - 1) (sEnd1 c τ) m = S at *
    generalize mE2 μ m c = E at *
    generalize mE1 μ m c = U2 at *
    rw [s1']
    have tt : ∀ o' k', ¬ (o' = 0 ∧ (k' = 10 ∨ k' = 7)) → up (up Z 0 10 0 (μ 8 20 0 + E.1)) 0 7 0 0 o' k' = Z o' k' := fun o' k' h => by
      funext i
      simp only [up]
      rw [if_neg (fun z => h ⟨z.1, Or.inr z.2.1⟩), if_neg (fun z => h ⟨z.1, Or.inl z.2.1⟩)]
    have uu : ∀ k', ¬ (k' = 20 ∨ k' = 16) → up (up E.2 8 20 0 (μ 8 20 0 + E.1)) 8 16 0 0 8 k' = E.2 8 k' := fun k' h => by
      funext i
      rw [up_k (fun z => h (Or.inr z)), up_k (fun z => h (Or.inl z))]
    have t7 : up (up Z 0 10 0 (μ 8 20 0 + E.1)) 0 7 0 0 0 7 0 = 0 := up_self
    have t10 : up (up Z 0 10 0 (μ 8 20 0 + E.1)) 0 7 0 0 0 10 0 = μ 8 20 0 + E.1 := (up_k (by decide)).trans up_self
    have u16 : up (up E.2 8 20 0 (μ 8 20 0 + E.1)) 8 16 0 0 8 16 0 = 0 := up_self
    have u20 : up (up E.2 8 20 0 (μ 8 20 0 + E.1)) 8 16 0 0 8 20 0 = μ 8 20 0 + E.1 := (up_k (by decide)).trans up_self
    generalize up (up Z 0 10 0 (μ 8 20 0 + E.1)) 0 7 0 0 = F at *
    generalize up (up E.2 8 20 0 (μ 8 20 0 + E.1)) 8 16 0 0 = V at *
    have ft : ∀ o' k', ¬ (o' = 0 ∧ (k' = 10 ∨ k' = 7)) → ¬ (o' = 3 ∧ (k' = 4 ∨ k' = 5)) → ¬ (o' = 3 ∧ (k' = 0 ∨ k' = 2 ∨ k' = 3)) → F o' k' = sEnd1 c τ o' k' := fun o' k' a b d => ((tt o' k' a).trans (sk o' k' b)).trans (sf o' k' d)
    have fv : ∀ k', ¬ (k' = 20 ∨ k' = 16) → ¬ (k' = 11 ∨ k' = 13) → ¬ k' = 14 → V 8 k' = itS egStep c μ 8 k' := fun k' a b d => ((uu k' a).trans (ef k' b)).trans (U2f k' d)
    have fvv : ∀ k', ¬ (k' = 20 ∨ k' = 16) → ¬ (k' = 11 ∨ k' = 13) → ¬ k' = 14 → ¬ (k' = 18 ∨ k' = 19 ∨ k' = 26) → V 8 k' = μ 8 k' := fun k' a b d e => (fv k' a b d).trans (U1f k' e)
    have f5 : F 5 = sEnd1 c τ 5 := by funext k'; exact ft 5 k' (fun z => absurd z.1 (by decide)) (fun z => absurd z.1 (by decide)) (fun z => absurd z.1 (by decide))
    have yV : yrs V = μ 8 15 0 := by unfold yrs; rw [u16, if_pos rfl, fvv 15 (by decide) (by decide) (by decide) (by decide)]
    have tau : ∀ o', ¬ o' = 0 → ¬ o' = 3 → ¬ o' = 5 → F o' = τ o' := fun o' a b d => by
      funext k'
      exact (ft o' k' (fun z => a z.1) (fun z => b z.1) (fun z => b z.1)).trans (T1f o' k' (fun z => b z.1) (fun z => d z.1))
    have t0 : ∀ k', ¬ (k' = 10 ∨ k' = 7) → F 0 k' = τ 0 k' := fun k' a => (ft 0 k' (fun z => a z.2) (fun z => absurd z.1 (by decide)) (fun z => absurd z.1 (by decide))).trans (T1f 0 k' (fun z => absurd z.1 (by decide)) (fun z => absurd z.1 (by decide)))
    refine ⟨hA.tr (t0 5 (by decide)) (t0 6 (by decide)), hB.tr (tau 1 (by decide) (by decide) (by decide)) (tau 2 (by decide) (by decide) (by decide)) (fvv 0 (by decide) (by decide) (by decide) (by decide)) (fvv 1 (by decide) (by decide) (by decide) (by decide)) (fvv 8 (by decide) (by decide) (by decide) (by decide)) (fvv 9 (by decide) (by decide) (by decide) (by decide)), ⟨?_, ?_, hC.2.2.1, fun x a b => ?_, fun x a b => ?_, fun x a b => ?_⟩, hD.tr (tau q hq.2.2 hq.1 hq.2.1) (fvv 3 (by decide) (by decide) (by decide) (by decide)) (fvv 4 (by decide) (by decide) (by decide) (by decide)) (fvv 5 (by decide) (by decide) (by decide) (by decide)) (fvv 6 (by decide) (by decide) (by decide) (by decide)) (fvv 7 (by decide) (by decide) (by decide) (by decide)), ⟨?_, ?_, ?_, ?_, ?_, ?_, ?_, ?_⟩, J.1.tr f5 (fv 21 (by decide) (by decide) (by decide)) (fv 22 (by decide) (by decide) (by decide)) (fv 23 (by decide) (by decide) (by decide)) (fv 24 (by decide) (by decide) (by decide)) (fv 25 (by decide) (by decide) (by decide)) (fv 26 (by decide) (by decide) (by decide)) (fv 27 (by decide) (by decide) (by decide)) (fv 28 (by decide) (by decide) (by decide)) (fv 29 (by decide) (by decide) (by decide)), ⟨fun z => absurd u16 z, fun _ => ⟨⟨fun x a b => ?_, fun x a b => ?_⟩, fun k a b o => ?_⟩⟩, ⟨?_, ?_⟩⟩
    · rw [ft 3 7 (by decide) (by decide) (by decide)]; exact gs
    · rw [fvv 10 (by decide) (by decide) (by decide) (by decide)]; exact hC.2.1
    · rw [(tt 3 0 (by decide)).trans (sk 3 0 (by decide)), (tt 3 2 (by decide)).trans (sk 3 2 (by decide)), uu 11 (by decide), uu 13 (by decide)]
      exact s3' x a b
    · rw [ft 3 1 (by decide) (by decide) (by decide), T1f 3 1 (by decide) (by decide), fvv 12 (by decide) (by decide) (by decide) (by decide), (tt 3 3 (by decide)).trans (sk 3 3 (by decide)), (uu 14 (by decide)).trans (ef 14 (by decide))]
      exact ⟨(hC.2.2.2.2.1 x a b).1, YS' x a b⟩
    · have z := hC.2.2.2.2.2 x a b
      have w := BD' x a b
      rw [U2f 11 (by decide), U1f 11 (by decide)] at w
      rw [yV, fvv 12 (by decide) (by decide) (by decide) (by decide), uu 11 (by decide), aY.2]
      have R := ar_end z.2.2.1 hy0 aY.1 w.2 w.1 (nI_pos' (by have := hD.2.2.1; omega)) (nI_le24 hD.2.2.1) z.2.2.2 z.1 z.2.1
      exact ⟨z.1, z.2.1, R.1, R.2⟩
    · rw [t7, u16]
    · rw [t0 8 (by decide), fvv 15 (by decide) (by decide) (by decide) (by decide)]; exact hE.2.1
    · rw [fvv 15 (by decide) (by decide) (by decide) (by decide)]; exact hE.2.2.1
    · rw [fvv 15 (by decide) (by decide) (by decide) (by decide)]; exact hE.2.2.2.1
    · rw [t0 9 (by decide), fvv 17 (by decide) (by decide) (by decide) (by decide)]; exact hE.2.2.2.2.1
    · rw [t10, u20]
    · rw [yV]; exact hE.2.2.1
    · rw [yV]; exact hE.2.2.2.1
    · rw [tt 3 4 (by decide)]; exact r9.1 x a b
    · rw [tt 3 5 (by decide)]; exact r9.2 x a b
    · unfold opn at o
      rw [f5] at o
      exact JC' k a b o
    · intro i a b
      rw [fv 18 (by decide) (by decide) (by decide)]
      exact hr1 i a b
    · intro i hi
      rw [fvv 30 (by decide) (by decide) (by decide) (by decide)]
      exact hH.2 i hi
theorem b_end {σ : rS} (h : Rl σ) : both mX5_end mX6_end [] σ := by
  obtain ⟨q, p, n, m, c, h⟩ := h
  refine both_pure h (c_X5_end h.sh) (fun μ e hR => c_X6_end e hR.mi) ?_ (fun μ hR => p_end hR) ?_
  · split
    · funext f i
      rw [up_o (by decide), up_o (by decide), seS_fr (fun z => absurd z.1 (by decide))]
      exact ja_fr (fun z => absurd z.1 (by decide)) (fun z => absurd z.1 (by decide)) c
    · rfl
  · intro μ o ho
    split
    · funext f i
      unfold mE3
      rw [up_o ho, up_o ho, enG_fr (fun z => ho z.1) m, show mE1 μ m c o f i = itS egStep c μ o f i from ys_fr (fun z => ho z.1) m]
      exact eg_fr (fun z => ho z.1) c
    · rfl
