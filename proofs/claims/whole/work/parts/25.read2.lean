-- read, statutes
theorem itup_wr {σ : rS} {a : rA3} {o k : Nat} {v : Int32} (h : ¬ (o = 2 ∧ (k = 3 ∨ k = 4 ∨ k = 5))) : ∀ j, itS (fun j τ => up τ o k (nI j) v) j (wr σ a) = wr (itS (fun j τ => up τ o k (nI j) v) j σ) a := by
  intro j
  induction j with
  | zero => rfl
  | succ j ih =>
    show up (itS (fun j τ => up τ o k (nI j) v) j (wr σ a)) o k (nI j) v = wr (up (itS (fun j τ => up τ o k (nI j) v) j σ) o k (nI j) v) a
    rw [ih, wr_up h]
theorem itup_fr {σ : rS} {o k : Nat} {v : Int32} {o' k' : Nat} {i' : Int32} (h : ¬ (o' = o ∧ k' = k)) : ∀ j, itS (fun j τ => up τ o k (nI j) v) j σ o' k' i' = σ o' k' i' := by
  intro j
  induction j with
  | zero => rfl
  | succ j ih =>
    show up (itS (fun j τ => up τ o k (nI j) v) j σ) o k (nI j) v o' k' i' = _
    generalize itS (fun j τ => up τ o k (nI j) v) j σ = s at ih ⊢
    simp only [up]; grind
theorem itup_at {σ : rS} {o k : Nat} {v : Int32} : ∀ j i, i < j → j ≤ 600 → itS (fun j τ => up τ o k (nI j) v) j σ o k (nI i) = v := by
  intro j
  induction j with
  | zero => intro i hi _; omega
  | succ j ih =>
    intro i hi hj
    show up (itS (fun j τ => up τ o k (nI j) v) j σ) o k (nI j) v o k (nI i) = v
    by_cases h : i = j
    · subst h; rw [up_self]
    · rw [up_i (fun z => h ((nI_eq (by omega) (by omega)).mp z))]
      exact ih i (by omega) (by omega)
theorem sClr_wr {σ : rS} {a : rA3} {q : Nat} (hq : ¬ q = 2) : sClr q (wr σ a) = wr (sClr q σ) a := by
  unfold sClr
  rw [itup_wr (by grind), itup_wr (by grind), itup_wr (by grind), wr_up (by grind)]
theorem sClr_fr {σ : rS} {q o' k' : Nat} {i' : Int32} (h : ¬ o' = q) : sClr q σ o' k' i' = σ o' k' i' := by
  unfold sClr
  rw [up_o h, itup_fr (by grind), itup_fr (by grind), itup_fr (by grind)]
theorem sClr_sh {σ : rS} {q : Nat} : shB (sClr q σ) q := by
  intro b h1 h2
  have e : sClr q σ q 1 b = 0 := by
    unfold sClr
    rw [up_k (by decide), itup_fr (by simp)]
    have hb : b = nI b.toNatClampNeg := (nI_cl (by grind)).symm
    rw [hb]
    exact itup_at 6 _ (cl_lt24 6 (by decide) ⟨h1, h2⟩) (by decide)
  rw [e]
  exact ⟨by decide, by decide⟩
def told0 : Nat → rS → rS := itS (fun j τ => up τ 2 1 (nI j) 0)
/-- what a reading begins with -/
abbrev rd0 (σ : rS) (N q : Nat) : rS × rA3 := (sClr q (told0 4 (up σ 2 2 0 (nI N))), (0, 0, -1))
abbrev rdR (σ : rS) (N q : Nat) : rS × rA3 := rdF (tx σ) N q 601 (rd0 σ N q)
abbrev rdS (σ : rS) (N q : Nat) : rS := npO q (shN (rdR σ N q).1 q) 6 (up (wr (rdR σ N q).1 (rdR σ N q).2) q 4 0 0)
theorem liS_tx {T : Nat → Int32} {N q : Nat} {σ : rS} {a : rA3} (h1 : isO q 3) : tx (liS T N q σ a) = tx σ := by
  funext i
  show liS T N q σ a 1 0 (nI i) &&& 255 = σ 1 0 (nI i) &&& 255
  rw [liS_fr (fun z => by subst z; exact absurd h1.2 (by decide)) (by decide)]
theorem rd0_2 {σ : rS} {N q : Nat} (hq2 : ¬ q = 2) : (rd0 σ N q).1 2 2 0 = nI N := by
  show sClr q (told0 4 (up σ 2 2 0 (nI N))) 2 2 0 = nI N
  rw [sClr_fr (fun z => hq2 z.symm)]
  exact (itup_fr (by decide) 4).trans up_self
theorem rd0_tx {σ : rS} {N q : Nat} (hq1 : ¬ q = 1) : tx (rd0 σ N q).1 = tx σ := by
  funext k
  show sClr q (told0 4 (up σ 2 2 0 (nI N))) 1 0 (nI k) &&& 255 = σ 1 0 (nI k) &&& 255
  rw [sClr_fr (fun z => hq1 z.symm)]
  exact congrArg (· &&& 255) ((itup_fr (by decide) 4).trans (up_o (by decide)))
theorem c_X1_read {σ : rS} {N q : Nat} (h1 : isO q 3) (hN2 : N ≤ 600) : Ct mX1_read [.inr (2, 0), .inl (nI N), .inr (q, 0)] σ (some (.inl (bI ((rdR σ N q).2.2.1 = 0)))) (rdS σ N q) := by
  have hq2 : ¬ q = 2 := isO_ne h1 (⟨by decide, rfl⟩ : isO 2 1) (by decide)
  have hq1 : ¬ q = 1 := isO_ne h1 (⟨by decide, rfl⟩ : isO 1 4) (by decide)
  refine C_of_E rfl rfl (Nat.le_of_ble_eq_true rfl) ?_
  have fin : ∀ (τ : rS) (a : rA3), shB τ q → E mX1_read 83 [.inr (2, 0), .inl (nI N), .inr (q, 0)] [] (wr τ a) (some (.inl (bI (a.2.1 = 0)))) (npO q (shN τ q) 6 (up (wr τ a) q 4 0 0)) := by
    intro τ a hsh
    have hso : shOk (wr τ a) q (shN τ q) := by
      intro j hj
      rw [wr_fr (by grind)]
      exact shOk_of hsh j hj
    have hfk : npO q (shN τ q) 6 (up (wr τ a) q 4 0 0) 2 4 0 = a.2.1 := (npO_fr (by grind) 6).trans ((up_o (by grind)).trans wr_4)
    refine e_aload_n dX1_read_83 rfl ?_
    refine e_V0v oX3_numberPlaces lX1_49 ⟨Nat.le_of_ble_eq_true rfl, Nat.le_of_ble_eq_true rfl⟩ dX1_read_84 (by first | assumption | exact ⟨by decide, rfl⟩) (Nat.le_of_ble_eq_true rfl) (c_X3_numberPlaces h1 hso) ?_
    refine e_aload_n dX1_read_87 rfl ?_
    refine e_V0 oX1_isSound lX1_37 ⟨Nat.le_of_ble_eq_true rfl, Nat.le_of_ble_eq_true rfl⟩ dX1_read_88 (by first | assumption | exact ⟨by decide, rfl⟩) (Nat.le_of_ble_eq_true rfl) (c_X1_isSound) ?_
    exact e_ireB rfl dX1_read_91 rfl (by rw [hfk]) rfl
  have loop : ∀ c j, j + c = 601 → ∀ s : rS × rA3, s.1 2 2 0 = nI N → tx s.1 = tx σ → s.2.1 ≤ N → shB s.1 q → E mX1_read 50 [.inr (2, 0), .inl (nI N), .inr (q, 0), .inl (nI j)] [] (wr s.1 s.2) (some (.inl (bI ((rdF (tx σ) N q c s).2.2.1 = 0)))) (npO q (shN (rdF (tx σ) N q c s).1 q) 6 (up (wr (rdF (tx σ) N q c s).1 (rdF (tx σ) N q c s).2) q 4 0 0)) := by
    intro c
    induction c with
    | zero =>
      intro j hj s g1 g2 g3 g4
      have hj6 : j = 601 := by omega
      subst hj6
      have e6 : nI 601 = 601 := rfl
      have fs := fin s.1 s.2 g4
      refine e_iload_n dX1_read_50 rfl ?_
      refine e_sipush (v := 600) dX1_read_51 (by decide) ?_
      refine e_icmp_gt (tgt := 83) dX1_read_54 (by decide) (fun h54 => ?_) (fun h54 => ?_)
      rotate_left
      · exfalso
        grind
      exact e_to fs (by first | rfl | (simp [lset]; done) | (simp [lset]; grind)) rfl
    | succ c ih =>
      intro j hj s g1 g2 g3 g4
      have e6 : nI j ≤ 600 := nI_le (b := 600) (by omega) (by decide)
      obtain ⟨τ, i, f, w⟩ := s
      dsimp only at g1 g2 g3 g4 ⊢
      have hfk : wr τ (i, f, w) 2 4 0 = f := wr_4
      have hp := sk_le (T := tx σ) g3
      rw [rdF]
      dsimp only
      by_cases hf : f = 0
      · rw [if_pos hf]
        have hns := c_X1_nextSign (σ := τ) (N := N) (i := i) (f := f) (w := w) g1 hN2 g3
        rw [g2] at hns
        by_cases hpN : skN (tx σ) N i < N
        · rw [if_pos hpN]
          have hsg : sgn (tx σ) N (skN (tx σ) N i) = tx σ (skN (tx σ) N i) := if_pos hpN
          have hne : ¬ tx σ (skN (tx σ) N i) = -1 := and255 _
          have hrl := c_X1_readLine (σ := τ) (N := N) (q := q) (i := skN (tx σ) N i) (f := f) (w := w) h1 g1 hN2 hp.2
          rw [g2] at hrl
          have ihx := ih (j + 1) (by omega) (liS (tx σ) N q τ (skN (tx σ) N i, f, w), liA (tx σ) N q τ (skN (tx σ) N i, f, w)) ((liS_fr (fun z => hq2 z.symm) (by decide)).trans g1) ((liS_tx h1).trans g2) (liA_le (a := (skN (tx σ) N i, f, w)) hp.2) (liS_sh hq2 g4)
          dsimp only at ihx
          clear ih fin g4 hrl
          have hrl := c_X1_readLine (σ := τ) (N := N) (q := q) (i := skN (tx σ) N i) (f := f) (w := w) h1 g1 hN2 hp.2
          rw [g2] at hrl
          clear g2
          refine e_iload_n dX1_read_50 rfl ?_
          refine e_sipush (v := 600) dX1_read_51 (by decide) ?_
          refine e_icmp_gt (tgt := 83) dX1_read_54 (by decide) (fun h54 => ?_) (fun h54 => ?_)
          · exfalso
            grind
          refine e_aload_n dX1_read_57 rfl ?_
          refine e_V0 oX1_isSound lX1_37 ⟨Nat.le_of_ble_eq_true rfl, Nat.le_of_ble_eq_true rfl⟩ dX1_read_58 (by first | assumption | exact ⟨by decide, rfl⟩) (Nat.le_of_ble_eq_true rfl) (c_X1_isSound) ?_
          rw [hfk]
          refine e_if_eqB (tgt := 83) dX1_read_61 (by decide) (fun h61 => ?_) (fun h61 => ?_)
          · exfalso
            grind
          refine e_aload_n dX1_read_64 rfl ?_
          refine e_V0 oX1_nextSign lX1_41 ⟨Nat.le_of_ble_eq_true rfl, Nat.le_of_ble_eq_true rfl⟩ dX1_read_65 (by first | assumption | exact ⟨by decide, rfl⟩) (Nat.le_of_ble_eq_true rfl) hns ?_
          rw [hsg]
          refine e_iconst (v := -1) dX1_read_68 (by decide) ?_
          refine e_icmp_eq (tgt := 83) dX1_read_69 (by decide) (fun h69 => ?_) (fun h69 => ?_)
          · exfalso
            grind
          refine e_aload_n dX1_read_72 rfl ?_
          refine e_aload_n dX1_read_73 rfl ?_
          refine e_V1v oX1_readLine lX1_45 ⟨Nat.le_of_ble_eq_true rfl, Nat.le_of_ble_eq_true rfl⟩ dX1_read_74 (by first | assumption | exact ⟨by decide, rfl⟩) (Nat.le_of_ble_eq_true rfl) hrl ?_
          refine e_inc (1) (by decide) dX1_read_77 rfl (by decide) (Nat.le_of_ble_eq_true rfl) ?_
          refine e_goto (tgt := 50) dX1_read_80 (by decide) ?_
          exact e_to ihx (by simp [lset, nI_succ]) rfl
        · rw [if_neg hpN]
          have hsg : sgn (tx σ) N (skN (tx σ) N i) = -1 := if_neg hpN
          have fs := fin τ (skN (tx σ) N i, f, w) g4
          clear ih fin g4 g2
          refine e_iload_n dX1_read_50 rfl ?_
          refine e_sipush (v := 600) dX1_read_51 (by decide) ?_
          refine e_icmp_gt (tgt := 83) dX1_read_54 (by decide) (fun h54 => ?_) (fun h54 => ?_)
          · exfalso
            grind
          refine e_aload_n dX1_read_57 rfl ?_
          refine e_V0 oX1_isSound lX1_37 ⟨Nat.le_of_ble_eq_true rfl, Nat.le_of_ble_eq_true rfl⟩ dX1_read_58 (by first | assumption | exact ⟨by decide, rfl⟩) (Nat.le_of_ble_eq_true rfl) (c_X1_isSound) ?_
          rw [hfk]
          refine e_if_eqB (tgt := 83) dX1_read_61 (by decide) (fun h61 => ?_) (fun h61 => ?_)
          · exfalso
            grind
          refine e_aload_n dX1_read_64 rfl ?_
          refine e_V0 oX1_nextSign lX1_41 ⟨Nat.le_of_ble_eq_true rfl, Nat.le_of_ble_eq_true rfl⟩ dX1_read_65 (by first | assumption | exact ⟨by decide, rfl⟩) (Nat.le_of_ble_eq_true rfl) hns ?_
          rw [hsg]
          refine e_iconst (v := -1) dX1_read_68 (by decide) ?_
          refine e_icmp_eq (tgt := 83) dX1_read_69 (by decide) (fun h69 => ?_) (fun h69 => ?_)
          rotate_left
          · exfalso
            grind
          exact e_to fs (by first | rfl | (simp [lset]; done) | (simp [lset]; grind)) rfl
      · rw [if_neg hf]
        have fs := fin τ (i, f, w) g4
        clear ih fin g4 g2
        refine e_iload_n dX1_read_50 rfl ?_
        refine e_sipush (v := 600) dX1_read_51 (by decide) ?_
        refine e_icmp_gt (tgt := 83) dX1_read_54 (by decide) (fun h54 => ?_) (fun h54 => ?_)
        · exfalso
          grind
        refine e_aload_n dX1_read_57 rfl ?_
        refine e_V0 oX1_isSound lX1_37 ⟨Nat.le_of_ble_eq_true rfl, Nat.le_of_ble_eq_true rfl⟩ dX1_read_58 (by first | assumption | exact ⟨by decide, rfl⟩) (Nat.le_of_ble_eq_true rfl) (c_X1_isSound) ?_
        rw [hfk]
        refine e_if_eqB (tgt := 83) dX1_read_61 (by decide) (fun h61 => ?_) (fun h61 => ?_)
        rotate_left
        · exfalso
          grind
        exact e_to fs (by first | rfl | (simp [lset]; done) | (simp [lset]; grind)) rfl
  have start := loop 601 0 rfl (rd0 σ N q) (rd0_2 hq2) (rd0_tx hq1) (Nat.zero_le _) sClr_sh
  have told : ∀ j, j ≤ 4 → E mX1_read 22 [.inr (2, 0), .inl (nI N), .inr (q, 0), .inl (nI j)] [] (told0 j (wr (up σ 2 2 0 (nI N)) (0, 0, -1))) (some (.inl (bI ((rdR σ N q).2.2.1 = 0)))) (rdS σ N q) := by
    have e0 : sClr q (told0 4 (wr (up σ 2 2 0 (nI N)) (0, 0, -1))) = wr (rd0 σ N q).1 (rd0 σ N q).2 := by
      unfold told0
      rw [itup_wr (by decide), sClr_wr hq2]
      rfl
    refine dn_ind 4 _ ?_ (fun j hj ih => ?_)
    · have e4 : nI 4 = 4 := rfl
      clear loop fin
      refine e_iload_n dX1_read_22 rfl ?_
      refine e_aload_n dX1_read_23 rfl ?_
      refine e_getA kX1 (by first | assumption | exact ⟨by decide, rfl⟩) (by decide) fX1_15 rfl dX1_read_24 ?_
      refine e_alen (ci := 1) (n := 4) (by first | assumption | exact ⟨by decide, rfl⟩) rfl (by decide) dX1_read_27 ?_
      refine e_icmp_ge (tgt := 44) dX1_read_28 (by decide) (fun h28 => ?_) (fun h28 => ?_)
      rotate_left
      · exfalso
        grind
      refine e_aload_n dX1_read_44 rfl ?_
      refine e_V0v oX3_clear lX1_32 ⟨Nat.le_of_ble_eq_true rfl, Nat.le_of_ble_eq_true rfl⟩ dX1_read_45 (by first | assumption | exact ⟨by decide, rfl⟩) (Nat.le_of_ble_eq_true rfl) (c_X3_clear h1) ?_
      refine e_iconst (v := 0) dX1_read_48 (by decide) ?_
      refine e_istore_n dX1_read_49 (by decide) (Nat.le_of_ble_eq_true rfl) ?_
      exact e_to start (by simp [lset]; rfl) e0
    · obtain ⟨f1, f2, f3, f4⟩ := nI_facts 4 hj (Nat.le_refl _) (by decide) rfl
      have e4 : nI 4 = 4 := rfl
      clear loop fin
      refine e_iload_n dX1_read_22 rfl ?_
      refine e_aload_n dX1_read_23 rfl ?_
      refine e_getA kX1 (by first | assumption | exact ⟨by decide, rfl⟩) (by decide) fX1_15 rfl dX1_read_24 ?_
      refine e_alen (ci := 1) (n := 4) (by first | assumption | exact ⟨by decide, rfl⟩) rfl (by decide) dX1_read_27 ?_
      refine e_icmp_ge (tgt := 44) dX1_read_28 (by decide) (fun h28 => ?_) (fun h28 => ?_)
      · exfalso
        grind
      refine e_aload_n dX1_read_31 rfl ?_
      refine e_getA kX1 (by first | assumption | exact ⟨by decide, rfl⟩) (by decide) fX1_15 rfl dX1_read_32 ?_
      refine e_iload_n dX1_read_35 rfl ?_
      refine e_iconst (v := 0) dX1_read_36 (by decide) ?_
      refine e_zast (ci := 1) (by first | assumption | exact ⟨by decide, rfl⟩) rfl (vin 4 (by decide) (by grind)) (by first | exact bI_or | simp) dX1_read_37 ?_
      refine e_inc (1) (by decide) dX1_read_38 rfl (by decide) (Nat.le_of_ble_eq_true rfl) ?_
      refine e_goto (tgt := 22) dX1_read_41 (by decide) ?_
      exact e_to ih (by simp [lset, f4]) rfl
  clear loop fin start
  refine e_aload_n dX1_read_0 rfl ?_
  refine e_iload_n dX1_read_1 rfl ?_
  refine e_putI kX1 (by first | assumption | exact ⟨by decide, rfl⟩) (by decide) fX1_19 rfl rfl rfl dX1_read_2 ?_
  refine e_aload_n dX1_read_5 rfl ?_
  refine e_iconst (v := 0) dX1_read_6 (by decide) ?_
  refine e_putI kX1 (by first | assumption | exact ⟨by decide, rfl⟩) (by decide) fX1_23 rfl rfl rfl dX1_read_7 ?_
  refine e_aload_n dX1_read_10 rfl ?_
  refine e_iconst (v := 0) dX1_read_11 (by decide) ?_
  refine e_putI kX1 (by first | assumption | exact ⟨by decide, rfl⟩) (by decide) fX1_26 rfl rfl rfl dX1_read_12 ?_
  refine e_aload_n dX1_read_15 rfl ?_
  refine e_iconst (v := -1) dX1_read_16 (by decide) ?_
  refine e_putI kX1 (by first | assumption | exact ⟨by decide, rfl⟩) (by decide) fX1_29 rfl rfl rfl dX1_read_17 ?_
  refine e_iconst (v := 0) dX1_read_20 (by decide) ?_
  refine e_istore_n dX1_read_21 (by decide) (Nat.le_of_ble_eq_true rfl) ?_
  exact e_to (told 0 (Nat.zero_le _)) (by simp [lset]; rfl) rfl
-- statutes
abbrev stB (σ : rS) (n : Int32) : Prop := σ 0 7 0 = 0 ∧ 0 ≤ n ∧ n ≤ σ 1 1 0
abbrev stS (σ : rS) (N q p : Nat) : rS := up (rdS σ N p) 1 1 0 0
theorem rdF_fr {T : Nat → Int32} {N q : Nat} {o' k' : Nat} {i' : Int32} (h : ¬ o' = q) (h2 : ¬ (o' = 2 ∧ k' = 1)) : ∀ c (s : rS × rA3), (rdF T N q c s).1 o' k' i' = s.1 o' k' i' := by
  intro c
  induction c with
  | zero => intro s; rfl
  | succ c ih =>
    intro s
    rw [rdF]
    split
    · split
      · exact (ih _).trans (liS_fr h h2)
      · rfl
    · rfl
theorem rdS_fr {σ : rS} {N q : Nat} {o' k' : Nat} {i' : Int32} (h : ¬ o' = q) (h2 : ¬ o' = 2) : rdS σ N q o' k' i' = σ o' k' i' := by
  unfold rdS
  rw [npO_fr (by grind), up_o h, wr_fr (by grind)]
  unfold rdR
  rw [rdF_fr h (by grind)]
  show sClr q (told0 4 (up σ 2 2 0 (nI N))) o' k' i' = _
  rw [sClr_fr h]
  exact (itup_fr (by grind) 4).trans (up_o h2)
theorem c_X5_statutes {n : Int32} {q p : Nat} {σ : rS} (hl : (σ 0 5 0).toNatClampNeg = q) (h1 : isO q 3) (hd : (σ 0 6 0).toNatClampNeg = p) (hp1 : isO p 3) (ht : σ 1 1 0 ≤ 600) : Ct mX5_statutes [.inr (0, 0), .inl n] σ (some (.inl (if stB σ n then (if (rdR σ n.toNatClampNeg p).2.2.1 = 0 then rdS σ n.toNatClampNeg p p 4 0 else -1) else -2))) (if stB σ n then (if (rdR σ n.toNatClampNeg p).2.2.1 = 0 then up (up (stS σ n.toNatClampNeg q p) 0 5 0 (nI p)) 0 6 0 (nI q) else stS σ n.toNatClampNeg q p) else σ) := by
  refine C_of_E rfl rfl (Nat.le_of_ble_eq_true rfl) ?_
  have hp0 : ¬ p = 0 := isO_ne hp1 (⟨by decide, rfl⟩ : isO 0 5) (by decide)
  have hpp1 : ¬ p = 1 := isO_ne hp1 (⟨by decide, rfl⟩ : isO 1 4) (by decide)
  have hq0 : q < 2 ^ 31 := Nat.lt_trans h1.1 (by decide)
  have hpl : p < 2 ^ 31 := Nat.lt_trans hp1.1 (by decide)
  have e5 : stS σ n.toNatClampNeg q p 0 5 0 = σ 0 5 0 := (up_o (by decide)).trans (rdS_fr (fun z => hp0 z.symm) (by decide))
  have e6 : stS σ n.toNatClampNeg q p 0 6 0 = σ 0 6 0 := (up_o (by decide)).trans (rdS_fr (fun z => hp0 z.symm) (by decide))
  have e4 : up (up (stS σ n.toNatClampNeg q p) 0 5 0 (nI p)) 0 6 0 (nI q) p 4 0 = rdS σ n.toNatClampNeg p p 4 0 := (up_o hp0).trans ((up_o hp0).trans (up_o hpp1))
  by_cases hB : stB σ n
  · rw [if_pos hB, if_pos hB]
    have hn : nI n.toNatClampNeg = n := nI_cl (by grind)
    have hN : n.toNatClampNeg ≤ 600 := by have := cl_lt24 (i := n) (N := 601) 601 (by decide) ⟨hB.2.1, by grind⟩; omega
    have hrd := c_X1_read (σ := σ) (N := n.toNatClampNeg) (q := p) hp1 hN
    rw [hn] at hrd
    generalize (rdR σ n.toNatClampNeg p).2.2.1 = F at hrd ⊢
    refine e_aload_n dX5_statutes_0 rfl ?_
    refine e_getI kX5 (by first | assumption | exact ⟨by decide, rfl⟩) (by decide) fX5_52 rfl dX5_statutes_1 ?_
    refine e_if_ne (tgt := 22) dX5_statutes_4 (by decide) (fun h4 => ?_) (fun h4 => ?_)
    · exfalso
      grind
    refine e_iload_n dX5_statutes_7 rfl ?_
    refine e_if_lt (tgt := 22) dX5_statutes_8 (by decide) (fun h8 => ?_) (fun h8 => ?_)
    · exfalso
      grind
    refine e_iload_n dX5_statutes_11 rfl ?_
    refine e_aload_n dX5_statutes_12 rfl ?_
    refine e_getO 1 kX5 (by first | assumption | exact ⟨by decide, rfl⟩) (by decide) fX5_10 rfl rfl dX5_statutes_13 ?_
    refine e_V0 oX4_length lX5_74 ⟨Nat.le_of_ble_eq_true rfl, Nat.le_of_ble_eq_true rfl⟩ dX5_statutes_16 (by first | assumption | exact ⟨by decide, rfl⟩) (Nat.le_of_ble_eq_true rfl) (c_X4_length (by first | assumption | exact ⟨by decide, rfl⟩)) ?_
    refine e_icmp_le (tgt := 25) dX5_statutes_19 (by decide) (fun h19 => ?_) (fun h19 => ?_)
    rotate_left
    · exfalso
      grind
    refine e_aload_n dX5_statutes_25 rfl ?_
    refine e_getO 2 kX5 (by first | assumption | exact ⟨by decide, rfl⟩) (by decide) fX5_21 rfl rfl dX5_statutes_26 ?_
    refine e_iload_n dX5_statutes_29 rfl ?_
    refine e_aload_n dX5_statutes_30 rfl ?_
    refine e_getD p kX5 (by first | assumption | exact ⟨by decide, rfl⟩) (by decide) fX5_49 rfl hd dX5_statutes_31 ?_
    refine e_V2 oX1_read lX5_78 ⟨Nat.le_of_ble_eq_true rfl, Nat.le_of_ble_eq_true rfl⟩ dX5_statutes_34 (by first | assumption | exact ⟨by decide, rfl⟩) (Nat.le_of_ble_eq_true rfl) hrd ?_
    refine e_istore_n dX5_statutes_37 (by decide) (Nat.le_of_ble_eq_true rfl) ?_
    refine e_aload_n dX5_statutes_38 rfl ?_
    refine e_getO 1 kX5 (by first | assumption | exact ⟨by decide, rfl⟩) (by decide) fX5_10 rfl rfl dX5_statutes_39 ?_
    refine e_V0v oX4_clear lX5_82 ⟨Nat.le_of_ble_eq_true rfl, Nat.le_of_ble_eq_true rfl⟩ dX5_statutes_42 (by first | assumption | exact ⟨by decide, rfl⟩) (Nat.le_of_ble_eq_true rfl) (c_X4_clear (by first | assumption | exact ⟨by decide, rfl⟩)) ?_
    refine e_iload_n dX5_statutes_45 rfl ?_
    refine e_if_neB (tgt := 51) dX5_statutes_46 (by decide) (fun h46 => ?_) (fun h46 => ?_)
    ·
      refine e_aload_n dX5_statutes_51 rfl ?_
      refine e_getD q kX5 (by first | assumption | exact ⟨by decide, rfl⟩) (by decide) fX5_45 rfl (by rw [show up (rdS σ n.toNatClampNeg p) 1 1 0 0 0 5 0 = σ 0 5 0 from e5]; exact hl) dX5_statutes_52 ?_
      refine e_astore_n dX5_statutes_55 (by decide) (Nat.le_of_ble_eq_true rfl) ?_
      refine e_aload_n dX5_statutes_56 rfl ?_
      refine e_aload_n dX5_statutes_57 rfl ?_
      refine e_getD p kX5 (by first | assumption | exact ⟨by decide, rfl⟩) (by decide) fX5_49 rfl (by rw [show up (rdS σ n.toNatClampNeg p) 1 1 0 0 0 6 0 = σ 0 6 0 from e6]; exact hd) dX5_statutes_58 ?_
      refine e_putD (nm := "BurdenCourt$Statutes") kX5 (by first | assumption | exact ⟨by decide, rfl⟩) (by decide) fX5_45 rfl rfl rfl (by assumption) dX5_statutes_61 ?_
      refine e_aload_n dX5_statutes_64 rfl ?_
      refine e_aload_n dX5_statutes_65 rfl ?_
      refine e_putD (nm := "BurdenCourt$Statutes") kX5 (by first | assumption | exact ⟨by decide, rfl⟩) (by decide) fX5_49 rfl rfl rfl (by assumption) dX5_statutes_66 ?_
      refine e_aload_n dX5_statutes_69 rfl ?_
      refine e_getD p kX5 (by first | assumption | exact ⟨by decide, rfl⟩) (by decide) fX5_45 rfl (by rw [up_k (by decide), up_self, nI_clamp hpl]) dX5_statutes_70 ?_
      refine e_V0 oX3_places lX5_85 ⟨Nat.le_of_ble_eq_true rfl, Nat.le_of_ble_eq_true rfl⟩ dX5_statutes_73 (by first | assumption | exact ⟨by decide, rfl⟩) (Nat.le_of_ble_eq_true rfl) (c_X3_places (by first | assumption | exact ⟨by decide, rfl⟩)) ?_
      exact e_ireq rfl rfl dX5_statutes_76 (by first | (rw [if_neg (by assumption)]; done) | (rw [if_pos (by assumption)]; exact e4)) (by first | (rw [if_neg (by assumption)]; done) | (rw [if_pos (by assumption)]; done))
    ·
      refine e_iconst (v := -1) dX5_statutes_49 (by decide) ?_
      exact e_ireq rfl rfl dX5_statutes_50 (by first | (rw [if_neg (by assumption)]; done) | (rw [if_pos (by assumption)]; exact e4)) (by first | (rw [if_neg (by assumption)]; done) | (rw [if_pos (by assumption)]; done))
  · rw [if_neg hB, if_neg hB]
    refine e_aload_n dX5_statutes_0 rfl ?_
    refine e_getI kX5 (by first | assumption | exact ⟨by decide, rfl⟩) (by decide) fX5_52 rfl dX5_statutes_1 ?_
    refine e_if_ne (tgt := 22) dX5_statutes_4 (by decide) (fun h4 => ?_) (fun h4 => ?_)
    ·
      refine e_bipush (v := -2) dX5_statutes_22 (by decide) ?_
      exact e_ireq rfl rfl dX5_statutes_24 (by first | rfl | (exfalso; grind)) rfl
    ·
      refine e_iload_n dX5_statutes_7 rfl ?_
      refine e_if_lt (tgt := 22) dX5_statutes_8 (by decide) (fun h8 => ?_) (fun h8 => ?_)
      ·
        refine e_bipush (v := -2) dX5_statutes_22 (by decide) ?_
        exact e_ireq rfl rfl dX5_statutes_24 (by first | rfl | (exfalso; grind)) rfl
      ·
        refine e_iload_n dX5_statutes_11 rfl ?_
        refine e_aload_n dX5_statutes_12 rfl ?_
        refine e_getO 1 kX5 (by first | assumption | exact ⟨by decide, rfl⟩) (by decide) fX5_10 rfl rfl dX5_statutes_13 ?_
        refine e_V0 oX4_length lX5_74 ⟨Nat.le_of_ble_eq_true rfl, Nat.le_of_ble_eq_true rfl⟩ dX5_statutes_16 (by first | assumption | exact ⟨by decide, rfl⟩) (Nat.le_of_ble_eq_true rfl) (c_X4_length (by first | assumption | exact ⟨by decide, rfl⟩)) ?_
        refine e_icmp_le (tgt := 25) dX5_statutes_19 (by decide) (fun h19 => ?_) (fun h19 => ?_)
        · exfalso
          grind
        refine e_bipush (v := -2) dX5_statutes_22 (by decide) ?_
        exact e_ireq rfl rfl dX5_statutes_24 (by first | rfl | (exfalso; grind)) rfl
