-- the reference's statutes: the whole call
theorem st_lines {T : Nat → Int32} {N : Nat} {n : Int32} (hN2 : N ≤ 600) : ∀ c σ m, wdOk σ → σ 8 31 0 = nI N → ty σ = T → m.1 ≤ N → w17 m → shM σ → (m.2.2.1 = 0 → 1 ≤ c) → (¬ m.2.2.1 = 0 → N + 1 < c + m.1) → E mX6_statutes 99 [.inr (8, 0), .inl n] [] (wt σ m) (some (.inl (if (lsM T N c σ m).1 = 1 then fnM (lsM T N c σ m).2.1 (lsM T N c σ m).2.2 8 6 0 else -1))) (if (lsM T N c σ m).1 = 1 then fnM (lsM T N c σ m).2.1 (lsM T N c σ m).2.2 else wt (lsM T N c σ m).2.1 (lsM T N c σ m).2.2) := by
  intro c
  induction c with
  | zero =>
    intro σ m _ _ _ h4 _ _ h7 h8
    exfalso
    by_cases hk : m.2.2.1 = 0
    · have := h7 hk; omega
    · have := h8 hk; omega
  | succ c ih =>
    intro σ m h1 h2 h3 h4 h5 h6 h7 h8
    have g33 : wt σ m 8 33 0 = m.2.2.1 := wt_33
    rw [lsM]
    by_cases hk : m.2.2.1 = 0
    · rw [if_pos hk]
      rw [if_pos rfl, if_pos rfl]
      have hend := st_end (m := m) (n := n) h6
      clear ih h1 h2 h3 h5 h6 h7 h8
      refine e_aload_n dX6_statutes_99 rfl ?_
      refine e_getI kX6 (by first | assumption | exact ⟨by decide, rfl⟩) (by decide) fX6_93 rfl dX6_statutes_100 ?_
      rw [g33]
      refine e_if_eq (tgt := 142) dX6_statutes_103 (by decide) (fun h103 => ?_) (fun h103 => ?_)
      rotate_left
      · exfalso
        contradiction
      exact hend
    · rw [if_neg hk]
      have hli := c_X6_line h1 h2 hN2 h4 h5
      rw [h3] at hli
      have hmo := liM_mono (T := T) (σ := σ) h4
      have w1 : wdOk (liM T N σ m).2.1 := fun k hk => (liM_fr (by decide)).trans (h1 k hk)
      have w2 : (liM T N σ m).2.1 8 31 0 = nI N := (liM_fr (by decide)).trans h2
      have w3 : ty (liM T N σ m).2.1 = T := by rw [← h3]; funext j; exact liM_fr (by decide)
      have w6 : shM (liM T N σ m).2.1 := liM_sh h6
      have hb := h8 hk
      generalize liM T N σ m = L at *
      obtain ⟨b, σ2, m2⟩ := L
      dsimp only at *
      by_cases hb1 : b = 1
      · rw [if_pos hb1]
        have g33b : wt σ2 m2 8 33 0 = m2.2.2.1 := wt_33
        have g35b : wt σ2 m2 8 35 0 = m2.2.1 := wt_35
        by_cases hk4 : m2.2.2.1 = 4
        · rw [if_pos hk4]
          have htk := c_X6_take w1 w2 hN2 hmo.2
          rw [w3] at htk
          have hle := tkF_le (T := T) hmo.2
          have ihx := ih σ2 (tkF T N m2) w1 w2 w3 hle.1 tkF_w17 w6 (fun _ => by omega) (fun hz => by have := tkF_lt (T := T) hmo.2 hz; omega)
          clear ih h1 h2 h3 h5 h6 h7 h8 w1 w2 w3 w6
          refine e_aload_n dX6_statutes_99 rfl ?_
          refine e_getI kX6 (by first | assumption | exact ⟨by decide, rfl⟩) (by decide) fX6_93 rfl dX6_statutes_100 ?_
          rw [g33]
          refine e_if_eq (tgt := 142) dX6_statutes_103 (by decide) (fun h103 => ?_) (fun h103 => ?_)
          · exfalso
            contradiction
          refine e_aload_n dX6_statutes_106 rfl ?_
          refine e_V0 oX6_line lX6_136 ⟨Nat.le_of_ble_eq_true rfl, Nat.le_of_ble_eq_true rfl⟩ dX6_statutes_107 (by first | assumption | exact ⟨by decide, rfl⟩) (Nat.le_of_ble_eq_true rfl) hli ?_
          refine e_if_neB (tgt := 115) dX6_statutes_110 (by decide) (fun h110 => ?_) (fun h110 => ?_)
          rotate_left
          · exfalso
            contradiction
          refine e_aload_n dX6_statutes_115 rfl ?_
          refine e_getI kX6 (by first | assumption | exact ⟨by decide, rfl⟩) (by decide) fX6_93 rfl dX6_statutes_116 ?_
          rw [g33b]
          refine e_iconst (v := 4) dX6_statutes_119 (by decide) ?_
          refine e_icmp_eq (tgt := 135) dX6_statutes_120 (by decide) (fun h120 => ?_) (fun h120 => ?_)
          rotate_left
          · exfalso
            contradiction
          refine e_aload_n dX6_statutes_135 rfl ?_
          refine e_V0v oX6_take lX6_115 ⟨Nat.le_of_ble_eq_true rfl, Nat.le_of_ble_eq_true rfl⟩ dX6_statutes_136 (by first | assumption | exact ⟨by decide, rfl⟩) (Nat.le_of_ble_eq_true rfl) htk ?_
          refine e_goto (tgt := 99) dX6_statutes_139 (by decide) ?_
          exact ihx
        · rw [if_neg hk4]
          rw [if_neg (show ¬ (0 : Int32) = 1 by decide), if_neg (show ¬ (0 : Int32) = 1 by decide)]
          clear ih h1 h2 h3 h5 h6 h7 h8 w1 w2 w3 w6
          refine e_aload_n dX6_statutes_99 rfl ?_
          refine e_getI kX6 (by first | assumption | exact ⟨by decide, rfl⟩) (by decide) fX6_93 rfl dX6_statutes_100 ?_
          rw [g33]
          refine e_if_eq (tgt := 142) dX6_statutes_103 (by decide) (fun h103 => ?_) (fun h103 => ?_)
          · exfalso
            contradiction
          refine e_aload_n dX6_statutes_106 rfl ?_
          refine e_V0 oX6_line lX6_136 ⟨Nat.le_of_ble_eq_true rfl, Nat.le_of_ble_eq_true rfl⟩ dX6_statutes_107 (by first | assumption | exact ⟨by decide, rfl⟩) (Nat.le_of_ble_eq_true rfl) hli ?_
          refine e_if_neB (tgt := 115) dX6_statutes_110 (by decide) (fun h110 => ?_) (fun h110 => ?_)
          rotate_left
          · exfalso
            contradiction
          refine e_aload_n dX6_statutes_115 rfl ?_
          refine e_getI kX6 (by first | assumption | exact ⟨by decide, rfl⟩) (by decide) fX6_93 rfl dX6_statutes_116 ?_
          rw [g33b]
          refine e_iconst (v := 4) dX6_statutes_119 (by decide) ?_
          refine e_icmp_eq (tgt := 135) dX6_statutes_120 (by decide) (fun h120 => ?_) (fun h120 => ?_)
          · exfalso
            contradiction
          refine e_aload_n dX6_statutes_123 rfl ?_
          refine e_iconst (v := 1) dX6_statutes_124 (by decide) ?_
          refine e_aload_n dX6_statutes_125 rfl ?_
          refine e_getI kX6 (by first | assumption | exact ⟨by decide, rfl⟩) (by decide) fX6_90 rfl dX6_statutes_126 ?_
          rw [g35b]
          refine e_V2 oX6_wrong lX6_111 ⟨Nat.le_of_ble_eq_true rfl, Nat.le_of_ble_eq_true rfl⟩ dX6_statutes_129 (by first | assumption | exact ⟨by decide, rfl⟩) (Nat.le_of_ble_eq_true rfl) (c_X6_wrong) ?_
          refine e_istore_n dX6_statutes_132 (by decide) (Nat.le_of_ble_eq_true rfl) ?_
          refine e_iconst (v := -1) dX6_statutes_133 (by decide) ?_
          exact e_ireq rfl rfl dX6_statutes_134 rfl wg_wt
      · rw [if_neg hb1]
        rw [if_neg (show ¬ (0 : Int32) = 1 by decide), if_neg (show ¬ (0 : Int32) = 1 by decide)]
        clear ih h1 h2 h3 h5 h6 h7 h8 w1 w2 w3 w6
        refine e_aload_n dX6_statutes_99 rfl ?_
        refine e_getI kX6 (by first | assumption | exact ⟨by decide, rfl⟩) (by decide) fX6_93 rfl dX6_statutes_100 ?_
        rw [g33]
        refine e_if_eq (tgt := 142) dX6_statutes_103 (by decide) (fun h103 => ?_) (fun h103 => ?_)
        · exfalso
          contradiction
        refine e_aload_n dX6_statutes_106 rfl ?_
        refine e_V0 oX6_line lX6_136 ⟨Nat.le_of_ble_eq_true rfl, Nat.le_of_ble_eq_true rfl⟩ dX6_statutes_107 (by first | assumption | exact ⟨by decide, rfl⟩) (Nat.le_of_ble_eq_true rfl) hli ?_
        refine e_if_neB (tgt := 115) dX6_statutes_110 (by decide) (fun h110 => ?_) (fun h110 => ?_)
        · exfalso
          contradiction
        refine e_iconst (v := -1) dX6_statutes_113 (by decide) ?_
        exact e_ireq rfl rfl dX6_statutes_114 rfl rfl
abbrev mstB (τ : rS) (n : Int32) : Prop := τ 8 16 0 = 0 ∧ 0 ≤ n ∧ n ≤ τ 8 1 0
def shM0 : Nat → rS → rS := itS (fun j τ => up τ 8 4 (6 + nI j) 0)
def ruM0 : Nat → rS → rS := itS (fun j τ => up τ 8 5 (4 + nI j) (-1))
abbrev b4M (τ : rS) (n : Int32) : rS := up (up (up (up τ 8 31 0 n) 8 1 0 0) 8 8 0 0) 8 9 0 (-1)
abbrev bM (τ : rS) (n : Int32) : rS := ruM0 4 (shM0 6 (b4M τ n))
theorem shM0_fr {σ : rS} {o' k' : Nat} {i' : Int32} (h : ¬ (o' = 8 ∧ k' = 4)) : ∀ j, shM0 j σ o' k' i' = σ o' k' i' := by
  intro j
  induction j with
  | zero => rfl
  | succ j ih =>
    show up (shM0 j σ) 8 4 (6 + nI j) 0 o' k' i' = _
    generalize shM0 j σ = s at ih ⊢
    simp only [up]; grind
theorem ruM0_fr {σ : rS} {o' k' : Nat} {i' : Int32} (h : ¬ (o' = 8 ∧ k' = 5)) : ∀ j, ruM0 j σ o' k' i' = σ o' k' i' := by
  intro j
  induction j with
  | zero => rfl
  | succ j ih =>
    show up (ruM0 j σ) 8 5 (4 + nI j) (-1) o' k' i' = _
    generalize ruM0 j σ = s at ih ⊢
    simp only [up]; grind
theorem shM0_at {σ : rS} : ∀ j i, i < j → j ≤ 6 → shM0 j σ 8 4 (6 + nI i) = 0 := by
  intro j
  induction j with
  | zero => intro i hi _; omega
  | succ j ih =>
    intro i hi hj
    show up (shM0 j σ) 8 4 (6 + nI j) 0 8 4 (6 + nI i) = 0
    by_cases h : i = j
    · subst h; rw [up_self]
    · rw [up_i (fun z => h ((nI_eq (by omega) (by omega)).mp (by grind)))]
      exact ih i (by omega) (by omega)
theorem bM_sh {τ : rS} {n : Int32} : shM (bM τ n) := by
  intro b h1 h2
  have e : bM τ n 8 4 b = 0 := by
    show ruM0 4 (shM0 6 (b4M τ n)) 8 4 b = 0
    rw [ruM0_fr (by decide)]
    have hb : b = 6 + nI (b - 6).toNatClampNeg := by rw [nI_cl (by grind)]; grind
    rw [hb]
    exact shM0_at 6 _ (cl_lt24 6 (by decide) (by grind)) (by decide)
  rw [e]
  exact ⟨by decide, by decide⟩
abbrev m0M (τ : rS) (N : Nat) : rM4 := tkF (ty τ) N (0, τ 8 35 0, τ 8 33 0, τ 8 34 0)
abbrev lsR (τ : rS) (n : Int32) (N : Nat) : Int32 × rS × rM4 := lsM (ty τ) N (N + 2) (bM τ n) (m0M τ N)
theorem bM_fr {τ : rS} {n : Int32} {o' k' : Nat} {i' : Int32} (h : ¬ (o' = 8 ∧ (k' = 31 ∨ k' = 1 ∨ k' = 8 ∨ k' = 9 ∨ k' = 4 ∨ k' = 5))) : bM τ n o' k' i' = τ o' k' i' := by
  show ruM0 4 (shM0 6 (b4M τ n)) o' k' i' = _
  rw [ruM0_fr (by grind), shM0_fr (by grind)]
  simp only [b4M, up]; grind
theorem bM_31 {τ : rS} {n : Int32} : bM τ n 8 31 0 = n := by
  show ruM0 4 (shM0 6 (b4M τ n)) 8 31 0 = _
  rw [ruM0_fr (by decide), shM0_fr (by decide)]
  simp [b4M, up]
theorem c_X6_statutes {n : Int32} {τ : rS} {σ : rS} (hz : up σ 8 2 0 0 = τ) (hw : wdOk τ) (ht : τ 8 1 0 ≤ 600) : Ct mX6_statutes [.inr (8, 0), .inl n] σ (some (.inl (if mstB τ n then (if (lsR τ n n.toNatClampNeg).1 = 1 then fnM (lsR τ n n.toNatClampNeg).2.1 (lsR τ n n.toNatClampNeg).2.2 8 6 0 else -1) else -2))) (if mstB τ n then (if (lsR τ n n.toNatClampNeg).1 = 1 then fnM (lsR τ n n.toNatClampNeg).2.1 (lsR τ n n.toNatClampNeg).2.2 else wt (lsR τ n n.toNatClampNeg).2.1 (lsR τ n n.toNatClampNeg).2.2) else τ) := by
  refine C_of_E rfl rfl (Nat.le_of_ble_eq_true rfl) ?_
  by_cases hB : mstB τ n
  · rw [if_pos hB, if_pos hB]
    have hn : nI n.toNatClampNeg = n := nI_cl (by clear hw; grind)
    have hN : n.toNatClampNeg ≤ 600 := by have := cl_lt24 (i := n) (N := 601) 601 (by decide) ⟨hB.2.1, by clear hw; grind⟩; omega
    have hwb : wdOk (bM τ n) := fun k hk => (bM_fr (by decide)).trans (hw k hk)
    have h31 : bM τ n 8 31 0 = nI n.toNatClampNeg := bM_31.trans hn.symm
    have hty : ty (bM τ n) = ty τ := by funext j; exact bM_fr (by decide)
    have htk := c_X6_take (m := (0, τ 8 35 0, τ 8 33 0, τ 8 34 0)) hwb h31 hN (Nat.zero_le _)
    rw [hty] at htk
    have hle := tkF_le (T := ty τ) (N := n.toNatClampNeg) (m := (0, τ 8 35 0, τ 8 33 0, τ 8 34 0)) (Nat.zero_le _)
    have lns := st_lines (n := n) hN (n.toNatClampNeg + 2) (bM τ n) (m0M τ n.toNatClampNeg) hwb h31 hty hle.1 tkF_w17 bM_sh (fun _ => by omega) (fun hz2 => by have := tkF_lt (T := ty τ) (N := n.toNatClampNeg) (m := (0, τ 8 35 0, τ 8 33 0, τ 8 34 0)) (Nat.zero_le _) hz2; dsimp only at this; omega)
    have ewt : up (bM τ n) 8 32 0 0 = wt (bM τ n) (0, τ 8 35 0, τ 8 33 0, τ 8 34 0) := by
      have x1 : bM τ n 8 35 0 = τ 8 35 0 := bM_fr (by decide)
      have x2 : bM τ n 8 33 0 = τ 8 33 0 := bM_fr (by decide)
      have x3 : bM τ n 8 34 0 = τ 8 34 0 := bM_fr (by decide)
      unfold wt
      dsimp only
      rw [up_id (v := τ 8 35 0) (by rw [up_k (by decide)]; exact x1), up_id (v := τ 8 33 0) (by rw [up_k (by decide)]; exact x2), up_id (v := τ 8 34 0) (by rw [up_k (by decide)]; exact x3)]
      rfl
    clear hw hwb h31 hty hle
    change E _ _ _ _ _ _ (if (lsR τ n n.toNatClampNeg).1 = 1 then fnM (lsR τ n n.toNatClampNeg).2.1 (lsR τ n n.toNatClampNeg).2.2 else wt (lsR τ n n.toNatClampNeg).2.1 (lsR τ n n.toNatClampNeg).2.2) at lns
    generalize (if (lsR τ n n.toNatClampNeg).1 = 1 then fnM (lsR τ n n.toNatClampNeg).2.1 (lsR τ n n.toNatClampNeg).2.2 else wt (lsR τ n n.toNatClampNeg).2.1 (lsR τ n n.toNatClampNeg).2.2) = Z at *
    change E _ _ _ _ _ (some (.inl (if (lsR τ n n.toNatClampNeg).1 = 1 then fnM (lsR τ n n.toNatClampNeg).2.1 (lsR τ n n.toNatClampNeg).2.2 8 6 0 else -1))) _ at lns
    generalize (if (lsR τ n n.toNatClampNeg).1 = 1 then fnM (lsR τ n n.toNatClampNeg).2.1 (lsR τ n n.toNatClampNeg).2.2 8 6 0 else -1) = V at *
    have l2 : ∀ k, k ≤ 4 → E mX6_statutes 71 [.inr (8, 0), .inl n, .inl (4 + nI k)] [] (ruM0 k (shM0 6 (b4M τ n))) (some (.inl V)) Z := by
      refine dn_ind 4 _ ?_ (fun k hk ih => ?_)
      · have e4 : nI 4 = 4 := rfl
        refine e_iload_n dX6_statutes_71 rfl ?_
        refine e_bipush (v := 8) dX6_statutes_72 (by decide) ?_
        refine e_icmp_ge (tgt := 90) dX6_statutes_74 (by decide) (fun h74 => ?_) (fun h74 => ?_)
        rotate_left
        · exfalso
          clear htk lns; grind
        refine e_aload_n dX6_statutes_90 rfl ?_
        refine e_iconst (v := 0) dX6_statutes_91 (by decide) ?_
        refine e_putI kX6 (by first | assumption | exact ⟨by decide, rfl⟩) (by decide) fX6_87 rfl rfl rfl dX6_statutes_92 ?_
        rw [ewt]
        refine e_aload_n dX6_statutes_95 rfl ?_
        refine e_V0v oX6_take lX6_115 ⟨Nat.le_of_ble_eq_true rfl, Nat.le_of_ble_eq_true rfl⟩ dX6_statutes_96 (by first | assumption | exact ⟨by decide, rfl⟩) (Nat.le_of_ble_eq_true rfl) htk ?_
        exact e_to lns rfl rfl
      · obtain ⟨f1, f2, f3, f4⟩ := nI_facts 4 hk (Nat.le_refl _) (by decide) rfl
        have e4 : nI 4 = 4 := rfl
        clear htk lns ewt
        refine e_iload_n dX6_statutes_71 rfl ?_
        refine e_bipush (v := 8) dX6_statutes_72 (by decide) ?_
        refine e_icmp_ge (tgt := 90) dX6_statutes_74 (by decide) (fun h74 => ?_) (fun h74 => ?_)
        · exfalso
          grind
        refine e_aload_n dX6_statutes_77 rfl ?_
        refine e_getA kX6 (by first | assumption | exact ⟨by decide, rfl⟩) (by decide) fX6_19 rfl dX6_statutes_78 ?_
        refine e_iload_n dX6_statutes_81 rfl ?_
        refine e_iconst (v := -1) dX6_statutes_82 (by decide) ?_
        refine e_iast (ci := 6) (by first | assumption | exact ⟨by decide, rfl⟩) rfl (vin 8 (by decide) (by grind)) dX6_statutes_83 ?_
        refine e_inc (1) (by decide) dX6_statutes_84 rfl (by decide) (Nat.le_of_ble_eq_true rfl) ?_
        refine e_goto (tgt := 71) dX6_statutes_87 (by decide) ?_
        exact e_to ih (by simp [lset]; grind) rfl
    have l1 : ∀ k, k ≤ 6 → E mX6_statutes 50 [.inr (8, 0), .inl n, .inl (6 + nI k)] [] (shM0 k (b4M τ n)) (some (.inl V)) Z := by
      refine dn_ind 6 _ ?_ (fun k hk ih => ?_)
      · have e4 : nI 6 = 6 := rfl
        have l20 := l2 0 (Nat.zero_le _)
        clear htk lns ewt l2
        refine e_iload_n dX6_statutes_50 rfl ?_
        refine e_bipush (v := 12) dX6_statutes_51 (by decide) ?_
        refine e_icmp_ge (tgt := 69) dX6_statutes_53 (by decide) (fun h53 => ?_) (fun h53 => ?_)
        rotate_left
        · exfalso
          grind
        refine e_iconst (v := 4) dX6_statutes_69 (by decide) ?_
        refine e_istore_n dX6_statutes_70 (by decide) (Nat.le_of_ble_eq_true rfl) ?_
        exact e_to l20 rfl rfl
      · obtain ⟨f1, f2, f3, f4⟩ := nI_facts 6 hk (Nat.le_refl _) (by decide) rfl
        have e4 : nI 6 = 6 := rfl
        clear htk lns ewt l2
        refine e_iload_n dX6_statutes_50 rfl ?_
        refine e_bipush (v := 12) dX6_statutes_51 (by decide) ?_
        refine e_icmp_ge (tgt := 69) dX6_statutes_53 (by decide) (fun h53 => ?_) (fun h53 => ?_)
        · exfalso
          grind
        refine e_aload_n dX6_statutes_56 rfl ?_
        refine e_getA kX6 (by first | assumption | exact ⟨by decide, rfl⟩) (by decide) fX6_16 rfl dX6_statutes_57 ?_
        refine e_iload_n dX6_statutes_60 rfl ?_
        refine e_iconst (v := 0) dX6_statutes_61 (by decide) ?_
        refine e_iast (ci := 6) (by first | assumption | exact ⟨by decide, rfl⟩) rfl (vin 12 (by decide) (by grind)) dX6_statutes_62 ?_
        refine e_inc (1) (by decide) dX6_statutes_63 rfl (by decide) (Nat.le_of_ble_eq_true rfl) ?_
        refine e_goto (tgt := 50) dX6_statutes_66 (by decide) ?_
        exact e_to ih (by simp [lset]; grind) rfl
    have l10 := l1 0 (Nat.zero_le _)
    clear htk lns ewt l2 l1
    refine e_aload_n dX6_statutes_0 rfl ?_
    refine e_iconst (v := 0) dX6_statutes_1 (by decide) ?_
    refine e_putI kX6 (by first | assumption | exact ⟨by decide, rfl⟩) (by decide) fX6_75 rfl rfl rfl dX6_statutes_2 ?_
    rw [hz]
    refine e_aload_n dX6_statutes_5 rfl ?_
    refine e_getI kX6 (by first | assumption | exact ⟨by decide, rfl⟩) (by decide) fX6_132 rfl dX6_statutes_6 ?_
    refine e_if_ne (tgt := 24) dX6_statutes_9 (by decide) (fun h9 => ?_) (fun h9 => ?_)
    · exfalso
      grind
    refine e_iload_n dX6_statutes_12 rfl ?_
    refine e_if_lt (tgt := 24) dX6_statutes_13 (by decide) (fun h13 => ?_) (fun h13 => ?_)
    · exfalso
      grind
    refine e_iload_n dX6_statutes_16 rfl ?_
    refine e_aload_n dX6_statutes_17 rfl ?_
    refine e_getI kX6 (by first | assumption | exact ⟨by decide, rfl⟩) (by decide) fX6_78 rfl dX6_statutes_18 ?_
    refine e_icmp_le (tgt := 27) dX6_statutes_21 (by decide) (fun h21 => ?_) (fun h21 => ?_)
    rotate_left
    · exfalso
      grind
    refine e_aload_n dX6_statutes_27 rfl ?_
    refine e_iload_n dX6_statutes_28 rfl ?_
    refine e_putI kX6 (by first | assumption | exact ⟨by decide, rfl⟩) (by decide) fX6_84 rfl rfl rfl dX6_statutes_29 ?_
    refine e_aload_n dX6_statutes_32 rfl ?_
    refine e_iconst (v := 0) dX6_statutes_33 (by decide) ?_
    refine e_putI kX6 (by first | assumption | exact ⟨by decide, rfl⟩) (by decide) fX6_78 rfl rfl rfl dX6_statutes_34 ?_
    refine e_aload_n dX6_statutes_37 rfl ?_
    refine e_iconst (v := 0) dX6_statutes_38 (by decide) ?_
    refine e_putI kX6 (by first | assumption | exact ⟨by decide, rfl⟩) (by decide) fX6_81 rfl rfl rfl dX6_statutes_39 ?_
    refine e_aload_n dX6_statutes_42 rfl ?_
    refine e_iconst (v := -1) dX6_statutes_43 (by decide) ?_
    refine e_putI kX6 (by first | assumption | exact ⟨by decide, rfl⟩) (by decide) fX6_25 rfl rfl rfl dX6_statutes_44 ?_
    refine e_bipush (v := 6) dX6_statutes_47 (by decide) ?_
    refine e_istore_n dX6_statutes_49 (by decide) (Nat.le_of_ble_eq_true rfl) ?_
    exact e_to l10 rfl rfl
  · rw [if_neg hB, if_neg hB]
    clear hw
    refine e_aload_n dX6_statutes_0 rfl ?_
    refine e_iconst (v := 0) dX6_statutes_1 (by decide) ?_
    refine e_putI kX6 (by first | assumption | exact ⟨by decide, rfl⟩) (by decide) fX6_75 rfl rfl rfl dX6_statutes_2 ?_
    rw [hz]
    refine e_aload_n dX6_statutes_5 rfl ?_
    refine e_getI kX6 (by first | assumption | exact ⟨by decide, rfl⟩) (by decide) fX6_132 rfl dX6_statutes_6 ?_
    refine e_if_ne (tgt := 24) dX6_statutes_9 (by decide) (fun h9 => ?_) (fun h9 => ?_)
    ·
      refine e_bipush (v := -2) dX6_statutes_24 (by decide) ?_
      exact e_ireq rfl rfl dX6_statutes_26 rfl rfl
    ·
      refine e_iload_n dX6_statutes_12 rfl ?_
      refine e_if_lt (tgt := 24) dX6_statutes_13 (by decide) (fun h13 => ?_) (fun h13 => ?_)
      ·
        refine e_bipush (v := -2) dX6_statutes_24 (by decide) ?_
        exact e_ireq rfl rfl dX6_statutes_26 rfl rfl
      ·
        refine e_iload_n dX6_statutes_16 rfl ?_
        refine e_aload_n dX6_statutes_17 rfl ?_
        refine e_getI kX6 (by first | assumption | exact ⟨by decide, rfl⟩) (by decide) fX6_78 rfl dX6_statutes_18 ?_
        refine e_icmp_le (tgt := 27) dX6_statutes_21 (by decide) (fun h21 => ?_) (fun h21 => ?_)
        · exfalso
          grind
        refine e_bipush (v := -2) dX6_statutes_24 (by decide) ?_
        exact e_ireq rfl rfl dX6_statutes_26 rfl rfl
