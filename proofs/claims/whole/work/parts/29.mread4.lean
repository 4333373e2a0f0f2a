-- the reference's reader: lines
theorem tkF_le {T : Nat → Int32} {N : Nat} {m : rM4} (h : m.1 ≤ N) : (tkF T N m).1 ≤ N ∧ m.1 ≤ (tkF T N m).1 := by
  have h1 := sk_le (T := T) h
  have h2 := sm_le (T := T) h1.2
  have h3 := dg_le (T := T) h1.2
  unfold tkF
  split
  · split
    · exact ⟨h2.2, Nat.le_trans h1.1 h2.1⟩
    · split
      · exact ⟨h3.2, Nat.le_trans h1.1 h3.1⟩
      · dsimp only; omega
  · exact ⟨h1.2, h1.1⟩
theorem c_X6_wrong {k w : Int32} {σ : rS}  : Ct mX6_wrong [.inr (8, 0), .inl k, .inl w] σ (some (.inl (bI (0 = (1 : Int32))))) (up (up σ 8 8 0 k) 8 9 0 w) := by
  refine C_of_E rfl rfl (Nat.le_of_ble_eq_true rfl) ?_
  refine e_aload_n dX6_wrong_0 rfl ?_
  refine e_iload_n dX6_wrong_1 rfl ?_
  refine e_putI kX6 (by first | assumption | exact ⟨by decide, rfl⟩) (by decide) fX6_81 rfl rfl rfl dX6_wrong_2 ?_
  refine e_aload_n dX6_wrong_5 rfl ?_
  refine e_iload_n dX6_wrong_6 rfl ?_
  refine e_putI kX6 (by first | assumption | exact ⟨by decide, rfl⟩) (by decide) fX6_25 rfl rfl rfl dX6_wrong_7 ?_
  refine e_iconst (v := 0) dX6_wrong_10 (by decide) ?_
  exact e_ret0 rfl dX6_wrong_11 (by decide) rfl
/-- a fault told -/
def wg (σ : rS) (k w : Int32) : rS := up (up σ 8 8 0 k) 8 9 0 w
theorem wg_wt {σ : rS} {m : rM4} {k w : Int32} : up (up (wt σ m) 8 8 0 k) 8 9 0 w = wt (wg σ k w) m := by
  unfold wg
  rw [wt_up (by decide), wt_up (by decide)]
abbrev wdB (m : rM4) (w : Int32) : Prop := m.2.2.1 = 1 ∧ m.2.2.2 = w
theorem c_X6_word {σ : rS} {N : Nat} {m : rM4} {w : Int32} (hw : wdOk σ) (hN : σ 8 31 0 = nI N) (hN2 : N ≤ 600) (hi : m.1 ≤ N) : Ct mX6_word [.inr (8, 0), .inl w] (wt σ m) (some (.inl (bI (wdB m w)))) (if wdB m w then wt σ (tkF (ty σ) N m) else wt (wg σ 1 m.2.1) m) := by
  refine C_of_E rfl rfl (Nat.le_of_ble_eq_true rfl) ?_
  have g33 : wt σ m 8 33 0 = m.2.2.1 := wt_33
  have g34 : wt σ m 8 34 0 = m.2.2.2 := wt_34
  have g35 : wt σ m 8 35 0 = m.2.1 := wt_35
  have htk := c_X6_take hw hN hN2 hi
  clear hw
  generalize tkF (ty σ) N m = m2 at htk ⊢
  refine e_aload_n dX6_word_0 rfl ?_
  refine e_getI kX6 (by first | assumption | exact ⟨by decide, rfl⟩) (by decide) fX6_93 rfl dX6_word_1 ?_
  rw [g33]
  refine e_iconst (v := 1) dX6_word_4 (by decide) ?_
  refine e_icmp_ne (tgt := 16) dX6_word_5 (by decide) (fun h5 => ?_) (fun h5 => ?_)
  ·
    refine e_aload_n dX6_word_16 rfl ?_
    refine e_iconst (v := 1) dX6_word_17 (by decide) ?_
    refine e_aload_n dX6_word_18 rfl ?_
    refine e_getI kX6 (by first | assumption | exact ⟨by decide, rfl⟩) (by decide) fX6_90 rfl dX6_word_19 ?_
    rw [g35]
    refine e_V2 oX6_wrong lX6_111 ⟨Nat.le_of_ble_eq_true rfl, Nat.le_of_ble_eq_true rfl⟩ dX6_word_22 (by first | assumption | exact ⟨by decide, rfl⟩) (Nat.le_of_ble_eq_true rfl) (c_X6_wrong) ?_
    exact e_ireB rfl dX6_word_25 rfl (by grind) (by first | (rw [if_pos (by grind)]; done) | (rw [if_neg (by grind), wg_wt]; done))
  ·
    refine e_aload_n dX6_word_8 rfl ?_
    refine e_getI kX6 (by first | assumption | exact ⟨by decide, rfl⟩) (by decide) fX6_104 rfl dX6_word_9 ?_
    rw [g34]
    refine e_iload_n dX6_word_12 rfl ?_
    refine e_icmp_eq (tgt := 26) dX6_word_13 (by decide) (fun h13 => ?_) (fun h13 => ?_)
    ·
      refine e_aload_n dX6_word_26 rfl ?_
      refine e_V0v oX6_take lX6_115 ⟨Nat.le_of_ble_eq_true rfl, Nat.le_of_ble_eq_true rfl⟩ dX6_word_27 (by first | assumption | exact ⟨by decide, rfl⟩) (Nat.le_of_ble_eq_true rfl) htk ?_
      refine e_iconst (v := 1) dX6_word_30 (by decide) ?_
      exact e_ret1 rfl dX6_word_31 (by grind) (by first | (rw [if_pos (by grind)]; done) | (rw [if_neg (by grind), wg_wt]; done))
    ·
      refine e_aload_n dX6_word_16 rfl ?_
      refine e_iconst (v := 1) dX6_word_17 (by decide) ?_
      refine e_aload_n dX6_word_18 rfl ?_
      refine e_getI kX6 (by first | assumption | exact ⟨by decide, rfl⟩) (by decide) fX6_90 rfl dX6_word_19 ?_
      rw [g35]
      refine e_V2 oX6_wrong lX6_111 ⟨Nat.le_of_ble_eq_true rfl, Nat.le_of_ble_eq_true rfl⟩ dX6_word_22 (by first | assumption | exact ⟨by decide, rfl⟩) (Nat.le_of_ble_eq_true rfl) (c_X6_wrong) ?_
      exact e_ireB rfl dX6_word_25 rfl (by grind) (by first | (rw [if_pos (by grind)]; done) | (rw [if_neg (by grind), wg_wt]; done))
abbrev nbB (m : rM4) (lo hi : Int32) : Prop := m.2.2.1 = 3 ∧ lo ≤ m.2.2.2 ∧ m.2.2.2 ≤ hi
theorem c_X6_number {σ : rS} {N : Nat} {m : rM4} {lo hi : Int32} (hw : wdOk σ) (hN : σ 8 31 0 = nI N) (hN2 : N ≤ 600) (hi0 : m.1 ≤ N) : Ct mX6_number [.inr (8, 0), .inl lo, .inl hi] (wt σ m) (some (.inl (bI (nbB m lo hi)))) (if nbB m lo hi then wt (up σ 8 36 0 m.2.2.2) (tkF (ty σ) N m) else wt (wg σ (if m.2.2.1 = 3 then 2 else 1) m.2.1) m) := by
  refine C_of_E rfl rfl (Nat.le_of_ble_eq_true rfl) ?_
  have g33 : wt σ m 8 33 0 = m.2.2.1 := wt_33
  have g34 : wt σ m 8 34 0 = m.2.2.2 := wt_34
  have g35 : wt σ m 8 35 0 = m.2.1 := wt_35
  have e36 : up (wt σ m) 8 36 0 m.2.2.2 = wt (up σ 8 36 0 m.2.2.2) m := wt_up (by decide)
  have hty : ty (up σ 8 36 0 m.2.2.2) = ty σ := by funext j; unfold ty; rw [up_k (by decide)]
  have htk := c_X6_take (σ := up σ 8 36 0 m.2.2.2) (N := N) (m := m) (fun k hk => (up_k (by decide)).trans (hw k hk)) ((up_k (by decide)).trans hN) hN2 hi0
  rw [hty] at htk
  clear hw hty
  generalize tkF (ty σ) N m = m2 at htk ⊢
  refine e_aload_n dX6_number_0 rfl ?_
  refine e_getI kX6 (by first | assumption | exact ⟨by decide, rfl⟩) (by decide) fX6_93 rfl dX6_number_1 ?_
  rw [g33]
  refine e_iconst (v := 3) dX6_number_4 (by decide) ?_
  refine e_icmp_eq (tgt := 18) dX6_number_5 (by decide) (fun h5 => ?_) (fun h5 => ?_)
  ·
    refine e_aload_n dX6_number_18 rfl ?_
    refine e_getI kX6 (by first | assumption | exact ⟨by decide, rfl⟩) (by decide) fX6_104 rfl dX6_number_19 ?_
    rw [g34]
    refine e_iload_n dX6_number_22 rfl ?_
    refine e_icmp_lt (tgt := 34) dX6_number_23 (by decide) (fun h23 => ?_) (fun h23 => ?_)
    ·
      refine e_aload_n dX6_number_34 rfl ?_
      refine e_iconst (v := 2) dX6_number_35 (by decide) ?_
      refine e_aload_n dX6_number_36 rfl ?_
      refine e_getI kX6 (by first | assumption | exact ⟨by decide, rfl⟩) (by decide) fX6_90 rfl dX6_number_37 ?_
      rw [g35]
      refine e_V2 oX6_wrong lX6_111 ⟨Nat.le_of_ble_eq_true rfl, Nat.le_of_ble_eq_true rfl⟩ dX6_number_40 (by first | assumption | exact ⟨by decide, rfl⟩) (Nat.le_of_ble_eq_true rfl) (c_X6_wrong) ?_
      exact e_ireB rfl dX6_number_43 rfl (by grind) (by first | (rw [if_pos (by grind)]; done) | (rw [if_neg (by grind), wg_wt]; first | (rw [if_pos (by grind)]; done) | (rw [if_neg (by grind)]; done)))
    ·
      refine e_aload_n dX6_number_26 rfl ?_
      refine e_getI kX6 (by first | assumption | exact ⟨by decide, rfl⟩) (by decide) fX6_104 rfl dX6_number_27 ?_
      rw [g34]
      refine e_iload_n dX6_number_30 rfl ?_
      refine e_icmp_le (tgt := 44) dX6_number_31 (by decide) (fun h31 => ?_) (fun h31 => ?_)
      ·
        refine e_aload_n dX6_number_44 rfl ?_
        refine e_aload_n dX6_number_45 rfl ?_
        refine e_getI kX6 (by first | assumption | exact ⟨by decide, rfl⟩) (by decide) fX6_104 rfl dX6_number_46 ?_
        rw [g34]
        refine e_putI kX6 (by first | assumption | exact ⟨by decide, rfl⟩) (by decide) fX6_118 rfl rfl rfl dX6_number_49 ?_
        rw [e36]
        refine e_aload_n dX6_number_52 rfl ?_
        refine e_V0v oX6_take lX6_115 ⟨Nat.le_of_ble_eq_true rfl, Nat.le_of_ble_eq_true rfl⟩ dX6_number_53 (by first | assumption | exact ⟨by decide, rfl⟩) (Nat.le_of_ble_eq_true rfl) htk ?_
        refine e_iconst (v := 1) dX6_number_56 (by decide) ?_
        exact e_ret1 rfl dX6_number_57 (by grind) (by first | (rw [if_pos (by grind)]; done) | (rw [if_neg (by grind), wg_wt]; first | (rw [if_pos (by grind)]; done) | (rw [if_neg (by grind)]; done)))
      ·
        refine e_aload_n dX6_number_34 rfl ?_
        refine e_iconst (v := 2) dX6_number_35 (by decide) ?_
        refine e_aload_n dX6_number_36 rfl ?_
        refine e_getI kX6 (by first | assumption | exact ⟨by decide, rfl⟩) (by decide) fX6_90 rfl dX6_number_37 ?_
        rw [g35]
        refine e_V2 oX6_wrong lX6_111 ⟨Nat.le_of_ble_eq_true rfl, Nat.le_of_ble_eq_true rfl⟩ dX6_number_40 (by first | assumption | exact ⟨by decide, rfl⟩) (Nat.le_of_ble_eq_true rfl) (c_X6_wrong) ?_
        exact e_ireB rfl dX6_number_43 rfl (by grind) (by first | (rw [if_pos (by grind)]; done) | (rw [if_neg (by grind), wg_wt]; first | (rw [if_pos (by grind)]; done) | (rw [if_neg (by grind)]; done)))
  ·
    refine e_aload_n dX6_number_8 rfl ?_
    refine e_iconst (v := 1) dX6_number_9 (by decide) ?_
    refine e_aload_n dX6_number_10 rfl ?_
    refine e_getI kX6 (by first | assumption | exact ⟨by decide, rfl⟩) (by decide) fX6_90 rfl dX6_number_11 ?_
    rw [g35]
    refine e_V2 oX6_wrong lX6_111 ⟨Nat.le_of_ble_eq_true rfl, Nat.le_of_ble_eq_true rfl⟩ dX6_number_14 (by first | assumption | exact ⟨by decide, rfl⟩) (Nat.le_of_ble_eq_true rfl) (c_X6_wrong) ?_
    exact e_ireB rfl dX6_number_17 rfl (by grind) (by first | (rw [if_pos (by grind)]; done) | (rw [if_neg (by grind), wg_wt]; first | (rw [if_pos (by grind)]; done) | (rw [if_neg (by grind)]; done)))
