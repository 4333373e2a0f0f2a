-- the reference's reader: a line, statutes
abbrev moM (w : Int32) : Int32 := if w = 1 then 9 else if w = 2 then 100000 else 60
/-- a setting's line: m the word's token -/
def seM (σ : rS) (m m1 m2 : rM4) : Int32 × rS × rM4 :=
  if 0 ≤ σ 8 5 (3 + m.2.2.2) then (0, wg σ 3 m.2.1, m)
  else if nbB m1 0 (moM m.2.2.2) then (1, up (up σ 8 36 0 m1.2.2.2) 8 5 (3 + m.2.2.2) m1.2.2.2, m2)
  else (0, wg σ (if m1.2.2.1 = 3 then 2 else 1) m1.2.1, m1)
def liM (T : Nat → Int32) (N : Nat) (σ : rS) (m : rM4) : Int32 × rS × rM4 :=
  if m.2.2.1 = 1 ∧ m.2.2.2 ≤ 5 then
    (if m.2.2.2 = 5 then buM σ (tkF T N m) (ka2 T N m) (ka3 T N m) (ka4 T N m) (ka5 T N m) (ka6 T N m)
     else seM σ m (tkF T N m) (ka2 T N m))
  else (0, wg σ 1 m.2.1, m)
/-- a word's number is 1 .. 7 -/
abbrev w17 (m : rM4) : Prop := m.2.2.1 = 1 → 1 ≤ m.2.2.2 ∧ m.2.2.2 ≤ 7
theorem c_X6_line {σ : rS} {N : Nat} {m : rM4} (hw : wdOk σ) (hN : σ 8 31 0 = nI N) (hN2 : N ≤ 600) (hi : m.1 ≤ N) (h17 : w17 m) : Ct mX6_line [.inr (8, 0)] (wt σ m) (some (.inl (bI ((liM (ty σ) N σ m).1 = 1)))) (wt (liM (ty σ) N σ m).2.1 (liM (ty σ) N σ m).2.2) := by
  refine C_of_E rfl rfl (Nat.le_of_ble_eq_true rfl) ?_
  have g33 : wt σ m 8 33 0 = m.2.2.1 := wt_33
  have g34 : wt σ m 8 34 0 = m.2.2.2 := wt_34
  have g35 : wt σ m 8 35 0 = m.2.1 := wt_35
  have i1 := (tkF_le (T := ty σ) hi).1
  have T1 := c_X6_take hw hN hN2 hi
  have N1 := c_X6_number (lo := 0) (hi := moM m.2.2.2) hw hN hN2 i1
  have BL := c_X6_burdenLine hw hN hN2 hi
  unfold liM
  by_cases q1 : m.2.2.1 = 1 ∧ m.2.2.2 ≤ 5
  · rw [if_pos q1]
    by_cases q2 : m.2.2.2 = 5
    · rw [if_pos q2]
      clear hw hN N1 T1
      refine e_aload_n dX6_line_0 rfl ?_
      refine e_getI kX6 (by first | assumption | exact ⟨by decide, rfl⟩) (by decide) fX6_93 rfl dX6_line_1 ?_
      rw [g33]
      refine e_iconst (v := 1) dX6_line_4 (by decide) ?_
      refine e_icmp_ne (tgt := 16) dX6_line_5 (by decide) (fun h5 => ?_) (fun h5 => ?_)
      · exfalso
        clear BL; grind
      refine e_aload_n dX6_line_8 rfl ?_
      refine e_getI kX6 (by first | assumption | exact ⟨by decide, rfl⟩) (by decide) fX6_104 rfl dX6_line_9 ?_
      rw [g34]
      refine e_iconst (v := 5) dX6_line_12 (by decide) ?_
      refine e_icmp_le (tgt := 26) dX6_line_13 (by decide) (fun h13 => ?_) (fun h13 => ?_)
      rotate_left
      · exfalso
        clear BL; grind
      refine e_aload_n dX6_line_26 rfl ?_
      refine e_getI kX6 (by first | assumption | exact ⟨by decide, rfl⟩) (by decide) fX6_104 rfl dX6_line_27 ?_
      rw [g34]
      refine e_iconst (v := 5) dX6_line_30 (by decide) ?_
      refine e_icmp_ne (tgt := 39) dX6_line_31 (by decide) (fun h31 => ?_) (fun h31 => ?_)
      · exfalso
        clear BL; grind
      refine e_aload_n dX6_line_34 rfl ?_
      refine e_V0 oX6_burdenLine lX6_127 ⟨Nat.le_of_ble_eq_true rfl, Nat.le_of_ble_eq_true rfl⟩ dX6_line_35 (by first | assumption | exact ⟨by decide, rfl⟩) (Nat.le_of_ble_eq_true rfl) BL ?_
      exact e_ireB rfl dX6_line_38 rfl Iff.rfl rfl
    · rw [if_neg q2]
      unfold seM
      have hx := h17 q1.1
      have bx : 0 ≤ 3 + m.2.2.2 ∧ 3 + m.2.2.2 < 8 := by clear BL T1 N1 hw; grind
      have grl : wt σ m 8 5 (3 + m.2.2.2) = σ 8 5 (3 + m.2.2.2) := wt_fr (by decide)
      clear BL hw
      by_cases q3 : 0 ≤ σ 8 5 (3 + m.2.2.2)
      · rw [if_pos q3]
        clear T1 N1
        refine e_aload_n dX6_line_0 rfl ?_
        refine e_getI kX6 (by first | assumption | exact ⟨by decide, rfl⟩) (by decide) fX6_93 rfl dX6_line_1 ?_
        rw [g33]
        refine e_iconst (v := 1) dX6_line_4 (by decide) ?_
        refine e_icmp_ne (tgt := 16) dX6_line_5 (by decide) (fun h5 => ?_) (fun h5 => ?_)
        · exfalso
          grind
        refine e_aload_n dX6_line_8 rfl ?_
        refine e_getI kX6 (by first | assumption | exact ⟨by decide, rfl⟩) (by decide) fX6_104 rfl dX6_line_9 ?_
        rw [g34]
        refine e_iconst (v := 5) dX6_line_12 (by decide) ?_
        refine e_icmp_le (tgt := 26) dX6_line_13 (by decide) (fun h13 => ?_) (fun h13 => ?_)
        rotate_left
        · exfalso
          grind
        refine e_aload_n dX6_line_26 rfl ?_
        refine e_getI kX6 (by first | assumption | exact ⟨by decide, rfl⟩) (by decide) fX6_104 rfl dX6_line_27 ?_
        rw [g34]
        refine e_iconst (v := 5) dX6_line_30 (by decide) ?_
        refine e_icmp_ne (tgt := 39) dX6_line_31 (by decide) (fun h31 => ?_) (fun h31 => ?_)
        rotate_left
        · exfalso
          grind
        refine e_iconst (v := 3) dX6_line_39 (by decide) ?_
        refine e_aload_n dX6_line_40 rfl ?_
        refine e_getI kX6 (by first | assumption | exact ⟨by decide, rfl⟩) (by decide) fX6_104 rfl dX6_line_41 ?_
        rw [g34]
        refine e_iadd dX6_line_44 ?_
        refine e_istore_n dX6_line_45 (by decide) (Nat.le_of_ble_eq_true rfl) ?_
        refine e_aload_n dX6_line_46 rfl ?_
        refine e_getA kX6 (by first | assumption | exact ⟨by decide, rfl⟩) (by decide) fX6_19 rfl dX6_line_47 ?_
        refine e_iload_n dX6_line_50 rfl ?_
        refine e_iald (ci := 6) (by first | assumption | exact ⟨by decide, rfl⟩) rfl (vin 8 (by decide) bx) dX6_line_51 ?_
        rw [grl]
        refine e_if_lt (tgt := 65) dX6_line_52 (by decide) (fun h52 => ?_) (fun h52 => ?_)
        · exfalso
          grind
        refine e_aload_n dX6_line_55 rfl ?_
        refine e_iconst (v := 3) dX6_line_56 (by decide) ?_
        refine e_aload_n dX6_line_57 rfl ?_
        refine e_getI kX6 (by first | assumption | exact ⟨by decide, rfl⟩) (by decide) fX6_90 rfl dX6_line_58 ?_
        rw [g35]
        refine e_V2 oX6_wrong lX6_111 ⟨Nat.le_of_ble_eq_true rfl, Nat.le_of_ble_eq_true rfl⟩ dX6_line_61 (by first | assumption | exact ⟨by decide, rfl⟩) (Nat.le_of_ble_eq_true rfl) (c_X6_wrong) ?_
        exact e_ireB rfl dX6_line_64 rfl Iff.rfl wg_wt
      · rw [if_neg q3]
        unfold ka2
        generalize tkF (ty σ) N m = m1 at *
        generalize tkF (ty σ) N m1 = m2 at *
        have r36 : wt (up σ 8 36 0 m1.2.2.2) m2 8 36 0 = m1.2.2.2 := (wt_fr (by decide)).trans up_self
        have ec : up (wt (up σ 8 36 0 m1.2.2.2) m2) 8 5 (3 + m.2.2.2) m1.2.2.2 = wt (up (up σ 8 36 0 m1.2.2.2) 8 5 (3 + m.2.2.2) m1.2.2.2) m2 := wt_up (by decide)
        have fin : E mX6_line 93 [.inr (8, 0), .inl (3 + m.2.2.2)] [.inl (moM m.2.2.2)] (wt σ m) (some (.inl (bI ((if nbB m1 0 (moM m.2.2.2) then (1, up (up σ 8 36 0 m1.2.2.2) 8 5 (3 + m.2.2.2) m1.2.2.2, m2) else (0, wg σ (if m1.2.2.1 = 3 then 2 else 1) m1.2.1, m1) : Int32 × rS × rM4).1 = 1)))) (wt (if nbB m1 0 (moM m.2.2.2) then (1, up (up σ 8 36 0 m1.2.2.2) 8 5 (3 + m.2.2.2) m1.2.2.2, m2) else (0, wg σ (if m1.2.2.1 = 3 then 2 else 1) m1.2.1, m1) : Int32 × rS × rM4).2.1 (if nbB m1 0 (moM m.2.2.2) then (1, up (up σ 8 36 0 m1.2.2.2) 8 5 (3 + m.2.2.2) m1.2.2.2, m2) else (0, wg σ (if m1.2.2.1 = 3 then 2 else 1) m1.2.1, m1) : Int32 × rS × rM4).2.2) := by
          by_cases q4 : nbB m1 0 (moM m.2.2.2)
          · rw [if_pos q4] at N1 ⊢
            refine e_istore_n dX6_line_93 (by decide) (Nat.le_of_ble_eq_true rfl) ?_
            refine e_aload_n dX6_line_94 rfl ?_
            refine e_V0v oX6_take lX6_115 ⟨Nat.le_of_ble_eq_true rfl, Nat.le_of_ble_eq_true rfl⟩ dX6_line_95 (by first | assumption | exact ⟨by decide, rfl⟩) (Nat.le_of_ble_eq_true rfl) T1 ?_
            refine e_aload_n dX6_line_98 rfl ?_
            refine e_iconst (v := 0) dX6_line_99 (by decide) ?_
            refine e_iload_n dX6_line_100 rfl ?_
            refine e_V2 oX6_number lX6_124 ⟨Nat.le_of_ble_eq_true rfl, Nat.le_of_ble_eq_true rfl⟩ dX6_line_101 (by first | assumption | exact ⟨by decide, rfl⟩) (Nat.le_of_ble_eq_true rfl) N1 ?_
            refine e_if_neB (tgt := 109) dX6_line_104 (by decide) (fun h104 => ?_) (fun h104 => ?_)
            rotate_left
            · exfalso
              contradiction
            refine e_aload_n dX6_line_109 rfl ?_
            refine e_getA kX6 (by first | assumption | exact ⟨by decide, rfl⟩) (by decide) fX6_19 rfl dX6_line_110 ?_
            refine e_iload_n dX6_line_113 rfl ?_
            refine e_aload_n dX6_line_114 rfl ?_
            refine e_getI kX6 (by first | assumption | exact ⟨by decide, rfl⟩) (by decide) fX6_118 rfl dX6_line_115 ?_
            rw [r36]
            refine e_iast (ci := 6) (by first | assumption | exact ⟨by decide, rfl⟩) rfl (vin 8 (by decide) bx) dX6_line_118 ?_
            rw [ec]
            refine e_iconst (v := 1) dX6_line_119 (by decide) ?_
            exact e_ret1 rfl dX6_line_120 rfl rfl
          · rw [if_neg q4] at N1 ⊢
            refine e_istore_n dX6_line_93 (by decide) (Nat.le_of_ble_eq_true rfl) ?_
            refine e_aload_n dX6_line_94 rfl ?_
            refine e_V0v oX6_take lX6_115 ⟨Nat.le_of_ble_eq_true rfl, Nat.le_of_ble_eq_true rfl⟩ dX6_line_95 (by first | assumption | exact ⟨by decide, rfl⟩) (Nat.le_of_ble_eq_true rfl) T1 ?_
            refine e_aload_n dX6_line_98 rfl ?_
            refine e_iconst (v := 0) dX6_line_99 (by decide) ?_
            refine e_iload_n dX6_line_100 rfl ?_
            refine e_V2 oX6_number lX6_124 ⟨Nat.le_of_ble_eq_true rfl, Nat.le_of_ble_eq_true rfl⟩ dX6_line_101 (by first | assumption | exact ⟨by decide, rfl⟩) (Nat.le_of_ble_eq_true rfl) N1 ?_
            refine e_if_neB (tgt := 109) dX6_line_104 (by decide) (fun h104 => ?_) (fun h104 => ?_)
            · exfalso
              contradiction
            refine e_iconst (v := 0) dX6_line_107 (by decide) ?_
            exact e_ret0 rfl dX6_line_108 (show ¬ (0 : Int32) = 1 by decide) rfl
        clear T1 N1 r36 ec
        refine e_aload_n dX6_line_0 rfl ?_
        refine e_getI kX6 (by first | assumption | exact ⟨by decide, rfl⟩) (by decide) fX6_93 rfl dX6_line_1 ?_
        rw [g33]
        refine e_iconst (v := 1) dX6_line_4 (by decide) ?_
        refine e_icmp_ne (tgt := 16) dX6_line_5 (by decide) (fun h5 => ?_) (fun h5 => ?_)
        · exfalso
          clear fin; grind
        refine e_aload_n dX6_line_8 rfl ?_
        refine e_getI kX6 (by first | assumption | exact ⟨by decide, rfl⟩) (by decide) fX6_104 rfl dX6_line_9 ?_
        rw [g34]
        refine e_iconst (v := 5) dX6_line_12 (by decide) ?_
        refine e_icmp_le (tgt := 26) dX6_line_13 (by decide) (fun h13 => ?_) (fun h13 => ?_)
        rotate_left
        · exfalso
          clear fin; grind
        refine e_aload_n dX6_line_26 rfl ?_
        refine e_getI kX6 (by first | assumption | exact ⟨by decide, rfl⟩) (by decide) fX6_104 rfl dX6_line_27 ?_
        rw [g34]
        refine e_iconst (v := 5) dX6_line_30 (by decide) ?_
        refine e_icmp_ne (tgt := 39) dX6_line_31 (by decide) (fun h31 => ?_) (fun h31 => ?_)
        rotate_left
        · exfalso
          clear fin; grind
        refine e_iconst (v := 3) dX6_line_39 (by decide) ?_
        refine e_aload_n dX6_line_40 rfl ?_
        refine e_getI kX6 (by first | assumption | exact ⟨by decide, rfl⟩) (by decide) fX6_104 rfl dX6_line_41 ?_
        rw [g34]
        refine e_iadd dX6_line_44 ?_
        refine e_istore_n dX6_line_45 (by decide) (Nat.le_of_ble_eq_true rfl) ?_
        refine e_aload_n dX6_line_46 rfl ?_
        refine e_getA kX6 (by first | assumption | exact ⟨by decide, rfl⟩) (by decide) fX6_19 rfl dX6_line_47 ?_
        refine e_iload_n dX6_line_50 rfl ?_
        refine e_iald (ci := 6) (by first | assumption | exact ⟨by decide, rfl⟩) rfl (vin 8 (by decide) bx) dX6_line_51 ?_
        rw [grl]
        refine e_if_lt (tgt := 65) dX6_line_52 (by decide) (fun h52 => ?_) (fun h52 => ?_)
        rotate_left
        · exfalso
          clear fin; grind
        refine e_aload_n dX6_line_65 rfl ?_
        refine e_getI kX6 (by first | assumption | exact ⟨by decide, rfl⟩) (by decide) fX6_104 rfl dX6_line_66 ?_
        rw [g34]
        refine e_iconst (v := 1) dX6_line_69 (by decide) ?_
        refine e_icmp_ne (tgt := 78) dX6_line_70 (by decide) (fun h70 => ?_) (fun h70 => ?_)
        ·
          refine e_aload_n dX6_line_78 rfl ?_
          refine e_getI kX6 (by first | assumption | exact ⟨by decide, rfl⟩) (by decide) fX6_104 rfl dX6_line_79 ?_
          rw [g34]
          refine e_iconst (v := 2) dX6_line_82 (by decide) ?_
          refine e_icmp_ne (tgt := 91) dX6_line_83 (by decide) (fun h83 => ?_) (fun h83 => ?_)
          ·
            refine e_bipush (v := 60) dX6_line_91 (by decide) ?_
            exact e_st (by simp only [moM]; clear fin; grind) fin
          ·
            refine e_ldc dX6_line_86 kX6_131 ?_
            refine e_goto (tgt := 93) dX6_line_88 (by decide) ?_
            exact e_st (by simp only [moM]; clear fin; grind) fin
        ·
          refine e_bipush (v := 9) dX6_line_73 (by decide) ?_
          refine e_goto (tgt := 93) dX6_line_75 (by decide) ?_
          exact e_st (by simp only [moM]; clear fin; grind) fin
  · rw [if_neg q1]
    clear hw hN N1 T1 BL
    refine e_aload_n dX6_line_0 rfl ?_
    refine e_getI kX6 (by first | assumption | exact ⟨by decide, rfl⟩) (by decide) fX6_93 rfl dX6_line_1 ?_
    rw [g33]
    refine e_iconst (v := 1) dX6_line_4 (by decide) ?_
    refine e_icmp_ne (tgt := 16) dX6_line_5 (by decide) (fun h5 => ?_) (fun h5 => ?_)
    ·
      refine e_aload_n dX6_line_16 rfl ?_
      refine e_iconst (v := 1) dX6_line_17 (by decide) ?_
      refine e_aload_n dX6_line_18 rfl ?_
      refine e_getI kX6 (by first | assumption | exact ⟨by decide, rfl⟩) (by decide) fX6_90 rfl dX6_line_19 ?_
      rw [g35]
      refine e_V2 oX6_wrong lX6_111 ⟨Nat.le_of_ble_eq_true rfl, Nat.le_of_ble_eq_true rfl⟩ dX6_line_22 (by first | assumption | exact ⟨by decide, rfl⟩) (Nat.le_of_ble_eq_true rfl) (c_X6_wrong) ?_
      exact e_ireB rfl dX6_line_25 rfl Iff.rfl wg_wt
    ·
      refine e_aload_n dX6_line_8 rfl ?_
      refine e_getI kX6 (by first | assumption | exact ⟨by decide, rfl⟩) (by decide) fX6_104 rfl dX6_line_9 ?_
      rw [g34]
      refine e_iconst (v := 5) dX6_line_12 (by decide) ?_
      refine e_icmp_le (tgt := 26) dX6_line_13 (by decide) (fun h13 => ?_) (fun h13 => ?_)
      · exfalso
        grind
      refine e_aload_n dX6_line_16 rfl ?_
      refine e_iconst (v := 1) dX6_line_17 (by decide) ?_
      refine e_aload_n dX6_line_18 rfl ?_
      refine e_getI kX6 (by first | assumption | exact ⟨by decide, rfl⟩) (by decide) fX6_90 rfl dX6_line_19 ?_
      rw [g35]
      refine e_V2 oX6_wrong lX6_111 ⟨Nat.le_of_ble_eq_true rfl, Nat.le_of_ble_eq_true rfl⟩ dX6_line_22 (by first | assumption | exact ⟨by decide, rfl⟩) (Nat.le_of_ble_eq_true rfl) (c_X6_wrong) ?_
      exact e_ireB rfl dX6_line_25 rfl Iff.rfl wg_wt
