-- the reference's reader: a burden's line
theorem tkF_k2 {T : Nat → Int32} {N : Nat} {m : rM4} (h : (tkF T N m).2.2.1 = 2) : 65 ≤ (tkF T N m).2.2.2 ∧ (tkF T N m).2.2.2 ≤ 70 := by
  unfold tkF at h ⊢
  split at h
  · rename_i h1
    rw [if_pos h1]
    split at h
    · rename_i h2
      rw [if_pos h2]
      dsimp only at h ⊢
      split at h
      · exact absurd h (by decide)
      · exact absurd h (by decide)
    · rename_i h2
      rw [if_neg h2]
      split at h
      · exact absurd (show (3 : Int32) = 2 from h) (by decide)
      · rename_i h3
        rw [if_neg h3]
        dsimp only at h ⊢
        unfold chK at h
        split at h
        · assumption
        · split at h
          · exact absurd h (by decide)
          · exact absurd h (by decide)
  · exact absurd (show (0 : Int32) = 2 from h) (by decide)
abbrev ka2 (T : Nat → Int32) (N : Nat) (m : rM4) : rM4 := tkF T N (tkF T N m)
abbrev ka3 (T : Nat → Int32) (N : Nat) (m : rM4) : rM4 := tkF T N (ka2 T N m)
abbrev ka4 (T : Nat → Int32) (N : Nat) (m : rM4) : rM4 := tkF T N (ka3 T N m)
abbrev ka5 (T : Nat → Int32) (N : Nat) (m : rM4) : rM4 := tkF T N (ka4 T N m)
abbrev ka6 (T : Nat → Int32) (N : Nat) (m : rM4) : rM4 := tkF T N (ka5 T N m)
/-- a burden's line -/
def buM (σ : rS) (m1 m2 m3 m4 m5 m6 : rM4) : Int32 × rS × rM4 :=
  if m1.2.2.1 = 2 then
    (if 0 < σ 8 4 (6 + m1.2.2.2 - 65) then (0, wg σ 3 m1.2.1, m1) else
      (if wdB m2 6 then
        (if nbB m3 1 10000 then
          (if wdB m4 7 then
            (if nbB m5 1 4 then (1, up (up (up (up σ 8 36 0 m3.2.2.2) 8 3 (6 + m1.2.2.2 - 65) m3.2.2.2) 8 36 0 m5.2.2.2) 8 4 (6 + m1.2.2.2 - 65) m5.2.2.2, m6)
             else (0, wg (up (up σ 8 36 0 m3.2.2.2) 8 3 (6 + m1.2.2.2 - 65) m3.2.2.2) (if m5.2.2.1 = 3 then 2 else 1) m5.2.1, m5))
           else (0, wg (up (up σ 8 36 0 m3.2.2.2) 8 3 (6 + m1.2.2.2 - 65) m3.2.2.2) 1 m4.2.1, m4))
         else (0, wg σ (if m3.2.2.1 = 3 then 2 else 1) m3.2.1, m3))
       else (0, wg σ 1 m2.2.1, m2)))
  else (0, wg σ 1 m1.2.1, m1)
theorem ty_up {σ : rS} {k : Nat} {i v : Int32} (h : ¬ k = 0) : ty (up σ 8 k i v) = ty σ := by
  funext j; unfold ty; rw [up_k (fun z => h z.symm)]
theorem wd_up {σ : rS} {k : Nat} {i v : Int32} (h : ¬ k = 30) (hw : wdOk σ) : wdOk (up σ 8 k i v) := fun j hj => (up_k (fun z => h z.symm)).trans (hw j hj)
theorem c_X6_burdenLine {σ : rS} {N : Nat} {m : rM4} (hw : wdOk σ) (hN : σ 8 31 0 = nI N) (hN2 : N ≤ 600) (hi : m.1 ≤ N) : Ct mX6_burdenLine [.inr (8, 0)] (wt σ m) (some (.inl (bI ((buM σ (tkF (ty σ) N m) (ka2 (ty σ) N m) (ka3 (ty σ) N m) (ka4 (ty σ) N m) (ka5 (ty σ) N m) (ka6 (ty σ) N m)).1 = 1)))) (wt (buM σ (tkF (ty σ) N m) (ka2 (ty σ) N m) (ka3 (ty σ) N m) (ka4 (ty σ) N m) (ka5 (ty σ) N m) (ka6 (ty σ) N m)).2.1 (buM σ (tkF (ty σ) N m) (ka2 (ty σ) N m) (ka3 (ty σ) N m) (ka4 (ty σ) N m) (ka5 (ty σ) N m) (ka6 (ty σ) N m)).2.2) := by
  refine C_of_E rfl rfl (Nat.le_of_ble_eq_true rfl) ?_
  have i1 := (tkF_le (T := ty σ) hi).1
  have i2 := (tkF_le (T := ty σ) i1).1
  have i3 := (tkF_le (T := ty σ) i2).1
  have i4 := (tkF_le (T := ty σ) i3).1
  have i5 := (tkF_le (T := ty σ) i4).1
  have k2 := tkF_k2 (T := ty σ) (N := N) (m := m)
  have T1 := c_X6_take hw hN hN2 hi
  have T2 := c_X6_take hw hN hN2 i1
  have W6 := c_X6_word (w := 6) hw hN hN2 i2
  have N1 := c_X6_number (lo := 1) (hi := 10000) hw hN hN2 i3
  have hwc : ∀ b v r, wdOk (up (up σ 8 36 0 r) 8 3 b v) := fun b v r => wd_up (by decide) (wd_up (by decide) hw)
  have hNc : ∀ b v r, up (up σ 8 36 0 r) 8 3 b v 8 31 0 = nI N := fun b v r => (up_k (by decide)).trans ((up_k (by decide)).trans hN)
  have htc : ∀ b v r, ty (up (up σ 8 36 0 r) 8 3 b v) = ty σ := fun b v r => (ty_up (by decide)).trans (ty_up (by decide))
  have W7 : ∀ b v r, _ := fun b v r => c_X6_word (σ := up (up σ 8 36 0 r) 8 3 b v) (m := ka4 (ty σ) N m) (w := 7) (hwc b v r) (hNc b v r) hN2 i4
  have N2 : ∀ b v r, _ := fun b v r => c_X6_number (σ := up (up σ 8 36 0 r) 8 3 b v) (m := ka5 (ty σ) N m) (lo := 1) (hi := 4) (hwc b v r) (hNc b v r) hN2 i5
  simp only [htc] at W7 N2
  clear hw hwc hNc htc hN
  unfold ka2 ka3 ka4 ka5 ka6 at *
  generalize tkF (ty σ) N (tkF (ty σ) N (tkF (ty σ) N (tkF (ty σ) N (tkF (ty σ) N (tkF (ty σ) N m))))) = m6 at *
  generalize tkF (ty σ) N (tkF (ty σ) N (tkF (ty σ) N (tkF (ty σ) N (tkF (ty σ) N m)))) = m5 at *
  generalize tkF (ty σ) N (tkF (ty σ) N (tkF (ty σ) N (tkF (ty σ) N m))) = m4 at *
  generalize tkF (ty σ) N (tkF (ty σ) N (tkF (ty σ) N m)) = m3 at *
  generalize tkF (ty σ) N (tkF (ty σ) N m) = m2 at *
  generalize tkF (ty σ) N m = m1 at *
  have g33 : wt σ m1 8 33 0 = m1.2.2.1 := wt_33
  have g34 : wt σ m1 8 34 0 = m1.2.2.2 := wt_34
  have g35 : wt σ m1 8 35 0 = m1.2.1 := wt_35
  have gsh : ∀ b, wt σ m1 8 4 b = σ 8 4 b := fun b => wt_fr (by decide)
  have r36 : wt (up σ 8 36 0 m3.2.2.2) m4 8 36 0 = m3.2.2.2 := (wt_fr (by decide)).trans up_self
  have ec : up (wt (up σ 8 36 0 m3.2.2.2) m4) 8 3 (6 + m1.2.2.2 - 65) m3.2.2.2 = wt (up (up σ 8 36 0 m3.2.2.2) 8 3 (6 + m1.2.2.2 - 65) m3.2.2.2) m4 := wt_up (by decide)
  have r36b : wt (up (up (up σ 8 36 0 m3.2.2.2) 8 3 (6 + m1.2.2.2 - 65) m3.2.2.2) 8 36 0 m5.2.2.2) m6 8 36 0 = m5.2.2.2 := (wt_fr (by decide)).trans up_self
  have es : up (wt (up (up (up σ 8 36 0 m3.2.2.2) 8 3 (6 + m1.2.2.2 - 65) m3.2.2.2) 8 36 0 m5.2.2.2) m6) 8 4 (6 + m1.2.2.2 - 65) m5.2.2.2 = wt (up (up (up (up σ 8 36 0 m3.2.2.2) 8 3 (6 + m1.2.2.2 - 65) m3.2.2.2) 8 36 0 m5.2.2.2) 8 4 (6 + m1.2.2.2 - 65) m5.2.2.2) m6 := wt_up (by decide)
  have W7' := W7 (6 + m1.2.2.2 - 65) m3.2.2.2 m3.2.2.2
  have N2' := N2 (6 + m1.2.2.2 - 65) m3.2.2.2 m3.2.2.2
  clear W7 N2
  unfold buM
  by_cases q1 : m1.2.2.1 = 2
  · rw [if_pos q1]
    obtain ⟨x1, x2⟩ := k2 q1
    have bx : 0 ≤ 6 + m1.2.2.2 - 65 ∧ 6 + m1.2.2.2 - 65 < 12 := by clear T1 T2 W6 N1 W7' N2'; grind
    generalize hbe : 6 + m1.2.2.2 - 65 = b at *
    by_cases q2 : 0 < σ 8 4 b
    · rw [if_pos q2]
      refine e_aload_n dX6_burdenLine_0 rfl ?_
      refine e_V0v oX6_take lX6_115 ⟨Nat.le_of_ble_eq_true rfl, Nat.le_of_ble_eq_true rfl⟩ dX6_burdenLine_1 (by first | assumption | exact ⟨by decide, rfl⟩) (Nat.le_of_ble_eq_true rfl) T1 ?_
      refine e_aload_n dX6_burdenLine_4 rfl ?_
      refine e_getI kX6 (by first | assumption | exact ⟨by decide, rfl⟩) (by decide) fX6_93 rfl dX6_burdenLine_5 ?_
      rw [g33]
      refine e_iconst (v := 2) dX6_burdenLine_8 (by decide) ?_
      refine e_icmp_eq (tgt := 22) dX6_burdenLine_9 (by decide) (fun h9 => ?_) (fun h9 => ?_)
      rotate_left
      · exfalso
        first | contradiction | (clear T1 T2 W6 N1 W7' N2'; grind)
      refine e_bipush (v := 6) dX6_burdenLine_22 (by decide) ?_
      refine e_aload_n dX6_burdenLine_24 rfl ?_
      refine e_getI kX6 (by first | assumption | exact ⟨by decide, rfl⟩) (by decide) fX6_104 rfl dX6_burdenLine_25 ?_
      rw [g34]
      refine e_iadd dX6_burdenLine_28 ?_
      refine e_bipush (v := 65) dX6_burdenLine_29 (by decide) ?_
      refine e_isub dX6_burdenLine_31 ?_
      rw [hbe]
      refine e_istore_n dX6_burdenLine_32 (by decide) (Nat.le_of_ble_eq_true rfl) ?_
      refine e_aload_n dX6_burdenLine_33 rfl ?_
      refine e_getA kX6 (by first | assumption | exact ⟨by decide, rfl⟩) (by decide) fX6_16 rfl dX6_burdenLine_34 ?_
      refine e_iload_n dX6_burdenLine_37 rfl ?_
      refine e_iald (ci := 6) (by first | assumption | exact ⟨by decide, rfl⟩) rfl (vin 12 (by decide) bx) dX6_burdenLine_38 ?_
      rw [gsh]
      refine e_if_le (tgt := 52) dX6_burdenLine_39 (by decide) (fun h39 => ?_) (fun h39 => ?_)
      · exfalso
        first | contradiction | (clear T1 T2 W6 N1 W7' N2'; grind)
      refine e_aload_n dX6_burdenLine_42 rfl ?_
      refine e_iconst (v := 3) dX6_burdenLine_43 (by decide) ?_
      refine e_aload_n dX6_burdenLine_44 rfl ?_
      refine e_getI kX6 (by first | assumption | exact ⟨by decide, rfl⟩) (by decide) fX6_90 rfl dX6_burdenLine_45 ?_
      rw [g35]
      refine e_V2 oX6_wrong lX6_111 ⟨Nat.le_of_ble_eq_true rfl, Nat.le_of_ble_eq_true rfl⟩ dX6_burdenLine_48 (by first | assumption | exact ⟨by decide, rfl⟩) (Nat.le_of_ble_eq_true rfl) (c_X6_wrong) ?_
      exact e_ireB rfl dX6_burdenLine_51 rfl (by first | exact Iff.rfl | exact (show ¬ (0 : Int32) = 1 by decide) | rfl) wg_wt
    · rw [if_neg q2]
      by_cases q3 : wdB m2 6
      · rw [if_pos q3] at W6 ⊢
        by_cases q4 : nbB m3 1 10000
        · rw [if_pos q4] at N1 ⊢
          by_cases q5 : wdB m4 7
          · rw [if_pos q5] at W7' ⊢
            by_cases q6 : nbB m5 1 4
            · rw [if_pos q6] at N2' ⊢
              refine e_aload_n dX6_burdenLine_0 rfl ?_
              refine e_V0v oX6_take lX6_115 ⟨Nat.le_of_ble_eq_true rfl, Nat.le_of_ble_eq_true rfl⟩ dX6_burdenLine_1 (by first | assumption | exact ⟨by decide, rfl⟩) (Nat.le_of_ble_eq_true rfl) T1 ?_
              refine e_aload_n dX6_burdenLine_4 rfl ?_
              refine e_getI kX6 (by first | assumption | exact ⟨by decide, rfl⟩) (by decide) fX6_93 rfl dX6_burdenLine_5 ?_
              rw [g33]
              refine e_iconst (v := 2) dX6_burdenLine_8 (by decide) ?_
              refine e_icmp_eq (tgt := 22) dX6_burdenLine_9 (by decide) (fun h9 => ?_) (fun h9 => ?_)
              rotate_left
              · exfalso
                first | contradiction | (clear T1 T2 W6 N1 W7' N2'; grind)
              refine e_bipush (v := 6) dX6_burdenLine_22 (by decide) ?_
              refine e_aload_n dX6_burdenLine_24 rfl ?_
              refine e_getI kX6 (by first | assumption | exact ⟨by decide, rfl⟩) (by decide) fX6_104 rfl dX6_burdenLine_25 ?_
              rw [g34]
              refine e_iadd dX6_burdenLine_28 ?_
              refine e_bipush (v := 65) dX6_burdenLine_29 (by decide) ?_
              refine e_isub dX6_burdenLine_31 ?_
              rw [hbe]
              refine e_istore_n dX6_burdenLine_32 (by decide) (Nat.le_of_ble_eq_true rfl) ?_
              refine e_aload_n dX6_burdenLine_33 rfl ?_
              refine e_getA kX6 (by first | assumption | exact ⟨by decide, rfl⟩) (by decide) fX6_16 rfl dX6_burdenLine_34 ?_
              refine e_iload_n dX6_burdenLine_37 rfl ?_
              refine e_iald (ci := 6) (by first | assumption | exact ⟨by decide, rfl⟩) rfl (vin 12 (by decide) bx) dX6_burdenLine_38 ?_
              rw [gsh]
              refine e_if_le (tgt := 52) dX6_burdenLine_39 (by decide) (fun h39 => ?_) (fun h39 => ?_)
              rotate_left
              · exfalso
                first | contradiction | (clear T1 T2 W6 N1 W7' N2'; grind)
              refine e_aload_n dX6_burdenLine_52 rfl ?_
              refine e_V0v oX6_take lX6_115 ⟨Nat.le_of_ble_eq_true rfl, Nat.le_of_ble_eq_true rfl⟩ dX6_burdenLine_53 (by first | assumption | exact ⟨by decide, rfl⟩) (Nat.le_of_ble_eq_true rfl) T2 ?_
              refine e_aload_n dX6_burdenLine_56 rfl ?_
              refine e_bipush (v := 6) dX6_burdenLine_57 (by decide) ?_
              refine e_V1 oX6_word lX6_121 ⟨Nat.le_of_ble_eq_true rfl, Nat.le_of_ble_eq_true rfl⟩ dX6_burdenLine_59 (by first | assumption | exact ⟨by decide, rfl⟩) (Nat.le_of_ble_eq_true rfl) W6 ?_
              refine e_if_eqB (tgt := 76) dX6_burdenLine_62 (by decide) (fun h62 => ?_) (fun h62 => ?_)
              · exfalso
                first | contradiction | (clear T1 T2 W6 N1 W7' N2'; grind)
              refine e_aload_n dX6_burdenLine_65 rfl ?_
              refine e_iconst (v := 1) dX6_burdenLine_66 (by decide) ?_
              refine e_sipush (v := 10000) dX6_burdenLine_67 (by decide) ?_
              refine e_V2 oX6_number lX6_124 ⟨Nat.le_of_ble_eq_true rfl, Nat.le_of_ble_eq_true rfl⟩ dX6_burdenLine_70 (by first | assumption | exact ⟨by decide, rfl⟩) (Nat.le_of_ble_eq_true rfl) N1 ?_
              refine e_if_neB (tgt := 78) dX6_burdenLine_73 (by decide) (fun h73 => ?_) (fun h73 => ?_)
              rotate_left
              · exfalso
                first | contradiction | (clear T1 T2 W6 N1 W7' N2'; grind)
              refine e_aload_n dX6_burdenLine_78 rfl ?_
              refine e_getA kX6 (by first | assumption | exact ⟨by decide, rfl⟩) (by decide) fX6_13 rfl dX6_burdenLine_79 ?_
              refine e_iload_n dX6_burdenLine_82 rfl ?_
              refine e_aload_n dX6_burdenLine_83 rfl ?_
              skip
              refine e_getI kX6 (by first | assumption | exact ⟨by decide, rfl⟩) (by decide) fX6_118 rfl dX6_burdenLine_84 ?_
              rw [r36]
              refine e_iast (ci := 6) (by first | assumption | exact ⟨by decide, rfl⟩) rfl (vin 12 (by decide) bx) dX6_burdenLine_87 ?_
              rw [ec]
              refine e_aload_n dX6_burdenLine_88 rfl ?_
              refine e_bipush (v := 7) dX6_burdenLine_89 (by decide) ?_
              refine e_V1 oX6_word lX6_121 ⟨Nat.le_of_ble_eq_true rfl, Nat.le_of_ble_eq_true rfl⟩ dX6_burdenLine_91 (by first | assumption | exact ⟨by decide, rfl⟩) (Nat.le_of_ble_eq_true rfl) W7' ?_
              refine e_if_eqB (tgt := 106) dX6_burdenLine_94 (by decide) (fun h94 => ?_) (fun h94 => ?_)
              · exfalso
                first | contradiction | (clear T1 T2 W6 N1 W7' N2'; grind)
              refine e_aload_n dX6_burdenLine_97 rfl ?_
              refine e_iconst (v := 1) dX6_burdenLine_98 (by decide) ?_
              refine e_iconst (v := 4) dX6_burdenLine_99 (by decide) ?_
              refine e_V2 oX6_number lX6_124 ⟨Nat.le_of_ble_eq_true rfl, Nat.le_of_ble_eq_true rfl⟩ dX6_burdenLine_100 (by first | assumption | exact ⟨by decide, rfl⟩) (Nat.le_of_ble_eq_true rfl) N2' ?_
              refine e_if_neB (tgt := 108) dX6_burdenLine_103 (by decide) (fun h103 => ?_) (fun h103 => ?_)
              rotate_left
              · exfalso
                first | contradiction | (clear T1 T2 W6 N1 W7' N2'; grind)
              refine e_aload_n dX6_burdenLine_108 rfl ?_
              refine e_getA kX6 (by first | assumption | exact ⟨by decide, rfl⟩) (by decide) fX6_16 rfl dX6_burdenLine_109 ?_
              refine e_iload_n dX6_burdenLine_112 rfl ?_
              refine e_aload_n dX6_burdenLine_113 rfl ?_
              refine e_getI kX6 (by first | assumption | exact ⟨by decide, rfl⟩) (by decide) fX6_118 rfl dX6_burdenLine_114 ?_
              rw [r36b]
              refine e_iast (ci := 6) (by first | assumption | exact ⟨by decide, rfl⟩) rfl (vin 12 (by decide) bx) dX6_burdenLine_117 ?_
              rw [es]
              refine e_iconst (v := 1) dX6_burdenLine_118 (by decide) ?_
              exact e_ret1 rfl dX6_burdenLine_119 (by first | exact Iff.rfl | exact (show ¬ (0 : Int32) = 1 by decide) | rfl) rfl
            · rw [if_neg q6] at N2' ⊢
              refine e_aload_n dX6_burdenLine_0 rfl ?_
              refine e_V0v oX6_take lX6_115 ⟨Nat.le_of_ble_eq_true rfl, Nat.le_of_ble_eq_true rfl⟩ dX6_burdenLine_1 (by first | assumption | exact ⟨by decide, rfl⟩) (Nat.le_of_ble_eq_true rfl) T1 ?_
              refine e_aload_n dX6_burdenLine_4 rfl ?_
              refine e_getI kX6 (by first | assumption | exact ⟨by decide, rfl⟩) (by decide) fX6_93 rfl dX6_burdenLine_5 ?_
              rw [g33]
              refine e_iconst (v := 2) dX6_burdenLine_8 (by decide) ?_
              refine e_icmp_eq (tgt := 22) dX6_burdenLine_9 (by decide) (fun h9 => ?_) (fun h9 => ?_)
              rotate_left
              · exfalso
                first | contradiction | (clear T1 T2 W6 N1 W7' N2'; grind)
              refine e_bipush (v := 6) dX6_burdenLine_22 (by decide) ?_
              refine e_aload_n dX6_burdenLine_24 rfl ?_
              refine e_getI kX6 (by first | assumption | exact ⟨by decide, rfl⟩) (by decide) fX6_104 rfl dX6_burdenLine_25 ?_
              rw [g34]
              refine e_iadd dX6_burdenLine_28 ?_
              refine e_bipush (v := 65) dX6_burdenLine_29 (by decide) ?_
              refine e_isub dX6_burdenLine_31 ?_
              rw [hbe]
              refine e_istore_n dX6_burdenLine_32 (by decide) (Nat.le_of_ble_eq_true rfl) ?_
              refine e_aload_n dX6_burdenLine_33 rfl ?_
              refine e_getA kX6 (by first | assumption | exact ⟨by decide, rfl⟩) (by decide) fX6_16 rfl dX6_burdenLine_34 ?_
              refine e_iload_n dX6_burdenLine_37 rfl ?_
              refine e_iald (ci := 6) (by first | assumption | exact ⟨by decide, rfl⟩) rfl (vin 12 (by decide) bx) dX6_burdenLine_38 ?_
              rw [gsh]
              refine e_if_le (tgt := 52) dX6_burdenLine_39 (by decide) (fun h39 => ?_) (fun h39 => ?_)
              rotate_left
              · exfalso
                first | contradiction | (clear T1 T2 W6 N1 W7' N2'; grind)
              refine e_aload_n dX6_burdenLine_52 rfl ?_
              refine e_V0v oX6_take lX6_115 ⟨Nat.le_of_ble_eq_true rfl, Nat.le_of_ble_eq_true rfl⟩ dX6_burdenLine_53 (by first | assumption | exact ⟨by decide, rfl⟩) (Nat.le_of_ble_eq_true rfl) T2 ?_
              refine e_aload_n dX6_burdenLine_56 rfl ?_
              refine e_bipush (v := 6) dX6_burdenLine_57 (by decide) ?_
              refine e_V1 oX6_word lX6_121 ⟨Nat.le_of_ble_eq_true rfl, Nat.le_of_ble_eq_true rfl⟩ dX6_burdenLine_59 (by first | assumption | exact ⟨by decide, rfl⟩) (Nat.le_of_ble_eq_true rfl) W6 ?_
              refine e_if_eqB (tgt := 76) dX6_burdenLine_62 (by decide) (fun h62 => ?_) (fun h62 => ?_)
              · exfalso
                first | contradiction | (clear T1 T2 W6 N1 W7' N2'; grind)
              refine e_aload_n dX6_burdenLine_65 rfl ?_
              refine e_iconst (v := 1) dX6_burdenLine_66 (by decide) ?_
              refine e_sipush (v := 10000) dX6_burdenLine_67 (by decide) ?_
              refine e_V2 oX6_number lX6_124 ⟨Nat.le_of_ble_eq_true rfl, Nat.le_of_ble_eq_true rfl⟩ dX6_burdenLine_70 (by first | assumption | exact ⟨by decide, rfl⟩) (Nat.le_of_ble_eq_true rfl) N1 ?_
              refine e_if_neB (tgt := 78) dX6_burdenLine_73 (by decide) (fun h73 => ?_) (fun h73 => ?_)
              rotate_left
              · exfalso
                first | contradiction | (clear T1 T2 W6 N1 W7' N2'; grind)
              refine e_aload_n dX6_burdenLine_78 rfl ?_
              refine e_getA kX6 (by first | assumption | exact ⟨by decide, rfl⟩) (by decide) fX6_13 rfl dX6_burdenLine_79 ?_
              refine e_iload_n dX6_burdenLine_82 rfl ?_
              refine e_aload_n dX6_burdenLine_83 rfl ?_
              skip
              refine e_getI kX6 (by first | assumption | exact ⟨by decide, rfl⟩) (by decide) fX6_118 rfl dX6_burdenLine_84 ?_
              rw [r36]
              refine e_iast (ci := 6) (by first | assumption | exact ⟨by decide, rfl⟩) rfl (vin 12 (by decide) bx) dX6_burdenLine_87 ?_
              rw [ec]
              refine e_aload_n dX6_burdenLine_88 rfl ?_
              refine e_bipush (v := 7) dX6_burdenLine_89 (by decide) ?_
              refine e_V1 oX6_word lX6_121 ⟨Nat.le_of_ble_eq_true rfl, Nat.le_of_ble_eq_true rfl⟩ dX6_burdenLine_91 (by first | assumption | exact ⟨by decide, rfl⟩) (Nat.le_of_ble_eq_true rfl) W7' ?_
              refine e_if_eqB (tgt := 106) dX6_burdenLine_94 (by decide) (fun h94 => ?_) (fun h94 => ?_)
              · exfalso
                first | contradiction | (clear T1 T2 W6 N1 W7' N2'; grind)
              refine e_aload_n dX6_burdenLine_97 rfl ?_
              refine e_iconst (v := 1) dX6_burdenLine_98 (by decide) ?_
              refine e_iconst (v := 4) dX6_burdenLine_99 (by decide) ?_
              refine e_V2 oX6_number lX6_124 ⟨Nat.le_of_ble_eq_true rfl, Nat.le_of_ble_eq_true rfl⟩ dX6_burdenLine_100 (by first | assumption | exact ⟨by decide, rfl⟩) (Nat.le_of_ble_eq_true rfl) N2' ?_
              refine e_if_neB (tgt := 108) dX6_burdenLine_103 (by decide) (fun h103 => ?_) (fun h103 => ?_)
              · exfalso
                first | contradiction | (clear T1 T2 W6 N1 W7' N2'; grind)
              refine e_iconst (v := 0) dX6_burdenLine_106 (by decide) ?_
              exact e_ret0 rfl dX6_burdenLine_107 (by first | exact Iff.rfl | exact (show ¬ (0 : Int32) = 1 by decide) | rfl) rfl
          · rw [if_neg q5] at W7' ⊢
            refine e_aload_n dX6_burdenLine_0 rfl ?_
            refine e_V0v oX6_take lX6_115 ⟨Nat.le_of_ble_eq_true rfl, Nat.le_of_ble_eq_true rfl⟩ dX6_burdenLine_1 (by first | assumption | exact ⟨by decide, rfl⟩) (Nat.le_of_ble_eq_true rfl) T1 ?_
            refine e_aload_n dX6_burdenLine_4 rfl ?_
            refine e_getI kX6 (by first | assumption | exact ⟨by decide, rfl⟩) (by decide) fX6_93 rfl dX6_burdenLine_5 ?_
            rw [g33]
            refine e_iconst (v := 2) dX6_burdenLine_8 (by decide) ?_
            refine e_icmp_eq (tgt := 22) dX6_burdenLine_9 (by decide) (fun h9 => ?_) (fun h9 => ?_)
            rotate_left
            · exfalso
              first | contradiction | (clear T1 T2 W6 N1 W7' N2'; grind)
            refine e_bipush (v := 6) dX6_burdenLine_22 (by decide) ?_
            refine e_aload_n dX6_burdenLine_24 rfl ?_
            refine e_getI kX6 (by first | assumption | exact ⟨by decide, rfl⟩) (by decide) fX6_104 rfl dX6_burdenLine_25 ?_
            rw [g34]
            refine e_iadd dX6_burdenLine_28 ?_
            refine e_bipush (v := 65) dX6_burdenLine_29 (by decide) ?_
            refine e_isub dX6_burdenLine_31 ?_
            rw [hbe]
            refine e_istore_n dX6_burdenLine_32 (by decide) (Nat.le_of_ble_eq_true rfl) ?_
            refine e_aload_n dX6_burdenLine_33 rfl ?_
            refine e_getA kX6 (by first | assumption | exact ⟨by decide, rfl⟩) (by decide) fX6_16 rfl dX6_burdenLine_34 ?_
            refine e_iload_n dX6_burdenLine_37 rfl ?_
            refine e_iald (ci := 6) (by first | assumption | exact ⟨by decide, rfl⟩) rfl (vin 12 (by decide) bx) dX6_burdenLine_38 ?_
            rw [gsh]
            refine e_if_le (tgt := 52) dX6_burdenLine_39 (by decide) (fun h39 => ?_) (fun h39 => ?_)
            rotate_left
            · exfalso
              first | contradiction | (clear T1 T2 W6 N1 W7' N2'; grind)
            refine e_aload_n dX6_burdenLine_52 rfl ?_
            refine e_V0v oX6_take lX6_115 ⟨Nat.le_of_ble_eq_true rfl, Nat.le_of_ble_eq_true rfl⟩ dX6_burdenLine_53 (by first | assumption | exact ⟨by decide, rfl⟩) (Nat.le_of_ble_eq_true rfl) T2 ?_
            refine e_aload_n dX6_burdenLine_56 rfl ?_
            refine e_bipush (v := 6) dX6_burdenLine_57 (by decide) ?_
            refine e_V1 oX6_word lX6_121 ⟨Nat.le_of_ble_eq_true rfl, Nat.le_of_ble_eq_true rfl⟩ dX6_burdenLine_59 (by first | assumption | exact ⟨by decide, rfl⟩) (Nat.le_of_ble_eq_true rfl) W6 ?_
            refine e_if_eqB (tgt := 76) dX6_burdenLine_62 (by decide) (fun h62 => ?_) (fun h62 => ?_)
            · exfalso
              first | contradiction | (clear T1 T2 W6 N1 W7' N2'; grind)
            refine e_aload_n dX6_burdenLine_65 rfl ?_
            refine e_iconst (v := 1) dX6_burdenLine_66 (by decide) ?_
            refine e_sipush (v := 10000) dX6_burdenLine_67 (by decide) ?_
            refine e_V2 oX6_number lX6_124 ⟨Nat.le_of_ble_eq_true rfl, Nat.le_of_ble_eq_true rfl⟩ dX6_burdenLine_70 (by first | assumption | exact ⟨by decide, rfl⟩) (Nat.le_of_ble_eq_true rfl) N1 ?_
            refine e_if_neB (tgt := 78) dX6_burdenLine_73 (by decide) (fun h73 => ?_) (fun h73 => ?_)
            rotate_left
            · exfalso
              first | contradiction | (clear T1 T2 W6 N1 W7' N2'; grind)
            refine e_aload_n dX6_burdenLine_78 rfl ?_
            refine e_getA kX6 (by first | assumption | exact ⟨by decide, rfl⟩) (by decide) fX6_13 rfl dX6_burdenLine_79 ?_
            refine e_iload_n dX6_burdenLine_82 rfl ?_
            refine e_aload_n dX6_burdenLine_83 rfl ?_
            skip
            refine e_getI kX6 (by first | assumption | exact ⟨by decide, rfl⟩) (by decide) fX6_118 rfl dX6_burdenLine_84 ?_
            rw [r36]
            refine e_iast (ci := 6) (by first | assumption | exact ⟨by decide, rfl⟩) rfl (vin 12 (by decide) bx) dX6_burdenLine_87 ?_
            rw [ec]
            refine e_aload_n dX6_burdenLine_88 rfl ?_
            refine e_bipush (v := 7) dX6_burdenLine_89 (by decide) ?_
            refine e_V1 oX6_word lX6_121 ⟨Nat.le_of_ble_eq_true rfl, Nat.le_of_ble_eq_true rfl⟩ dX6_burdenLine_91 (by first | assumption | exact ⟨by decide, rfl⟩) (Nat.le_of_ble_eq_true rfl) W7' ?_
            refine e_if_eqB (tgt := 106) dX6_burdenLine_94 (by decide) (fun h94 => ?_) (fun h94 => ?_)
            rotate_left
            · exfalso
              first | contradiction | (clear T1 T2 W6 N1 W7' N2'; grind)
            refine e_iconst (v := 0) dX6_burdenLine_106 (by decide) ?_
            exact e_ret0 rfl dX6_burdenLine_107 (by first | exact Iff.rfl | exact (show ¬ (0 : Int32) = 1 by decide) | rfl) rfl
        · rw [if_neg q4] at N1 ⊢
          refine e_aload_n dX6_burdenLine_0 rfl ?_
          refine e_V0v oX6_take lX6_115 ⟨Nat.le_of_ble_eq_true rfl, Nat.le_of_ble_eq_true rfl⟩ dX6_burdenLine_1 (by first | assumption | exact ⟨by decide, rfl⟩) (Nat.le_of_ble_eq_true rfl) T1 ?_
          refine e_aload_n dX6_burdenLine_4 rfl ?_
          refine e_getI kX6 (by first | assumption | exact ⟨by decide, rfl⟩) (by decide) fX6_93 rfl dX6_burdenLine_5 ?_
          rw [g33]
          refine e_iconst (v := 2) dX6_burdenLine_8 (by decide) ?_
          refine e_icmp_eq (tgt := 22) dX6_burdenLine_9 (by decide) (fun h9 => ?_) (fun h9 => ?_)
          rotate_left
          · exfalso
            first | contradiction | (clear T1 T2 W6 N1 W7' N2'; grind)
          refine e_bipush (v := 6) dX6_burdenLine_22 (by decide) ?_
          refine e_aload_n dX6_burdenLine_24 rfl ?_
          refine e_getI kX6 (by first | assumption | exact ⟨by decide, rfl⟩) (by decide) fX6_104 rfl dX6_burdenLine_25 ?_
          rw [g34]
          refine e_iadd dX6_burdenLine_28 ?_
          refine e_bipush (v := 65) dX6_burdenLine_29 (by decide) ?_
          refine e_isub dX6_burdenLine_31 ?_
          rw [hbe]
          refine e_istore_n dX6_burdenLine_32 (by decide) (Nat.le_of_ble_eq_true rfl) ?_
          refine e_aload_n dX6_burdenLine_33 rfl ?_
          refine e_getA kX6 (by first | assumption | exact ⟨by decide, rfl⟩) (by decide) fX6_16 rfl dX6_burdenLine_34 ?_
          refine e_iload_n dX6_burdenLine_37 rfl ?_
          refine e_iald (ci := 6) (by first | assumption | exact ⟨by decide, rfl⟩) rfl (vin 12 (by decide) bx) dX6_burdenLine_38 ?_
          rw [gsh]
          refine e_if_le (tgt := 52) dX6_burdenLine_39 (by decide) (fun h39 => ?_) (fun h39 => ?_)
          rotate_left
          · exfalso
            first | contradiction | (clear T1 T2 W6 N1 W7' N2'; grind)
          refine e_aload_n dX6_burdenLine_52 rfl ?_
          refine e_V0v oX6_take lX6_115 ⟨Nat.le_of_ble_eq_true rfl, Nat.le_of_ble_eq_true rfl⟩ dX6_burdenLine_53 (by first | assumption | exact ⟨by decide, rfl⟩) (Nat.le_of_ble_eq_true rfl) T2 ?_
          refine e_aload_n dX6_burdenLine_56 rfl ?_
          refine e_bipush (v := 6) dX6_burdenLine_57 (by decide) ?_
          refine e_V1 oX6_word lX6_121 ⟨Nat.le_of_ble_eq_true rfl, Nat.le_of_ble_eq_true rfl⟩ dX6_burdenLine_59 (by first | assumption | exact ⟨by decide, rfl⟩) (Nat.le_of_ble_eq_true rfl) W6 ?_
          refine e_if_eqB (tgt := 76) dX6_burdenLine_62 (by decide) (fun h62 => ?_) (fun h62 => ?_)
          · exfalso
            first | contradiction | (clear T1 T2 W6 N1 W7' N2'; grind)
          refine e_aload_n dX6_burdenLine_65 rfl ?_
          refine e_iconst (v := 1) dX6_burdenLine_66 (by decide) ?_
          refine e_sipush (v := 10000) dX6_burdenLine_67 (by decide) ?_
          refine e_V2 oX6_number lX6_124 ⟨Nat.le_of_ble_eq_true rfl, Nat.le_of_ble_eq_true rfl⟩ dX6_burdenLine_70 (by first | assumption | exact ⟨by decide, rfl⟩) (Nat.le_of_ble_eq_true rfl) N1 ?_
          refine e_if_neB (tgt := 78) dX6_burdenLine_73 (by decide) (fun h73 => ?_) (fun h73 => ?_)
          · exfalso
            first | contradiction | (clear T1 T2 W6 N1 W7' N2'; grind)
          refine e_iconst (v := 0) dX6_burdenLine_76 (by decide) ?_
          exact e_ret0 rfl dX6_burdenLine_77 (by first | exact Iff.rfl | exact (show ¬ (0 : Int32) = 1 by decide) | rfl) rfl
      · rw [if_neg q3] at W6 ⊢
        refine e_aload_n dX6_burdenLine_0 rfl ?_
        refine e_V0v oX6_take lX6_115 ⟨Nat.le_of_ble_eq_true rfl, Nat.le_of_ble_eq_true rfl⟩ dX6_burdenLine_1 (by first | assumption | exact ⟨by decide, rfl⟩) (Nat.le_of_ble_eq_true rfl) T1 ?_
        refine e_aload_n dX6_burdenLine_4 rfl ?_
        refine e_getI kX6 (by first | assumption | exact ⟨by decide, rfl⟩) (by decide) fX6_93 rfl dX6_burdenLine_5 ?_
        rw [g33]
        refine e_iconst (v := 2) dX6_burdenLine_8 (by decide) ?_
        refine e_icmp_eq (tgt := 22) dX6_burdenLine_9 (by decide) (fun h9 => ?_) (fun h9 => ?_)
        rotate_left
        · exfalso
          first | contradiction | (clear T1 T2 W6 N1 W7' N2'; grind)
        refine e_bipush (v := 6) dX6_burdenLine_22 (by decide) ?_
        refine e_aload_n dX6_burdenLine_24 rfl ?_
        refine e_getI kX6 (by first | assumption | exact ⟨by decide, rfl⟩) (by decide) fX6_104 rfl dX6_burdenLine_25 ?_
        rw [g34]
        refine e_iadd dX6_burdenLine_28 ?_
        refine e_bipush (v := 65) dX6_burdenLine_29 (by decide) ?_
        refine e_isub dX6_burdenLine_31 ?_
        rw [hbe]
        refine e_istore_n dX6_burdenLine_32 (by decide) (Nat.le_of_ble_eq_true rfl) ?_
        refine e_aload_n dX6_burdenLine_33 rfl ?_
        refine e_getA kX6 (by first | assumption | exact ⟨by decide, rfl⟩) (by decide) fX6_16 rfl dX6_burdenLine_34 ?_
        refine e_iload_n dX6_burdenLine_37 rfl ?_
        refine e_iald (ci := 6) (by first | assumption | exact ⟨by decide, rfl⟩) rfl (vin 12 (by decide) bx) dX6_burdenLine_38 ?_
        rw [gsh]
        refine e_if_le (tgt := 52) dX6_burdenLine_39 (by decide) (fun h39 => ?_) (fun h39 => ?_)
        rotate_left
        · exfalso
          first | contradiction | (clear T1 T2 W6 N1 W7' N2'; grind)
        refine e_aload_n dX6_burdenLine_52 rfl ?_
        refine e_V0v oX6_take lX6_115 ⟨Nat.le_of_ble_eq_true rfl, Nat.le_of_ble_eq_true rfl⟩ dX6_burdenLine_53 (by first | assumption | exact ⟨by decide, rfl⟩) (Nat.le_of_ble_eq_true rfl) T2 ?_
        refine e_aload_n dX6_burdenLine_56 rfl ?_
        refine e_bipush (v := 6) dX6_burdenLine_57 (by decide) ?_
        refine e_V1 oX6_word lX6_121 ⟨Nat.le_of_ble_eq_true rfl, Nat.le_of_ble_eq_true rfl⟩ dX6_burdenLine_59 (by first | assumption | exact ⟨by decide, rfl⟩) (Nat.le_of_ble_eq_true rfl) W6 ?_
        refine e_if_eqB (tgt := 76) dX6_burdenLine_62 (by decide) (fun h62 => ?_) (fun h62 => ?_)
        rotate_left
        · exfalso
          first | contradiction | (clear T1 T2 W6 N1 W7' N2'; grind)
        refine e_iconst (v := 0) dX6_burdenLine_76 (by decide) ?_
        exact e_ret0 rfl dX6_burdenLine_77 (by first | exact Iff.rfl | exact (show ¬ (0 : Int32) = 1 by decide) | rfl) rfl
  · rw [if_neg q1]
    refine e_aload_n dX6_burdenLine_0 rfl ?_
    refine e_V0v oX6_take lX6_115 ⟨Nat.le_of_ble_eq_true rfl, Nat.le_of_ble_eq_true rfl⟩ dX6_burdenLine_1 (by first | assumption | exact ⟨by decide, rfl⟩) (Nat.le_of_ble_eq_true rfl) T1 ?_
    refine e_aload_n dX6_burdenLine_4 rfl ?_
    refine e_getI kX6 (by first | assumption | exact ⟨by decide, rfl⟩) (by decide) fX6_93 rfl dX6_burdenLine_5 ?_
    rw [g33]
    refine e_iconst (v := 2) dX6_burdenLine_8 (by decide) ?_
    refine e_icmp_eq (tgt := 22) dX6_burdenLine_9 (by decide) (fun h9 => ?_) (fun h9 => ?_)
    · exfalso
      first | contradiction | (clear T1 T2 W6 N1 W7' N2'; grind)
    refine e_aload_n dX6_burdenLine_12 rfl ?_
    refine e_iconst (v := 1) dX6_burdenLine_13 (by decide) ?_
    refine e_aload_n dX6_burdenLine_14 rfl ?_
    refine e_getI kX6 (by first | assumption | exact ⟨by decide, rfl⟩) (by decide) fX6_90 rfl dX6_burdenLine_15 ?_
    rw [g35]
    refine e_V2 oX6_wrong lX6_111 ⟨Nat.le_of_ble_eq_true rfl, Nat.le_of_ble_eq_true rfl⟩ dX6_burdenLine_18 (by first | assumption | exact ⟨by decide, rfl⟩) (Nat.le_of_ble_eq_true rfl) (c_X6_wrong) ?_
    exact e_ireB rfl dX6_burdenLine_21 rfl (by first | exact Iff.rfl | exact (show ¬ (0 : Int32) = 1 by decide) | rfl) wg_wt
