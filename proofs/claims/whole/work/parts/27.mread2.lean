-- the reference's reader: tokens
def nmF (T : Nat → Int32) : Nat → Nat → Int32 → Int32
  | 0, _, v => v
  | c + 1, j, v => if dgB (T j) = true then nmF T c (j + 1) (if 999999 < v then v else 10 * v + T j - 48) else v
abbrev nmN (T : Nat → Int32) (N p : Nat) : Int32 := nmF T (N - p) p 0
abbrev chK (x : Int32) : Int32 := if 65 ≤ x ∧ x ≤ 70 then 2 else if x = 59 then 4 else 5
/-- the token from next on -/
def tkF (T : Nat → Int32) (N : Nat) (m : rM4) : rM4 :=
  if skN T N m.1 < N then
    (if smB (T (skN T N m.1)) = true then (smN T N (skN T N m.1), nI (skN T N m.1), (if waF T (skN T N m.1) (smN T N (skN T N m.1)) 7 0 < 0 then 5 else 1), waF T (skN T N m.1) (smN T N (skN T N m.1)) 7 0)
     else if dgB (T (skN T N m.1)) = true then (dgN T N (skN T N m.1), nI (skN T N m.1), 3, nmN T N (skN T N m.1))
     else (skN T N m.1 + 1, nI (skN T N m.1), chK (T (skN T N m.1)), T (skN T N m.1)))
  else (skN T N m.1, nI (skN T N m.1), 0, m.2.2.2)
theorem isS_wt {σ : rS} {N j : Nat} {m : rM4} (hN : σ 8 31 0 = nI N) (hN2 : N ≤ 600) (hj : j ≤ N) : Ct mX6_isSmall [.inr (8, 0), .inl (nI j)] (wt σ m) (some (.inl (bI (j < N ∧ smB (ty σ j) = true)))) (wt σ m) := by
  have h := c_X6_isSmall (σ := wt σ m) (N := N) (j := j) ((wt_fr (by decide)).trans hN) hN2 hj
  rw [wt_ty] at h
  exact h
theorem isD_wt {σ : rS} {N j : Nat} {m : rM4} (hN : σ 8 31 0 = nI N) (hN2 : N ≤ 600) (hj : j ≤ N) : Ct mX6_isDigit [.inr (8, 0), .inl (nI j)] (wt σ m) (some (.inl (bI (j < N ∧ dgB (ty σ j) = true)))) (wt σ m) := by
  have h := c_X6_isDigit (σ := wt σ m) (N := N) (j := j) ((wt_fr (by decide)).trans hN) hN2 hj
  rw [wt_ty] at h
  exact h
theorem wa_wt {σ : rS} {i e : Nat} {m : rM4} (hw : wdOk σ) (hie : i ≤ e) (he : e ≤ 600) : Ct mX6_wordAt [.inr (8, 0), .inl (nI i), .inl (nI e)] (wt σ m) (some (.inl (waF (ty σ) i e 7 0))) (wt σ m) := by
  have h := c_X6_wordAt (σ := wt σ m) (i := i) (e := e) (fun k hk => (wt_fr (by decide)).trans (hw k hk)) hie he
  rw [wt_ty] at h
  exact h
/-- take: a word -/
theorem tk_word {σ : rS} {N p : Nat} {kd wh : Int32} (hw : wdOk σ) (hN : σ 8 31 0 = nI N) (hN2 : N ≤ 600) (hp : p ≤ N) : ∀ c j, p ≤ j → j + c = N → smN (ty σ) N p = spF smB (ty σ) c j → E mX6_take 90 [.inr (8, 0)] [] (wt σ (j, nI p, kd, wh)) none (wt σ (smN (ty σ) N p, nI p, (if waF (ty σ) p (smN (ty σ) N p) 7 0 < 0 then 5 else 1), waF (ty σ) p (smN (ty σ) N p) 7 0)) := by
  have hsm := sm_le (T := ty σ) hp
  have exitW : ∀ j, smN (ty σ) N p = j → E mX6_take 114 [.inr (8, 0)] [] (wt σ (j, nI p, kd, wh)) none (wt σ (smN (ty σ) N p, nI p, (if waF (ty σ) p (smN (ty σ) N p) 7 0 < 0 then 5 else 1), waF (ty σ) p (smN (ty σ) N p) 7 0)) := by
    intro j hj
    subst hj
    have g35 : wt σ (smN (ty σ) N p, nI p, kd, wh) 8 35 0 = nI p := wt_35
    have g32 : wt σ (smN (ty σ) N p, nI p, kd, wh) 8 32 0 = nI (smN (ty σ) N p) := wt_32
    have hwa := wa_wt (m := (smN (ty σ) N p, nI p, kd, wh)) hw hsm.1 (Nat.le_trans hsm.2 hN2)
    generalize waF (ty σ) p (smN (ty σ) N p) 7 0 = W at hwa ⊢
    have g34 : wt σ (smN (ty σ) N p, nI p, kd, W) 8 34 0 = W := wt_34
    clear hw
    refine e_aload_n dX6_take_114 rfl ?_
    refine e_aload_n dX6_take_115 rfl ?_
    refine e_aload_n dX6_take_116 rfl ?_
    refine e_getI kX6 (by first | assumption | exact ⟨by decide, rfl⟩) (by decide) fX6_90 rfl dX6_take_117 ?_
    rw [g35]
    refine e_aload_n dX6_take_120 rfl ?_
    refine e_getI kX6 (by first | assumption | exact ⟨by decide, rfl⟩) (by decide) fX6_87 rfl dX6_take_121 ?_
    rw [g32]
    refine e_V2 oX6_wordAt lX6_100 ⟨Nat.le_of_ble_eq_true rfl, Nat.le_of_ble_eq_true rfl⟩ dX6_take_124 (by first | assumption | exact ⟨by decide, rfl⟩) (Nat.le_of_ble_eq_true rfl) hwa ?_
    refine e_putI kX6 (by first | assumption | exact ⟨by decide, rfl⟩) (by decide) fX6_104 rfl rfl rfl dX6_take_127 ?_
    rw [wt_u34]
    refine e_aload_n dX6_take_130 rfl ?_
    refine e_aload_n dX6_take_131 rfl ?_
    refine e_getI kX6 (by first | assumption | exact ⟨by decide, rfl⟩) (by decide) fX6_104 rfl dX6_take_132 ?_
    rw [g34]
    refine e_if_ge (tgt := 142) dX6_take_135 (by decide) (fun h135 => ?_) (fun h135 => ?_)
    ·
      refine e_iconst (v := 1) dX6_take_142 (by decide) ?_
      refine e_putI kX6 (by first | assumption | exact ⟨by decide, rfl⟩) (by decide) fX6_93 rfl rfl rfl dX6_take_143 ?_
      rw [wt_u33]
      refine e_goto (tgt := 297) dX6_take_146 (by decide) ?_
      exact e_vreq rfl dX6_take_297 (by first | (rw [if_pos (by grind)]; done) | (rw [if_neg (by grind)]; done))
    ·
      refine e_iconst (v := 5) dX6_take_138 (by decide) ?_
      refine e_goto (tgt := 143) dX6_take_139 (by decide) ?_
      refine e_putI kX6 (by first | assumption | exact ⟨by decide, rfl⟩) (by decide) fX6_93 rfl rfl rfl dX6_take_143 ?_
      rw [wt_u33]
      refine e_goto (tgt := 297) dX6_take_146 (by decide) ?_
      exact e_vreq rfl dX6_take_297 (by first | (rw [if_pos (by grind)]; done) | (rw [if_neg (by grind)]; done))
  clear hw
  intro c
  induction c with
  | zero =>
    intro j hpj hj he
    have g32 : wt σ (j, nI p, kd, wh) 8 32 0 = nI j := wt_32
    have his := isS_wt (m := (j, nI p, kd, wh)) hN hN2 (show j ≤ N by omega)
    have ex := exitW j he
    clear exitW
    refine e_aload_n dX6_take_90 rfl ?_
    refine e_aload_n dX6_take_91 rfl ?_
    refine e_getI kX6 (by first | assumption | exact ⟨by decide, rfl⟩) (by decide) fX6_87 rfl dX6_take_92 ?_
    rw [g32]
    refine e_V1 oX6_isSmall lX6_96 ⟨Nat.le_of_ble_eq_true rfl, Nat.le_of_ble_eq_true rfl⟩ dX6_take_95 (by first | assumption | exact ⟨by decide, rfl⟩) (Nat.le_of_ble_eq_true rfl) his ?_
    refine e_if_eqB (tgt := 114) dX6_take_98 (by decide) (fun h98 => ?_) (fun h98 => ?_)
    rotate_left
    · exfalso
      omega
    exact ex
  | succ c ih =>
    intro j hpj hj he
    have g32 : wt σ (j, nI p, kd, wh) 8 32 0 = nI j := wt_32
    have his := isS_wt (m := (j, nI p, kd, wh)) hN hN2 (show j ≤ N by omega)
    rw [spF] at he
    have i1 : (j < N ∧ smB (ty σ j) = true) → _ := fun h => ih (j + 1) (by omega) (by omega) (by rw [if_pos h.2] at he; exact he)
    have i2 : ¬ (j < N ∧ smB (ty σ j) = true) → _ := fun h => exitW j (by rw [if_neg (fun z => h ⟨by omega, z⟩)] at he; exact he)
    clear exitW ih he
    refine e_aload_n dX6_take_90 rfl ?_
    refine e_aload_n dX6_take_91 rfl ?_
    refine e_getI kX6 (by first | assumption | exact ⟨by decide, rfl⟩) (by decide) fX6_87 rfl dX6_take_92 ?_
    rw [g32]
    refine e_V1 oX6_isSmall lX6_96 ⟨Nat.le_of_ble_eq_true rfl, Nat.le_of_ble_eq_true rfl⟩ dX6_take_95 (by first | assumption | exact ⟨by decide, rfl⟩) (Nat.le_of_ble_eq_true rfl) his ?_
    refine e_if_eqB (tgt := 114) dX6_take_98 (by decide) (fun h98 => ?_) (fun h98 => ?_)
    ·
      exact i2 (by assumption)
    ·
      refine e_aload_n dX6_take_101 rfl ?_
      refine e_dup dX6_take_102 ?_
      refine e_getI kX6 (by first | assumption | exact ⟨by decide, rfl⟩) (by decide) fX6_87 rfl dX6_take_103 ?_
      rw [g32]
      refine e_iconst (v := 1) dX6_take_106 (by decide) ?_
      refine e_iadd dX6_take_107 ?_
      rw [← nI_succ]
      refine e_putI kX6 (by first | assumption | exact ⟨by decide, rfl⟩) (by decide) fX6_87 rfl rfl rfl dX6_take_108 ?_
      rw [wt_u32]
      refine e_goto (tgt := 90) dX6_take_111 (by decide) ?_
      exact i1 (by assumption)
/-- take: a number -/
theorem tk_num {σ : rS} {N p : Nat} (hN : σ 8 31 0 = nI N) (hN2 : N ≤ 600) : ∀ c j v, j + c = N → E mX6_take 170 [.inr (8, 0)] [] (wt σ (j, nI p, 3, v)) none (wt σ (spF dgB (ty σ) c j, nI p, 3, nmF (ty σ) c j v)) := by
  intro c
  induction c with
  | zero =>
    intro j v hj
    have g32 : wt σ (j, nI p, 3, v) 8 32 0 = nI j := wt_32
    have his := isD_wt (m := (j, nI p, 3, v)) hN hN2 (show j ≤ N by omega)
    refine e_aload_n dX6_take_170 rfl ?_
    refine e_aload_n dX6_take_171 rfl ?_
    refine e_getI kX6 (by first | assumption | exact ⟨by decide, rfl⟩) (by decide) fX6_87 rfl dX6_take_172 ?_
    rw [g32]
    refine e_V1 oX6_isDigit lX6_107 ⟨Nat.le_of_ble_eq_true rfl, Nat.le_of_ble_eq_true rfl⟩ dX6_take_175 (by first | assumption | exact ⟨by decide, rfl⟩) (Nat.le_of_ble_eq_true rfl) his ?_
    refine e_if_eqB (tgt := 297) dX6_take_178 (by decide) (fun h178 => ?_) (fun h178 => ?_)
    rotate_left
    · exfalso
      omega
    exact e_vreq rfl dX6_take_297 rfl
  | succ c ih =>
    intro j v hj
    have g32 : wt σ (j, nI p, 3, v) 8 32 0 = nI j := wt_32
    have g34 : wt σ (j, nI p, 3, v) 8 34 0 = v := wt_34
    have g0 : wt σ (j, nI p, 3, v) 8 0 (nI j) = ty σ j := wt_fr (by decide)
    have his := isD_wt (m := (j, nI p, 3, v)) hN hN2 (show j ≤ N by omega)
    have b6 : 0 ≤ nI j ∧ nI j < 600 := ⟨nI_pos' (by omega), nI_lt (b := 600) (by omega) (by decide)⟩
    rw [spF, nmF]
    by_cases hd : dgB (ty σ j) = true
    · rw [if_pos hd, if_pos hd]
      have ihx := fun v2 => ih (j + 1) v2 (by omega)
      have nx : ∀ v2, E mX6_take 221 [.inr (8, 0)] [] (wt σ (j, nI p, 3, v2)) none (wt σ (spF dgB (ty σ) c (j + 1), nI p, 3, nmF (ty σ) c (j + 1) v2)) := by
        intro v2
        have g32' : wt σ (j, nI p, 3, v2) 8 32 0 = nI j := wt_32
        have i1 := ihx v2
        clear ihx ih
        refine e_aload_n dX6_take_221 rfl ?_
        refine e_dup dX6_take_222 ?_
        refine e_getI kX6 (by first | assumption | exact ⟨by decide, rfl⟩) (by decide) fX6_87 rfl dX6_take_223 ?_
        rw [g32']
        refine e_iconst (v := 1) dX6_take_226 (by decide) ?_
        refine e_iadd dX6_take_227 ?_
        rw [← nI_succ]
        refine e_putI kX6 (by first | assumption | exact ⟨by decide, rfl⟩) (by decide) fX6_87 rfl rfl rfl dX6_take_228 ?_
        rw [wt_u32]
        refine e_goto (tgt := 170) dX6_take_231 (by decide) ?_
        exact i1
      have n1 := nx (if 999999 < v then v else 10 * v + ty σ j - 48)
      have hjN : j < N := by omega
      clear ih ihx nx
      by_cases hv : 999999 < v
      · rw [if_pos hv] at n1 ⊢
        refine e_aload_n dX6_take_170 rfl ?_
        refine e_aload_n dX6_take_171 rfl ?_
        refine e_getI kX6 (by first | assumption | exact ⟨by decide, rfl⟩) (by decide) fX6_87 rfl dX6_take_172 ?_
        rw [g32]
        refine e_V1 oX6_isDigit lX6_107 ⟨Nat.le_of_ble_eq_true rfl, Nat.le_of_ble_eq_true rfl⟩ dX6_take_175 (by first | assumption | exact ⟨by decide, rfl⟩) (Nat.le_of_ble_eq_true rfl) his ?_
        refine e_if_eqB (tgt := 297) dX6_take_178 (by decide) (fun h178 => ?_) (fun h178 => ?_)
        · exfalso
          grind
        refine e_aload_n dX6_take_181 rfl ?_
        refine e_aload_n dX6_take_182 rfl ?_
        refine e_getI kX6 (by first | assumption | exact ⟨by decide, rfl⟩) (by decide) fX6_104 rfl dX6_take_183 ?_
        rw [g34]
        refine e_ldc dX6_take_186 kX6_110 ?_
        refine e_icmp_le (tgt := 198) dX6_take_188 (by decide) (fun h188 => ?_) (fun h188 => ?_)
        · exfalso
          grind
        refine e_aload_n dX6_take_191 rfl ?_
        refine e_getI kX6 (by first | assumption | exact ⟨by decide, rfl⟩) (by decide) fX6_104 rfl dX6_take_192 ?_
        rw [g34]
        refine e_goto (tgt := 218) dX6_take_195 (by decide) ?_
        refine e_putI kX6 (by first | assumption | exact ⟨by decide, rfl⟩) (by decide) fX6_104 rfl rfl rfl dX6_take_218 ?_
        rw [wt_u34]
        exact n1
      · rw [if_neg hv] at n1 ⊢
        refine e_aload_n dX6_take_170 rfl ?_
        refine e_aload_n dX6_take_171 rfl ?_
        refine e_getI kX6 (by first | assumption | exact ⟨by decide, rfl⟩) (by decide) fX6_87 rfl dX6_take_172 ?_
        rw [g32]
        refine e_V1 oX6_isDigit lX6_107 ⟨Nat.le_of_ble_eq_true rfl, Nat.le_of_ble_eq_true rfl⟩ dX6_take_175 (by first | assumption | exact ⟨by decide, rfl⟩) (Nat.le_of_ble_eq_true rfl) his ?_
        refine e_if_eqB (tgt := 297) dX6_take_178 (by decide) (fun h178 => ?_) (fun h178 => ?_)
        · exfalso
          grind
        refine e_aload_n dX6_take_181 rfl ?_
        refine e_aload_n dX6_take_182 rfl ?_
        refine e_getI kX6 (by first | assumption | exact ⟨by decide, rfl⟩) (by decide) fX6_104 rfl dX6_take_183 ?_
        rw [g34]
        refine e_ldc dX6_take_186 kX6_110 ?_
        refine e_icmp_le (tgt := 198) dX6_take_188 (by decide) (fun h188 => ?_) (fun h188 => ?_)
        rotate_left
        · exfalso
          grind
        refine e_bipush (v := 10) dX6_take_198 (by decide) ?_
        refine e_aload_n dX6_take_200 rfl ?_
        refine e_getI kX6 (by first | assumption | exact ⟨by decide, rfl⟩) (by decide) fX6_104 rfl dX6_take_201 ?_
        rw [g34]
        refine e_imul dX6_take_204 ?_
        refine e_aload_n dX6_take_205 rfl ?_
        refine e_getA kX6 (by first | assumption | exact ⟨by decide, rfl⟩) (by decide) fX6_7 rfl dX6_take_206 ?_
        refine e_aload_n dX6_take_209 rfl ?_
        refine e_getI kX6 (by first | assumption | exact ⟨by decide, rfl⟩) (by decide) fX6_87 rfl dX6_take_210 ?_
        rw [g32]
        refine e_iald (ci := 6) (by first | assumption | exact ⟨by decide, rfl⟩) rfl (vin 600 (by decide) b6) dX6_take_213 ?_
        rw [g0]
        refine e_iadd dX6_take_214 ?_
        refine e_bipush (v := 48) dX6_take_215 (by decide) ?_
        refine e_isub dX6_take_217 ?_
        refine e_putI kX6 (by first | assumption | exact ⟨by decide, rfl⟩) (by decide) fX6_104 rfl rfl rfl dX6_take_218 ?_
        rw [wt_u34]
        exact n1
    · rw [if_neg hd, if_neg hd]
      clear ih
      refine e_aload_n dX6_take_170 rfl ?_
      refine e_aload_n dX6_take_171 rfl ?_
      refine e_getI kX6 (by first | assumption | exact ⟨by decide, rfl⟩) (by decide) fX6_87 rfl dX6_take_172 ?_
      rw [g32]
      refine e_V1 oX6_isDigit lX6_107 ⟨Nat.le_of_ble_eq_true rfl, Nat.le_of_ble_eq_true rfl⟩ dX6_take_175 (by first | assumption | exact ⟨by decide, rfl⟩) (Nat.le_of_ble_eq_true rfl) his ?_
      refine e_if_eqB (tgt := 297) dX6_take_178 (by decide) (fun h178 => ?_) (fun h178 => ?_)
      rotate_left
      · exfalso
        grind
      exact e_vreq rfl dX6_take_297 rfl
