-- the reference's reader: take
theorem tk_after {σ : rS} {N p : Nat} {pl kd wh : Int32} (hw : wdOk σ) (hN : σ 8 31 0 = nI N) (hN2 : N ≤ 600) (hp : p ≤ N) : E mX6_take 52 [.inr (8, 0)] [] (wt σ (p, pl, kd, wh)) none (wt σ (if p < N then (if smB (ty σ p) = true then (smN (ty σ) N p, nI p, (if waF (ty σ) p (smN (ty σ) N p) 7 0 < 0 then 5 else 1), waF (ty σ) p (smN (ty σ) N p) 7 0) else if dgB (ty σ p) = true then (dgN (ty σ) N p, nI p, 3, nmN (ty σ) N p) else (p + 1, nI p, chK (ty σ p), ty σ p)) else (p, nI p, 0, wh))) := by
  have k32 : wt σ (p, pl, kd, wh) 8 32 0 = nI p := wt_32
  have k32b : wt σ (p, nI p, kd, wh) 8 32 0 = nI p := wt_32
  have k31b : wt σ (p, nI p, kd, wh) 8 31 0 = nI N := (wt_fr (by decide)).trans hN
  have b6 : p < N → 0 ≤ nI p ∧ nI p < 600 := fun h => ⟨nI_pos' (by omega), nI_lt (b := 600) (by omega) (by decide)⟩
  have isS := isS_wt (m := (p, nI p, kd, wh)) hN hN2 hp
  have isD := isD_wt (m := (p, nI p, kd, wh)) hN hN2 hp
  have isS2 := isS_wt (m := (p, nI p, kd, wh)) hN hN2 hp
  have wordR := tk_word (kd := kd) (wh := wh) hw hN hN2 hp (N - p) p (Nat.le_refl _) (by omega) rfl
  have numR := tk_num (p := p) hN hN2 (N - p) p 0 (by omega)
  have heq : nI p = nI N ↔ p = N := nI_eq (by omega) (by omega)
  clear hw
  by_cases hpN : p < N
  · rw [if_pos hpN]
    have b7 := b6 hpN
    have hne : ¬ nI p = nI N := fun z => by have := heq.mp z; omega
    clear heq b6
    by_cases hs : smB (ty σ p) = true
    · rw [if_pos hs]
      refine e_aload_n dX6_take_52 rfl ?_
      refine e_aload_n dX6_take_53 rfl ?_
      refine e_getI kX6 (by first | assumption | exact ⟨by decide, rfl⟩) (by decide) fX6_87 rfl dX6_take_54 ?_
      rw [k32]
      refine e_putI kX6 (by first | assumption | exact ⟨by decide, rfl⟩) (by decide) fX6_90 rfl rfl rfl dX6_take_57 ?_
      rw [wt_u35]
      refine e_aload_n dX6_take_60 rfl ?_
      refine e_getI kX6 (by first | assumption | exact ⟨by decide, rfl⟩) (by decide) fX6_87 rfl dX6_take_61 ?_
      rw [k32b]
      refine e_aload_n dX6_take_64 rfl ?_
      refine e_getI kX6 (by first | assumption | exact ⟨by decide, rfl⟩) (by decide) fX6_84 rfl dX6_take_65 ?_
      rw [k31b]
      refine e_icmp_ne (tgt := 79) dX6_take_68 (by decide) (fun h68 => ?_) (fun h68 => ?_)
      rotate_left
      · exfalso
        grind
      refine e_aload_n dX6_take_79 rfl ?_
      refine e_aload_n dX6_take_80 rfl ?_
      refine e_getI kX6 (by first | assumption | exact ⟨by decide, rfl⟩) (by decide) fX6_87 rfl dX6_take_81 ?_
      rw [k32b]
      refine e_V1 oX6_isSmall lX6_96 ⟨Nat.le_of_ble_eq_true rfl, Nat.le_of_ble_eq_true rfl⟩ dX6_take_84 (by first | assumption | exact ⟨by decide, rfl⟩) (Nat.le_of_ble_eq_true rfl) isS ?_
      refine e_if_eqB (tgt := 149) dX6_take_87 (by decide) (fun h87 => ?_) (fun h87 => ?_)
      · exfalso
        grind
      exact wordR
    · rw [if_neg hs]
      by_cases hd : dgB (ty σ p) = true
      · rw [if_pos hd]
        refine e_aload_n dX6_take_52 rfl ?_
        refine e_aload_n dX6_take_53 rfl ?_
        refine e_getI kX6 (by first | assumption | exact ⟨by decide, rfl⟩) (by decide) fX6_87 rfl dX6_take_54 ?_
        rw [k32]
        refine e_putI kX6 (by first | assumption | exact ⟨by decide, rfl⟩) (by decide) fX6_90 rfl rfl rfl dX6_take_57 ?_
        rw [wt_u35]
        refine e_aload_n dX6_take_60 rfl ?_
        refine e_getI kX6 (by first | assumption | exact ⟨by decide, rfl⟩) (by decide) fX6_87 rfl dX6_take_61 ?_
        rw [k32b]
        refine e_aload_n dX6_take_64 rfl ?_
        refine e_getI kX6 (by first | assumption | exact ⟨by decide, rfl⟩) (by decide) fX6_84 rfl dX6_take_65 ?_
        rw [k31b]
        refine e_icmp_ne (tgt := 79) dX6_take_68 (by decide) (fun h68 => ?_) (fun h68 => ?_)
        rotate_left
        · exfalso
          grind
        refine e_aload_n dX6_take_79 rfl ?_
        refine e_aload_n dX6_take_80 rfl ?_
        refine e_getI kX6 (by first | assumption | exact ⟨by decide, rfl⟩) (by decide) fX6_87 rfl dX6_take_81 ?_
        rw [k32b]
        refine e_V1 oX6_isSmall lX6_96 ⟨Nat.le_of_ble_eq_true rfl, Nat.le_of_ble_eq_true rfl⟩ dX6_take_84 (by first | assumption | exact ⟨by decide, rfl⟩) (Nat.le_of_ble_eq_true rfl) isS ?_
        refine e_if_eqB (tgt := 149) dX6_take_87 (by decide) (fun h87 => ?_) (fun h87 => ?_)
        rotate_left
        · exfalso
          grind
        refine e_aload_n dX6_take_149 rfl ?_
        refine e_aload_n dX6_take_150 rfl ?_
        refine e_getI kX6 (by first | assumption | exact ⟨by decide, rfl⟩) (by decide) fX6_87 rfl dX6_take_151 ?_
        rw [k32b]
        refine e_V1 oX6_isDigit lX6_107 ⟨Nat.le_of_ble_eq_true rfl, Nat.le_of_ble_eq_true rfl⟩ dX6_take_154 (by first | assumption | exact ⟨by decide, rfl⟩) (Nat.le_of_ble_eq_true rfl) isD ?_
        refine e_if_eqB (tgt := 234) dX6_take_157 (by decide) (fun h157 => ?_) (fun h157 => ?_)
        · exfalso
          grind
        refine e_aload_n dX6_take_160 rfl ?_
        refine e_iconst (v := 3) dX6_take_161 (by decide) ?_
        refine e_putI kX6 (by first | assumption | exact ⟨by decide, rfl⟩) (by decide) fX6_93 rfl rfl rfl dX6_take_162 ?_
        rw [wt_u33]
        refine e_aload_n dX6_take_165 rfl ?_
        refine e_iconst (v := 0) dX6_take_166 (by decide) ?_
        refine e_putI kX6 (by first | assumption | exact ⟨by decide, rfl⟩) (by decide) fX6_104 rfl rfl rfl dX6_take_167 ?_
        rw [wt_u34]
        exact numR
      · rw [if_neg hd]
        have k0 : wt σ (p, nI p, kd, wh) 8 0 (nI p) = ty σ p := wt_fr (by decide)
        generalize ty σ p = x at k0 ⊢
        have k32c : wt σ (p, nI p, kd, x) 8 32 0 = nI p := wt_32
        have k34c : wt σ (p + 1, nI p, kd, x) 8 34 0 = x := wt_34
        clear wordR numR
        refine e_aload_n dX6_take_52 rfl ?_
        refine e_aload_n dX6_take_53 rfl ?_
        refine e_getI kX6 (by first | assumption | exact ⟨by decide, rfl⟩) (by decide) fX6_87 rfl dX6_take_54 ?_
        rw [k32]
        refine e_putI kX6 (by first | assumption | exact ⟨by decide, rfl⟩) (by decide) fX6_90 rfl rfl rfl dX6_take_57 ?_
        rw [wt_u35]
        refine e_aload_n dX6_take_60 rfl ?_
        refine e_getI kX6 (by first | assumption | exact ⟨by decide, rfl⟩) (by decide) fX6_87 rfl dX6_take_61 ?_
        rw [k32b]
        refine e_aload_n dX6_take_64 rfl ?_
        refine e_getI kX6 (by first | assumption | exact ⟨by decide, rfl⟩) (by decide) fX6_84 rfl dX6_take_65 ?_
        rw [k31b]
        refine e_icmp_ne (tgt := 79) dX6_take_68 (by decide) (fun h68 => ?_) (fun h68 => ?_)
        rotate_left
        · exfalso
          grind
        refine e_aload_n dX6_take_79 rfl ?_
        refine e_aload_n dX6_take_80 rfl ?_
        refine e_getI kX6 (by first | assumption | exact ⟨by decide, rfl⟩) (by decide) fX6_87 rfl dX6_take_81 ?_
        rw [k32b]
        refine e_V1 oX6_isSmall lX6_96 ⟨Nat.le_of_ble_eq_true rfl, Nat.le_of_ble_eq_true rfl⟩ dX6_take_84 (by first | assumption | exact ⟨by decide, rfl⟩) (Nat.le_of_ble_eq_true rfl) isS ?_
        refine e_if_eqB (tgt := 149) dX6_take_87 (by decide) (fun h87 => ?_) (fun h87 => ?_)
        rotate_left
        · exfalso
          grind
        refine e_aload_n dX6_take_149 rfl ?_
        refine e_aload_n dX6_take_150 rfl ?_
        refine e_getI kX6 (by first | assumption | exact ⟨by decide, rfl⟩) (by decide) fX6_87 rfl dX6_take_151 ?_
        rw [k32b]
        refine e_V1 oX6_isDigit lX6_107 ⟨Nat.le_of_ble_eq_true rfl, Nat.le_of_ble_eq_true rfl⟩ dX6_take_154 (by first | assumption | exact ⟨by decide, rfl⟩) (Nat.le_of_ble_eq_true rfl) isD ?_
        refine e_if_eqB (tgt := 234) dX6_take_157 (by decide) (fun h157 => ?_) (fun h157 => ?_)
        rotate_left
        · exfalso
          grind
        refine e_aload_n dX6_take_234 rfl ?_
        refine e_aload_n dX6_take_235 rfl ?_
        refine e_getA kX6 (by first | assumption | exact ⟨by decide, rfl⟩) (by decide) fX6_7 rfl dX6_take_236 ?_
        refine e_aload_n dX6_take_239 rfl ?_
        refine e_getI kX6 (by first | assumption | exact ⟨by decide, rfl⟩) (by decide) fX6_87 rfl dX6_take_240 ?_
        rw [k32b]
        refine e_iald (ci := 6) (by first | assumption | exact ⟨by decide, rfl⟩) rfl (vin 600 (by decide) b7) dX6_take_243 ?_
        rw [k0]
        refine e_putI kX6 (by first | assumption | exact ⟨by decide, rfl⟩) (by decide) fX6_104 rfl rfl rfl dX6_take_244 ?_
        rw [wt_u34]
        refine e_aload_n dX6_take_247 rfl ?_
        refine e_dup dX6_take_248 ?_
        refine e_getI kX6 (by first | assumption | exact ⟨by decide, rfl⟩) (by decide) fX6_87 rfl dX6_take_249 ?_
        rw [k32c]
        refine e_iconst (v := 1) dX6_take_252 (by decide) ?_
        refine e_iadd dX6_take_253 ?_
        rw [← nI_succ]
        refine e_putI kX6 (by first | assumption | exact ⟨by decide, rfl⟩) (by decide) fX6_87 rfl rfl rfl dX6_take_254 ?_
        rw [wt_u32]
        refine e_aload_n dX6_take_257 rfl ?_
        refine e_aload_n dX6_take_258 rfl ?_
        refine e_getI kX6 (by first | assumption | exact ⟨by decide, rfl⟩) (by decide) fX6_104 rfl dX6_take_259 ?_
        rw [k34c]
        refine e_bipush (v := 65) dX6_take_262 (by decide) ?_
        refine e_icmp_lt (tgt := 280) dX6_take_264 (by decide) (fun h264 => ?_) (fun h264 => ?_)
        ·
          refine e_aload_n dX6_take_280 rfl ?_
          refine e_getI kX6 (by first | assumption | exact ⟨by decide, rfl⟩) (by decide) fX6_104 rfl dX6_take_281 ?_
          rw [k34c]
          refine e_bipush (v := 59) dX6_take_284 (by decide) ?_
          refine e_icmp_ne (tgt := 293) dX6_take_286 (by decide) (fun h286 => ?_) (fun h286 => ?_)
          ·
            refine e_iconst (v := 5) dX6_take_293 (by decide) ?_
            refine e_putI kX6 (by first | assumption | exact ⟨by decide, rfl⟩) (by decide) fX6_93 rfl rfl rfl dX6_take_294 ?_
            rw [wt_u33]
            exact e_vreq rfl dX6_take_297 (by first | (exfalso; grind; done) | rw [show chK x = 5 from by unfold chK; grind] | rw [show chK x = 4 from by unfold chK; grind] | rw [show chK x = 2 from by unfold chK; grind])
          ·
            refine e_iconst (v := 4) dX6_take_289 (by decide) ?_
            refine e_goto (tgt := 294) dX6_take_290 (by decide) ?_
            refine e_putI kX6 (by first | assumption | exact ⟨by decide, rfl⟩) (by decide) fX6_93 rfl rfl rfl dX6_take_294 ?_
            rw [wt_u33]
            exact e_vreq rfl dX6_take_297 (by first | (exfalso; grind; done) | rw [show chK x = 5 from by unfold chK; grind] | rw [show chK x = 4 from by unfold chK; grind] | rw [show chK x = 2 from by unfold chK; grind])
        ·
          refine e_aload_n dX6_take_267 rfl ?_
          refine e_getI kX6 (by first | assumption | exact ⟨by decide, rfl⟩) (by decide) fX6_104 rfl dX6_take_268 ?_
          rw [k34c]
          refine e_bipush (v := 70) dX6_take_271 (by decide) ?_
          refine e_icmp_gt (tgt := 280) dX6_take_273 (by decide) (fun h273 => ?_) (fun h273 => ?_)
          ·
            refine e_aload_n dX6_take_280 rfl ?_
            refine e_getI kX6 (by first | assumption | exact ⟨by decide, rfl⟩) (by decide) fX6_104 rfl dX6_take_281 ?_
            rw [k34c]
            refine e_bipush (v := 59) dX6_take_284 (by decide) ?_
            refine e_icmp_ne (tgt := 293) dX6_take_286 (by decide) (fun h286 => ?_) (fun h286 => ?_)
            ·
              refine e_iconst (v := 5) dX6_take_293 (by decide) ?_
              refine e_putI kX6 (by first | assumption | exact ⟨by decide, rfl⟩) (by decide) fX6_93 rfl rfl rfl dX6_take_294 ?_
              rw [wt_u33]
              exact e_vreq rfl dX6_take_297 (by first | (exfalso; grind; done) | rw [show chK x = 5 from by unfold chK; grind] | rw [show chK x = 4 from by unfold chK; grind] | rw [show chK x = 2 from by unfold chK; grind])
            ·
              refine e_iconst (v := 4) dX6_take_289 (by decide) ?_
              refine e_goto (tgt := 294) dX6_take_290 (by decide) ?_
              refine e_putI kX6 (by first | assumption | exact ⟨by decide, rfl⟩) (by decide) fX6_93 rfl rfl rfl dX6_take_294 ?_
              rw [wt_u33]
              exact e_vreq rfl dX6_take_297 (by first | (exfalso; grind; done) | rw [show chK x = 5 from by unfold chK; grind] | rw [show chK x = 4 from by unfold chK; grind] | rw [show chK x = 2 from by unfold chK; grind])
          ·
            refine e_iconst (v := 2) dX6_take_276 (by decide) ?_
            refine e_goto (tgt := 294) dX6_take_277 (by decide) ?_
            refine e_putI kX6 (by first | assumption | exact ⟨by decide, rfl⟩) (by decide) fX6_93 rfl rfl rfl dX6_take_294 ?_
            rw [wt_u33]
            exact e_vreq rfl dX6_take_297 (by first | (exfalso; grind; done) | rw [show chK x = 5 from by unfold chK; grind] | rw [show chK x = 4 from by unfold chK; grind] | rw [show chK x = 2 from by unfold chK; grind])
  · rw [if_neg hpN]
    have heN : nI p = nI N := heq.mpr (by omega)
    clear heq b6 wordR numR
    refine e_aload_n dX6_take_52 rfl ?_
    refine e_aload_n dX6_take_53 rfl ?_
    refine e_getI kX6 (by first | assumption | exact ⟨by decide, rfl⟩) (by decide) fX6_87 rfl dX6_take_54 ?_
    rw [k32]
    refine e_putI kX6 (by first | assumption | exact ⟨by decide, rfl⟩) (by decide) fX6_90 rfl rfl rfl dX6_take_57 ?_
    rw [wt_u35]
    refine e_aload_n dX6_take_60 rfl ?_
    refine e_getI kX6 (by first | assumption | exact ⟨by decide, rfl⟩) (by decide) fX6_87 rfl dX6_take_61 ?_
    rw [k32b]
    refine e_aload_n dX6_take_64 rfl ?_
    refine e_getI kX6 (by first | assumption | exact ⟨by decide, rfl⟩) (by decide) fX6_84 rfl dX6_take_65 ?_
    rw [k31b]
    refine e_icmp_ne (tgt := 79) dX6_take_68 (by decide) (fun h68 => ?_) (fun h68 => ?_)
    · exfalso
      grind
    refine e_aload_n dX6_take_71 rfl ?_
    refine e_iconst (v := 0) dX6_take_72 (by decide) ?_
    refine e_putI kX6 (by first | assumption | exact ⟨by decide, rfl⟩) (by decide) fX6_93 rfl rfl rfl dX6_take_73 ?_
    rw [wt_u33]
    refine e_goto (tgt := 297) dX6_take_76 (by decide) ?_
    exact e_vreq rfl dX6_take_297 rfl
theorem c_X6_take {σ : rS} {N : Nat} {m : rM4} (hw : wdOk σ) (hN : σ 8 31 0 = nI N) (hN2 : N ≤ 600) (hi0 : m.1 ≤ N) : Ct mX6_take [.inr (8, 0)] (wt σ m) none (wt σ (tkF (ty σ) N m)) := by
  obtain ⟨i, pl, kd, wh⟩ := m
  refine C_of_E rfl rfl (Nat.le_of_ble_eq_true rfl) ?_
  have hp := sk_le (T := ty σ) hi0
  have aft := tk_after (pl := pl) (kd := kd) (wh := wh) hw hN hN2 hp.2
  unfold tkF
  dsimp only at hp hi0 aft ⊢
  clear hw
  generalize hpe : skN (ty σ) N i = p at hp aft ⊢
  have loop : ∀ c j, j + c = N → p = spF blB (ty σ) c j → E mX6_take 0 [.inr (8, 0)] [] (wt σ (j, pl, kd, wh)) none (wt σ (if p < N then (if smB (ty σ p) = true then (smN (ty σ) N p, nI p, (if waF (ty σ) p (smN (ty σ) N p) 7 0 < 0 then 5 else 1), waF (ty σ) p (smN (ty σ) N p) 7 0) else if dgB (ty σ p) = true then (dgN (ty σ) N p, nI p, 3, nmN (ty σ) N p) else (p + 1, nI p, chK (ty σ p), ty σ p)) else (p, nI p, 0, wh))) := by
    generalize wt σ (if p < N then (if smB (ty σ p) = true then (smN (ty σ) N p, nI p, (if waF (ty σ) p (smN (ty σ) N p) 7 0 < 0 then 5 else 1), waF (ty σ) p (smN (ty σ) N p) 7 0) else if dgB (ty σ p) = true then (dgN (ty σ) N p, nI p, 3, nmN (ty σ) N p) else (p + 1, nI p, chK (ty σ p), ty σ p)) else (p, nI p, 0, wh)) = Z at aft
    intro c
    induction c with
    | zero =>
      intro j hj he
      have he2 : p = j := he
      subst he2
      have k32 : wt σ (p, pl, kd, wh) 8 32 0 = nI p := wt_32
      have k31 : wt σ (p, pl, kd, wh) 8 31 0 = nI N := (wt_fr (by decide)).trans hN
      have hge : nI N ≤ nI p := nI_le (by omega) (by omega)
      refine e_aload_n dX6_take_0 rfl ?_
      refine e_getI kX6 (by first | assumption | exact ⟨by decide, rfl⟩) (by decide) fX6_87 rfl dX6_take_1 ?_
      refine e_aload_n dX6_take_4 rfl ?_
      refine e_getI kX6 (by first | assumption | exact ⟨by decide, rfl⟩) (by decide) fX6_84 rfl dX6_take_5 ?_
      refine e_icmp_ge (tgt := 52) dX6_take_8 (by decide) (fun h8 => ?_) (fun h8 => ?_)
      rotate_left
      · exfalso
        grind
      exact aft
    | succ c ih =>
      intro j hj he
      rw [spF] at he
      have k32 : wt σ (j, pl, kd, wh) 8 32 0 = nI j := wt_32
      have k31 : wt σ (j, pl, kd, wh) 8 31 0 = nI N := (wt_fr (by decide)).trans hN
      have k0 : wt σ (j, pl, kd, wh) 8 0 (nI j) = ty σ j := wt_fr (by decide)
      have hlt : nI j < nI N := nI_lt (by omega) (by omega)
      have b6 : 0 ≤ nI j ∧ nI j < 600 := ⟨nI_pos' (by omega), nI_lt (b := 600) (by omega) (by decide)⟩
      have hbl : blB (ty σ j) = true ↔ (ty σ j = 10 ∨ ty σ j = 32) := by unfold blB; exact decide_eq_true_iff
      have i1 : (ty σ j = 10 ∨ ty σ j = 32) → _ := fun h => ih (j + 1) (by omega) (by rw [if_pos (hbl.mpr h)] at he; exact he)
      have i2 : ¬ (ty σ j = 10 ∨ ty σ j = 32) → p = j := fun h => by rw [if_neg (fun z => h (hbl.mp z))] at he; exact he
      clear ih he hbl
      generalize ty σ j = x at k0 i1 i2
      refine e_aload_n dX6_take_0 rfl ?_
      refine e_getI kX6 (by first | assumption | exact ⟨by decide, rfl⟩) (by decide) fX6_87 rfl dX6_take_1 ?_
      refine e_aload_n dX6_take_4 rfl ?_
      refine e_getI kX6 (by first | assumption | exact ⟨by decide, rfl⟩) (by decide) fX6_84 rfl dX6_take_5 ?_
      refine e_icmp_ge (tgt := 52) dX6_take_8 (by decide) (fun h8 => ?_) (fun h8 => ?_)
      · exfalso
        grind
      refine e_aload_n dX6_take_11 rfl ?_
      refine e_getA kX6 (by first | assumption | exact ⟨by decide, rfl⟩) (by decide) fX6_7 rfl dX6_take_12 ?_
      refine e_aload_n dX6_take_15 rfl ?_
      refine e_getI kX6 (by first | assumption | exact ⟨by decide, rfl⟩) (by decide) fX6_87 rfl dX6_take_16 ?_
      rw [k32]
      refine e_iald (ci := 6) (by first | assumption | exact ⟨by decide, rfl⟩) rfl (vin 600 (by decide) b6) dX6_take_19 ?_
      rw [k0]
      refine e_bipush (v := 10) dX6_take_20 (by decide) ?_
      refine e_icmp_eq (tgt := 39) dX6_take_22 (by decide) (fun h22 => ?_) (fun h22 => ?_)
      ·
        refine e_aload_n dX6_take_39 rfl ?_
        refine e_dup dX6_take_40 ?_
        refine e_getI kX6 (by first | assumption | exact ⟨by decide, rfl⟩) (by decide) fX6_87 rfl dX6_take_41 ?_
        rw [k32]
        refine e_iconst (v := 1) dX6_take_44 (by decide) ?_
        refine e_iadd dX6_take_45 ?_
        rw [← nI_succ]
        refine e_putI kX6 (by first | assumption | exact ⟨by decide, rfl⟩) (by decide) fX6_87 rfl rfl rfl dX6_take_46 ?_
        rw [wt_u32]
        refine e_goto (tgt := 0) dX6_take_49 (by decide) ?_
        exact i1 (by grind)
      ·
        refine e_aload_n dX6_take_25 rfl ?_
        refine e_getA kX6 (by first | assumption | exact ⟨by decide, rfl⟩) (by decide) fX6_7 rfl dX6_take_26 ?_
        refine e_aload_n dX6_take_29 rfl ?_
        refine e_getI kX6 (by first | assumption | exact ⟨by decide, rfl⟩) (by decide) fX6_87 rfl dX6_take_30 ?_
        rw [k32]
        refine e_iald (ci := 6) (by first | assumption | exact ⟨by decide, rfl⟩) rfl (vin 600 (by decide) b6) dX6_take_33 ?_
        rw [k0]
        refine e_bipush (v := 32) dX6_take_34 (by decide) ?_
        refine e_icmp_ne (tgt := 52) dX6_take_36 (by decide) (fun h36 => ?_) (fun h36 => ?_)
        ·
          have e9 : p = j := i2 (by grind)
          subst e9
          exact aft
        ·
          refine e_aload_n dX6_take_39 rfl ?_
          refine e_dup dX6_take_40 ?_
          refine e_getI kX6 (by first | assumption | exact ⟨by decide, rfl⟩) (by decide) fX6_87 rfl dX6_take_41 ?_
          rw [k32]
          refine e_iconst (v := 1) dX6_take_44 (by decide) ?_
          refine e_iadd dX6_take_45 ?_
          rw [← nI_succ]
          refine e_putI kX6 (by first | assumption | exact ⟨by decide, rfl⟩) (by decide) fX6_87 rfl rfl rfl dX6_take_46 ?_
          rw [wt_u32]
          refine e_goto (tgt := 0) dX6_take_49 (by decide) ?_
          exact i1 (by grind)
  exact loop (N - i) i (by omega) hpe.symm
