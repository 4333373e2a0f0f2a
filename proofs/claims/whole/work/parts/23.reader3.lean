-- the Reader: lines
theorem nmA_le {T : Nat → Int32} {N : Nat} {sh : Int32 → Int32} {a : rA3} (h : a.1 ≤ N) : (nmA T N sh a).1 ≤ N := by
  have h1 := sk_le (T := T) h
  unfold nmA
  by_cases hp : skN T N a.1 < N
  · split
    · split
      · exact h1.2
      · split
        · exact h1.2
        · exact hp
    · exact h
  · have hs : sgn T N (skN T N a.1) = -1 := if_neg hp
    rw [hs]
    split
    · rw [if_pos (by decide)]
      exact h1.2
    · exact h
theorem nuA_le {T : Nat → Int32} {N : Nat} {lo hi : Int32} {a : rA3} (h : a.1 ≤ N) : (nuA T N lo hi a).1 ≤ N := by
  have h1 := sk_le (T := T) h
  have h2 := dg_le (T := T) h1.2
  unfold nuA
  split
  · split
    · split
      · exact h2.2
      · exact h2.2
    · exact h1.2
  · exact h
theorem aSemi_le {T : Nat → Int32} {N : Nat} {a : rA3} (h : a.1 ≤ N) : (aSemi T N a).1 ≤ N := by
  have h1 := sk_le (T := T) h
  unfold aSemi
  by_cases hp : skN T N a.1 < N
  · split
    · split
      · exact hp
      · exact h1.2
    · exact h
  · have hs : sgn T N (skN T N a.1) = -1 := if_neg hp
    rw [hs]
    split
    · rw [if_neg (by decide)]
      exact h1.2
    · exact h
/-- a burden's line, step by step -/
abbrev bu1 (T : Nat → Int32) (N : Nat) (a : rA3) : rA3 := aWord T N 4 a
abbrev bu2 (T : Nat → Int32) (N : Nat) (sh : Int32 → Int32) (a : rA3) : rA3 := nmA T N sh (bu1 T N a)
abbrev bu3 (T : Nat → Int32) (N : Nat) (sh : Int32 → Int32) (a : rA3) : rA3 := aWord T N 5 (bu2 T N sh a)
abbrev bu4 (T : Nat → Int32) (N : Nat) (sh : Int32 → Int32) (a : rA3) : rA3 := nuA T N 1 10000 (bu3 T N sh a)
abbrev bu5 (T : Nat → Int32) (N : Nat) (sh : Int32 → Int32) (a : rA3) : rA3 := aWord T N 6 (bu4 T N sh a)
abbrev bu6 (T : Nat → Int32) (N : Nat) (sh : Int32 → Int32) (a : rA3) : rA3 := nuA T N 1 4 (bu5 T N sh a)
/-- what it tells -/
abbrev buS (T : Nat → Int32) (N q : Nat) (σ : rS) (a : rA3) : rS := if (bu6 T N (gSh σ q) a).2.1 = 0 then sTell σ q (nmV T N (gSh σ q) (bu1 T N a)) (nuV T N 1 10000 (bu3 T N (gSh σ q) a)) (nuV T N 1 4 (bu5 T N (gSh σ q) a)) else σ
theorem sTell_wr {σ : rS} {q : Nat} {a : rA3} {b c h : Int32} (hq : ¬ q = 2) : sTell (wr σ a) q b c h = wr (sTell σ q b c h) a := by
  unfold sTell
  split
  · rw [wr_up (by grind), wr_up (by grind)]
  · rfl
theorem c_X1_readBurden {σ : rS} {N q : Nat} {a : rA3} (h1 : isO q 3) (hN : σ 2 2 0 = nI N) (hN2 : N ≤ 600) (hi : a.1 ≤ N) : Ct mX1_readBurden [.inr (2, 0), .inr (q, 0)] (wr σ a) none (wr (buS (tx σ) N q σ a) (bu6 (tx σ) N (gSh σ q) a)) := by
  have hq2 : ¬ q = 2 := isO_ne h1 (⟨by decide, rfl⟩ : isO 2 1) (by decide)
  refine C_of_E rfl rfl (Nat.le_of_ble_eq_true rfl) ?_
  have k1 : (bu1 (tx σ) N a).1 ≤ N := aWord_le hi
  have k2 : (bu2 (tx σ) N (gSh σ q) a).1 ≤ N := nmA_le k1
  have k3 : (bu3 (tx σ) N (gSh σ q) a).1 ≤ N := aWord_le k2
  have k4 : (bu4 (tx σ) N (gSh σ q) a).1 ≤ N := nuA_le k3
  have k5 : (bu5 (tx σ) N (gSh σ q) a).1 ≤ N := aWord_le k4
  have hfk : wr σ (bu6 (tx σ) N (gSh σ q) a) 2 4 0 = (bu6 (tx σ) N (gSh σ q) a).2.1 := wr_4
  have hE1 : ¬ (bu6 (tx σ) N (gSh σ q) a).2.1 = 0 → buS (tx σ) N q σ a = σ := fun h => if_neg h
  have hE2 : (bu6 (tx σ) N (gSh σ q) a).2.1 = 0 → buS (tx σ) N q σ a = sTell σ q (nmV (tx σ) N (gSh σ q) (bu1 (tx σ) N a)) (nuV (tx σ) N 1 10000 (bu3 (tx σ) N (gSh σ q) a)) (nuV (tx σ) N 1 4 (bu5 (tx σ) N (gSh σ q) a)) := fun h => if_pos h
  generalize (bu6 (tx σ) N (gSh σ q) a).2.1 = F at hfk hE1 hE2
  generalize buS (tx σ) N q σ a = Z at hE1 hE2 ⊢
  refine e_aload_n dX1_readBurden_0 rfl ?_
  refine e_ldcS 4 (by decide) rfl rfl dX1_readBurden_1 ?_
  refine e_V1v oX1_expectWord lX1_78 ⟨Nat.le_of_ble_eq_true rfl, Nat.le_of_ble_eq_true rfl⟩ dX1_readBurden_3 (by first | assumption | exact ⟨by decide, rfl⟩) (Nat.le_of_ble_eq_true rfl) (c_X1_expectWord (s := 4) (by decide) hN hN2 hi) ?_
  refine e_aload_n dX1_readBurden_6 rfl ?_
  refine e_aload_n dX1_readBurden_7 rfl ?_
  refine e_V1 oX1_expectNewName lX1_82 ⟨Nat.le_of_ble_eq_true rfl, Nat.le_of_ble_eq_true rfl⟩ dX1_readBurden_8 (by first | assumption | exact ⟨by decide, rfl⟩) (Nat.le_of_ble_eq_true rfl) (c_X1_expectNewName h1 hN hN2 k1) ?_
  refine e_istore_n dX1_readBurden_11 (by decide) (Nat.le_of_ble_eq_true rfl) ?_
  refine e_aload_n dX1_readBurden_12 rfl ?_
  refine e_ldcS 5 (by decide) rfl rfl dX1_readBurden_13 ?_
  refine e_V1v oX1_expectWord lX1_78 ⟨Nat.le_of_ble_eq_true rfl, Nat.le_of_ble_eq_true rfl⟩ dX1_readBurden_15 (by first | assumption | exact ⟨by decide, rfl⟩) (Nat.le_of_ble_eq_true rfl) (c_X1_expectWord (s := 5) (by decide) hN hN2 k2) ?_
  refine e_aload_n dX1_readBurden_18 rfl ?_
  refine e_iconst (v := 1) dX1_readBurden_19 (by decide) ?_
  refine e_sipush (v := 10000) dX1_readBurden_20 (by decide) ?_
  refine e_V2 oX1_expectNumber lX1_66 ⟨Nat.le_of_ble_eq_true rfl, Nat.le_of_ble_eq_true rfl⟩ dX1_readBurden_23 (by first | assumption | exact ⟨by decide, rfl⟩) (Nat.le_of_ble_eq_true rfl) (c_X1_expectNumber hN hN2 k3) ?_
  refine e_istore_n dX1_readBurden_26 (by decide) (Nat.le_of_ble_eq_true rfl) ?_
  refine e_aload_n dX1_readBurden_27 rfl ?_
  refine e_ldcS 6 (by decide) rfl rfl dX1_readBurden_28 ?_
  refine e_V1v oX1_expectWord lX1_78 ⟨Nat.le_of_ble_eq_true rfl, Nat.le_of_ble_eq_true rfl⟩ dX1_readBurden_30 (by first | assumption | exact ⟨by decide, rfl⟩) (Nat.le_of_ble_eq_true rfl) (c_X1_expectWord (s := 6) (by decide) hN hN2 k4) ?_
  refine e_aload_n dX1_readBurden_33 rfl ?_
  refine e_iconst (v := 1) dX1_readBurden_34 (by decide) ?_
  refine e_iconst (v := 4) dX1_readBurden_35 (by decide) ?_
  refine e_V2 oX1_expectNumber lX1_66 ⟨Nat.le_of_ble_eq_true rfl, Nat.le_of_ble_eq_true rfl⟩ dX1_readBurden_36 (by first | assumption | exact ⟨by decide, rfl⟩) (Nat.le_of_ble_eq_true rfl) (c_X1_expectNumber hN hN2 k5) ?_
  refine e_istore dX1_readBurden_39 (by decide) (Nat.le_of_ble_eq_true rfl) ?_
  refine e_aload_n dX1_readBurden_41 rfl ?_
  refine e_V0 oX1_isSound lX1_37 ⟨Nat.le_of_ble_eq_true rfl, Nat.le_of_ble_eq_true rfl⟩ dX1_readBurden_42 (by first | assumption | exact ⟨by decide, rfl⟩) (Nat.le_of_ble_eq_true rfl) (c_X1_isSound) ?_
  rw [hfk]
  refine e_if_eqB (tgt := 56) dX1_readBurden_45 (by decide) (fun h45 => ?_) (fun h45 => ?_)
  ·
    exact e_vreq rfl dX1_readBurden_56 (by first | (rw [hE1 (by assumption)]; done) | (rw [hE2 (by assumption), sTell_wr hq2]; done))
  ·
    refine e_aload_n dX1_readBurden_48 rfl ?_
    refine e_iload_n dX1_readBurden_49 rfl ?_
    refine e_iload_n dX1_readBurden_50 rfl ?_
    refine e_iload dX1_readBurden_51 rfl ?_
    refine e_V3v oX3_tellBurden lX1_90 ⟨Nat.le_of_ble_eq_true rfl, Nat.le_of_ble_eq_true rfl⟩ dX1_readBurden_53 (by first | assumption | exact ⟨by decide, rfl⟩) (Nat.le_of_ble_eq_true rfl) (c_X3_tellBurden (by first | assumption | exact ⟨by decide, rfl⟩)) ?_
    exact e_vreq rfl dX1_readBurden_56 (by first | (rw [hE1 (by assumption)]; done) | (rw [hE2 (by assumption), sTell_wr hq2]; done))
abbrev mo4 (k : Int32) : Int32 := if k = 0 then 9 else if k = 1 then 100000 else 60
/-- a line: where it leaves the reader, and what it tells -/
def liA (T : Nat → Int32) (N q : Nat) (σ : rS) (a : rA3) : rA3 :=
  if psF T N a.1 4 0 = -1 then aSemi T N (bu6 T N (gSh σ q) a)
  else if ¬ σ 2 1 (psF T N a.1 4 0) = 0 then aSemi T N (smN T N a.1, 3, nI a.1)
  else aSemi T N (nuA T N 0 (mo4 (psF T N a.1 4 0)) (smN T N a.1, a.2.1, a.2.2))
def liS (T : Nat → Int32) (N q : Nat) (σ : rS) (a : rA3) : rS :=
  if psF T N a.1 4 0 = -1 then buS T N q σ a
  else if ¬ σ 2 1 (psF T N a.1 4 0) = 0 then σ
  else up (up σ 2 1 (psF T N a.1 4 0) 1) q 2 (psF T N a.1 4 0) (nuV T N 0 (mo4 (psF T N a.1 4 0)) (smN T N a.1, a.2.1, a.2.2))
theorem psF_rng {T : Nat → Int32} {N i : Nat} : ∀ c k, k + c = 4 → psF T N i c k = -1 ∨ (0 ≤ psF T N i c k ∧ psF T N i c k < 4) := by
  intro c
  induction c with
  | zero => intro k _; exact Or.inl rfl
  | succ c ih =>
    intro k hk
    obtain ⟨f1, f2, f3, f4⟩ := nI_facts (j := k) 4 (show k < 4 by omega) (Nat.le_refl _) (by decide) rfl
    have e4 : nI 4 = 4 := rfl
    rw [psF]
    split
    · right; grind
    · exact ih (k + 1) (by omega)
theorem buS_fr {T : Nat → Int32} {N q : Nat} {σ : rS} {a : rA3} {o' k' : Nat} {i' : Int32} (h : ¬ o' = q) : buS T N q σ a o' k' i' = σ o' k' i' := by
  unfold buS sTell
  split
  · split
    · simp only [up]; grind
    · rfl
  · rfl
theorem buS_tx {T : Nat → Int32} {N q : Nat} {σ : rS} {a : rA3} (h1 : isO q 3) : tx (buS T N q σ a) = tx σ := by
  funext i
  unfold tx
  rw [buS_fr (fun z => by subst z; exact absurd h1.2 (by decide))]
theorem c_X1_readLine {σ : rS} {N q i : Nat} {f w : Int32} (h1 : isO q 3) (hN : σ 2 2 0 = nI N) (hN2 : N ≤ 600) (hi : i ≤ N) : Ct mX1_readLine [.inr (2, 0), .inr (q, 0)] (wr σ (i, f, w)) none (wr (liS (tx σ) N q σ (i, f, w)) (liA (tx σ) N q σ (i, f, w))) := by
  have hq2 : ¬ q = 2 := isO_ne h1 (⟨by decide, rfl⟩ : isO 2 1) (by decide)
  have hq1 : ¬ q = 1 := isO_ne h1 (⟨by decide, rfl⟩ : isO 1 4) (by decide)
  refine C_of_E rfl rfl (Nat.le_of_ble_eq_true rfl) ?_
  have hsp : wr σ (i, f, w) 2 3 0 = nI i := wr_3
  have hr := psF_rng (T := tx σ) (N := N) (i := i) 4 0 rfl
  have hsm := sm_le (T := tx σ) hi
  unfold liS liA
  dsimp only
  by_cases hk : psF (tx σ) N i 4 0 = -1
  · rw [if_pos hk, if_pos hk]
    have hb : (bu6 (tx σ) N (gSh σ q) (i, f, w)).1 ≤ N := nuA_le (aWord_le (nuA_le (aWord_le (nmA_le (aWord_le hi)))))
    have hsemi := c_X1_expectSemicolon (σ := buS (tx σ) N q σ (i, f, w)) (N := N) (a := bu6 (tx σ) N (gSh σ q) (i, f, w)) ((buS_fr (fun z => hq2 z.symm)).trans hN) hN2 hb
    rw [buS_tx h1] at hsemi
    refine e_aload_n dX1_readLine_0 rfl ?_
    refine e_getI kX1 (by first | assumption | exact ⟨by decide, rfl⟩) (by decide) fX1_23 rfl dX1_readLine_1 ?_
    rw [hsp]
    refine e_istore_n dX1_readLine_4 (by decide) (Nat.le_of_ble_eq_true rfl) ?_
    refine e_aload_n dX1_readLine_5 rfl ?_
    refine e_V0 oX1_passSettingWord lX1_52 ⟨Nat.le_of_ble_eq_true rfl, Nat.le_of_ble_eq_true rfl⟩ dX1_readLine_6 (by first | assumption | exact ⟨by decide, rfl⟩) (Nat.le_of_ble_eq_true rfl) (c_X1_passSettingWord hN hN2 hi) ?_
    rw [if_pos hk, hk]
    refine e_istore_n dX1_readLine_9 (by decide) (Nat.le_of_ble_eq_true rfl) ?_
    refine e_iload_n dX1_readLine_10 rfl ?_
    refine e_if_lt (tgt := 23) dX1_readLine_11 (by decide) (fun h11 => ?_) (fun h11 => ?_)
    rotate_left
    · exfalso
      grind
    refine e_aload_n dX1_readLine_23 rfl ?_
    refine e_aload_n dX1_readLine_24 rfl ?_
    refine e_V1v oX1_readBurden lX1_55 ⟨Nat.le_of_ble_eq_true rfl, Nat.le_of_ble_eq_true rfl⟩ dX1_readLine_25 (by first | assumption | exact ⟨by decide, rfl⟩) (Nat.le_of_ble_eq_true rfl) (c_X1_readBurden h1 hN hN2 hi) ?_
    refine e_goto (tgt := 70) dX1_readLine_28 (by decide) ?_
    refine e_aload_n dX1_readLine_70 rfl ?_
    refine e_V0v oX1_expectSemicolon lX1_73 ⟨Nat.le_of_ble_eq_true rfl, Nat.le_of_ble_eq_true rfl⟩ dX1_readLine_71 (by first | assumption | exact ⟨by decide, rfl⟩) (Nat.le_of_ble_eq_true rfl) hsemi ?_
    exact e_vreq rfl dX1_readLine_74 rfl
  · rw [if_neg hk, if_neg hk]
    have hr2 : 0 ≤ psF (tx σ) N i 4 0 ∧ psF (tx σ) N i 4 0 < 4 := by grind
    generalize hK : psF (tx σ) N i 4 0 = K at hk hr hr2 ⊢
    have htold : wr σ (smN (tx σ) N i, f, w) 2 1 K = σ 2 1 K := wr_fr (by decide)
    by_cases ht : σ 2 1 K = 0
    · have hnt : ¬ ¬ σ 2 1 K = 0 := fun z => z ht
      rw [if_neg hnt, if_neg hnt]
      have hN3 : up σ 2 1 K 1 2 2 0 = nI N := (up_k (by decide)).trans hN
      have htx : tx (up σ 2 1 K 1) = tx σ := by funext j; unfold tx; rw [up_o (by decide)]
      have hnum := c_X1_expectNumber (σ := up σ 2 1 K 1) (N := N) (lo := 0) (hi := mo4 K) (a := (smN (tx σ) N i, f, w)) hN3 hN2 hsm.2
      rw [htx] at hnum
      have hse : sSetg (wr (up σ 2 1 K 1) (nuA (tx σ) N 0 (mo4 K) (smN (tx σ) N i, f, w))) q K (nuV (tx σ) N 0 (mo4 K) (smN (tx σ) N i, f, w)) = wr (up (up σ 2 1 K 1) q 2 K (nuV (tx σ) N 0 (mo4 K) (smN (tx σ) N i, f, w))) (nuA (tx σ) N 0 (mo4 K) (smN (tx σ) N i, f, w)) := by
        unfold sSetg
        rw [if_pos hr2, wr_up (by grind)]
      have htx2 : tx (up (up σ 2 1 K 1) q 2 K (nuV (tx σ) N 0 (mo4 K) (smN (tx σ) N i, f, w))) = tx σ := by funext j; unfold tx; rw [up_o (fun z => hq1 z.symm), up_o (by decide)]
      have hsemi := c_X1_expectSemicolon (σ := up (up σ 2 1 K 1) q 2 K (nuV (tx σ) N 0 (mo4 K) (smN (tx σ) N i, f, w))) (N := N) (a := nuA (tx σ) N 0 (mo4 K) (smN (tx σ) N i, f, w)) ((up_o (fun z => hq2 z.symm)).trans hN3) hN2 (nuA_le hsm.2)
      rw [htx2] at hsemi
      refine e_aload_n dX1_readLine_0 rfl ?_
      refine e_getI kX1 (by first | assumption | exact ⟨by decide, rfl⟩) (by decide) fX1_23 rfl dX1_readLine_1 ?_
      rw [hsp]
      refine e_istore_n dX1_readLine_4 (by decide) (Nat.le_of_ble_eq_true rfl) ?_
      refine e_aload_n dX1_readLine_5 rfl ?_
      refine e_V0 oX1_passSettingWord lX1_52 ⟨Nat.le_of_ble_eq_true rfl, Nat.le_of_ble_eq_true rfl⟩ dX1_readLine_6 (by first | assumption | exact ⟨by decide, rfl⟩) (Nat.le_of_ble_eq_true rfl) (c_X1_passSettingWord hN hN2 hi) ?_
      rw [hK, if_neg hk]
      refine e_istore_n dX1_readLine_9 (by decide) (Nat.le_of_ble_eq_true rfl) ?_
      refine e_iload_n dX1_readLine_10 rfl ?_
      refine e_if_lt (tgt := 23) dX1_readLine_11 (by decide) (fun h11 => ?_) (fun h11 => ?_)
      · exfalso
        grind
      refine e_iload_n dX1_readLine_14 rfl ?_
      refine e_aload_n dX1_readLine_15 rfl ?_
      refine e_getA kX1 (by first | assumption | exact ⟨by decide, rfl⟩) (by decide) fX1_15 rfl dX1_readLine_16 ?_
      refine e_alen (ci := 1) (n := 4) (by first | assumption | exact ⟨by decide, rfl⟩) rfl (by decide) dX1_readLine_19 ?_
      refine e_icmp_lt (tgt := 31) dX1_readLine_20 (by decide) (fun h20 => ?_) (fun h20 => ?_)
      rotate_left
      · exfalso
        grind
      refine e_aload_n dX1_readLine_31 rfl ?_
      refine e_getA kX1 (by first | assumption | exact ⟨by decide, rfl⟩) (by decide) fX1_15 rfl dX1_readLine_32 ?_
      refine e_iload_n dX1_readLine_35 rfl ?_
      refine e_zald (ci := 1) (by first | assumption | exact ⟨by decide, rfl⟩) rfl (vin 4 (by decide) hr2) dX1_readLine_36 ?_
      rw [htold]
      refine e_if_eq (tgt := 49) dX1_readLine_37 (by decide) (fun h37 => ?_) (fun h37 => ?_)
      rotate_left
      · exfalso
        grind
      refine e_aload_n dX1_readLine_49 rfl ?_
      refine e_getA kX1 (by first | assumption | exact ⟨by decide, rfl⟩) (by decide) fX1_15 rfl dX1_readLine_50 ?_
      refine e_iload_n dX1_readLine_53 rfl ?_
      refine e_iconst (v := 1) dX1_readLine_54 (by decide) ?_
      refine e_zast (ci := 1) (by first | assumption | exact ⟨by decide, rfl⟩) rfl (vin 4 (by decide) hr2) (by first | exact bI_or | simp) dX1_readLine_55 ?_
      rw [wr_up (by decide)]
      refine e_aload_n dX1_readLine_56 rfl ?_
      refine e_iload_n dX1_readLine_57 rfl ?_
      refine e_aload_n dX1_readLine_58 rfl ?_
      refine e_iconst (v := 0) dX1_readLine_59 (by decide) ?_
      refine e_iload_n dX1_readLine_60 rfl ?_
      refine e_S1 oX1_mostOf sX1_mostOf lX1_62 ⟨Nat.le_of_ble_eq_true rfl, Nat.le_of_ble_eq_true rfl⟩ dX1_readLine_61 (Nat.le_of_ble_eq_true rfl) c_X1_mostOf ?_
      refine e_V2 oX1_expectNumber lX1_66 ⟨Nat.le_of_ble_eq_true rfl, Nat.le_of_ble_eq_true rfl⟩ dX1_readLine_64 (by first | assumption | exact ⟨by decide, rfl⟩) (Nat.le_of_ble_eq_true rfl) hnum ?_
      refine e_V2v oX3_tellSetting lX1_70 ⟨Nat.le_of_ble_eq_true rfl, Nat.le_of_ble_eq_true rfl⟩ dX1_readLine_67 (by first | assumption | exact ⟨by decide, rfl⟩) (Nat.le_of_ble_eq_true rfl) (c_X3_tellSetting (by first | assumption | exact ⟨by decide, rfl⟩)) ?_
      rw [hse]
      refine e_aload_n dX1_readLine_70 rfl ?_
      refine e_V0v oX1_expectSemicolon lX1_73 ⟨Nat.le_of_ble_eq_true rfl, Nat.le_of_ble_eq_true rfl⟩ dX1_readLine_71 (by first | assumption | exact ⟨by decide, rfl⟩) (Nat.le_of_ble_eq_true rfl) hsemi ?_
      exact e_vreq rfl dX1_readLine_74 rfl
    · have hnt : ¬ σ 2 1 K = 0 := ht
      rw [if_pos hnt, if_pos hnt]
      have hsemi := c_X1_expectSemicolon (σ := σ) (N := N) (a := (smN (tx σ) N i, 3, nI i)) hN hN2 hsm.2
      refine e_aload_n dX1_readLine_0 rfl ?_
      refine e_getI kX1 (by first | assumption | exact ⟨by decide, rfl⟩) (by decide) fX1_23 rfl dX1_readLine_1 ?_
      rw [hsp]
      refine e_istore_n dX1_readLine_4 (by decide) (Nat.le_of_ble_eq_true rfl) ?_
      refine e_aload_n dX1_readLine_5 rfl ?_
      refine e_V0 oX1_passSettingWord lX1_52 ⟨Nat.le_of_ble_eq_true rfl, Nat.le_of_ble_eq_true rfl⟩ dX1_readLine_6 (by first | assumption | exact ⟨by decide, rfl⟩) (Nat.le_of_ble_eq_true rfl) (c_X1_passSettingWord hN hN2 hi) ?_
      rw [hK, if_neg hk]
      refine e_istore_n dX1_readLine_9 (by decide) (Nat.le_of_ble_eq_true rfl) ?_
      refine e_iload_n dX1_readLine_10 rfl ?_
      refine e_if_lt (tgt := 23) dX1_readLine_11 (by decide) (fun h11 => ?_) (fun h11 => ?_)
      · exfalso
        grind
      refine e_iload_n dX1_readLine_14 rfl ?_
      refine e_aload_n dX1_readLine_15 rfl ?_
      refine e_getA kX1 (by first | assumption | exact ⟨by decide, rfl⟩) (by decide) fX1_15 rfl dX1_readLine_16 ?_
      refine e_alen (ci := 1) (n := 4) (by first | assumption | exact ⟨by decide, rfl⟩) rfl (by decide) dX1_readLine_19 ?_
      refine e_icmp_lt (tgt := 31) dX1_readLine_20 (by decide) (fun h20 => ?_) (fun h20 => ?_)
      rotate_left
      · exfalso
        grind
      refine e_aload_n dX1_readLine_31 rfl ?_
      refine e_getA kX1 (by first | assumption | exact ⟨by decide, rfl⟩) (by decide) fX1_15 rfl dX1_readLine_32 ?_
      refine e_iload_n dX1_readLine_35 rfl ?_
      refine e_zald (ci := 1) (by first | assumption | exact ⟨by decide, rfl⟩) rfl (vin 4 (by decide) hr2) dX1_readLine_36 ?_
      rw [htold]
      refine e_if_eq (tgt := 49) dX1_readLine_37 (by decide) (fun h37 => ?_) (fun h37 => ?_)
      · exfalso
        grind
      refine e_aload_n dX1_readLine_40 rfl ?_
      refine e_iconst (v := 3) dX1_readLine_41 (by decide) ?_
      refine e_iload_n dX1_readLine_42 rfl ?_
      refine e_V2v oX1_blame lX1_58 ⟨Nat.le_of_ble_eq_true rfl, Nat.le_of_ble_eq_true rfl⟩ dX1_readLine_43 (by first | assumption | exact ⟨by decide, rfl⟩) (Nat.le_of_ble_eq_true rfl) (c_X1_blame) ?_
      refine e_goto (tgt := 70) dX1_readLine_46 (by decide) ?_
      rw [wr_bl]
      refine e_aload_n dX1_readLine_70 rfl ?_
      refine e_V0v oX1_expectSemicolon lX1_73 ⟨Nat.le_of_ble_eq_true rfl, Nat.le_of_ble_eq_true rfl⟩ dX1_readLine_71 (by first | assumption | exact ⟨by decide, rfl⟩) (Nat.le_of_ble_eq_true rfl) hsemi ?_
      exact e_vreq rfl dX1_readLine_74 rfl
