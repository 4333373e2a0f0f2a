-- numberPlaces, read
def npS (q j : Nat) : Nat → rS → rS := itS (fun _ τ => up (up τ q 3 (τ q 4 0) (nI j)) q 4 0 (τ q 4 0 + 1))
theorem npS_4 {q j : Nat} {σ : rS} : ∀ i, npS q j i σ q 4 0 = σ q 4 0 + nI i := by
  intro i
  induction i with
  | zero => show σ q 4 0 = σ q 4 0 + 0; grind
  | succ i ih =>
    show up (up (npS q j i σ) q 3 _ _) q 4 0 (npS q j i σ q 4 0 + 1) q 4 0 = _
    rw [up_self, ih, nI_succ]
    grind
theorem npS_fr {q j : Nat} {σ : rS} {o' k' : Nat} {i' : Int32} (h : ¬ (o' = q ∧ (k' = 3 ∨ k' = 4))) : ∀ i, npS q j i σ o' k' i' = σ o' k' i' := by
  intro i
  induction i with
  | zero => rfl
  | succ i ih =>
    show up (up (npS q j i σ) q 3 (npS q j i σ q 4 0) (nI j)) q 4 0 (npS q j i σ q 4 0 + 1) o' k' i' = _
    generalize npS q j i σ = s at ih ⊢
    simp only [up]; grind
def suS (sh : Nat → Nat) : Nat → Nat
  | 0 => 0
  | j + 1 => suS sh j + sh j
def npO (q : Nat) (sh : Nat → Nat) : Nat → rS → rS := itS (fun j τ => npS q j (sh j) τ)
theorem npO_4 {q : Nat} {sh : Nat → Nat} {σ : rS} (h : σ q 4 0 = 0) : ∀ j, npO q sh j σ q 4 0 = nI (suS sh j) := by
  intro j
  induction j with
  | zero => exact h
  | succ j ih =>
    show npS q j (sh j) (npO q sh j σ) q 4 0 = _
    rw [npS_4, ih, nI_add]
    rfl
theorem npO_fr {q : Nat} {sh : Nat → Nat} {σ : rS} {o' k' : Nat} {i' : Int32} (h : ¬ (o' = q ∧ (k' = 3 ∨ k' = 4))) : ∀ j, npO q sh j σ o' k' i' = σ o' k' i' := by
  intro j
  induction j with
  | zero => rfl
  | succ j ih => exact (npS_fr h (sh j)).trans ih
theorem suS_le {sh : Nat → Nat} : ∀ j, (∀ i, i < j → sh i ≤ 4) → suS sh j ≤ 4 * j := by
  intro j
  induction j with
  | zero => intro _; exact Nat.le_refl _
  | succ j ih =>
    intro h
    have h1 := ih (fun i hi => h i (by omega))
    have h2 := h j (by omega)
    show suS sh j + sh j ≤ 4 * (j + 1)
    omega
def shOk (σ : rS) (q : Nat) (sh : Nat → Nat) : Prop := ∀ j, j < 6 → σ q 1 (nI j) = nI (sh j) ∧ sh j ≤ 4
theorem c_X3_numberPlaces {q : Nat} {sh : Nat → Nat} {σ : rS} (h0 : isO q 3) (hsh : shOk σ q sh) : Ct mX3_numberPlaces [.inr (q, 0)] σ none (npO q sh 6 (up σ q 4 0 0)) := by
  refine C_of_E rfl rfl (Nat.le_of_ble_eq_true rfl) ?_
  have outer : ∀ j, j ≤ 6 → E mX3_numberPlaces 7 [.inr (q, 0), .inl (nI j)] [] (npO q sh j (up σ q 4 0 0)) none (npO q sh 6 (up σ q 4 0 0)) := by
    refine dn_ind 6 _ ?_ (fun j hj ih => ?_)
    · have e6 : nI 6 = 6 := rfl
      refine e_iload_n dX3_numberPlaces_7 rfl ?_
      refine e_aload_n dX3_numberPlaces_8 rfl ?_
      refine e_getA kX3 (by first | assumption | exact ⟨by decide, rfl⟩) (by decide) fX3_15 rfl dX3_numberPlaces_9 ?_
      refine e_alen (ci := 3) (n := 6) (by first | assumption | exact ⟨by decide, rfl⟩) rfl (by decide) dX3_numberPlaces_12 ?_
      refine e_icmp_ge (tgt := 72) dX3_numberPlaces_13 (by decide) (fun h13 => ?_) (fun h13 => ?_)
      rotate_left
      · exfalso
        grind
      exact e_vreq rfl dX3_numberPlaces_72 rfl
    · obtain ⟨f1, f2, f3, f4⟩ := nI_facts 6 hj (Nat.le_refl _) (by decide) rfl
      have e6 : nI 6 = 6 := rfl
      have hp := npO_4 (q := q) (sh := sh) (σ := up σ q 4 0 0) up_self j
      have hshj : npO q sh j (up σ q 4 0 0) q 1 (nI j) = nI (sh j) := (npO_fr (by simp) j).trans ((up_k (by decide)).trans (hsh j hj).1)
      have hle := (hsh j hj).2
      have hsu := suS_le (sh := sh) j (fun i hi => (hsh i (by omega)).2)
      change E mX3_numberPlaces 7 [.inr (q, 0), .inl (nI (j + 1))] [] (npS q j (sh j) (npO q sh j (up σ q 4 0 0))) _ _ at ih
      generalize npO q sh j (up σ q 4 0 0) = s at ih hp hshj ⊢
      have inner : ∀ i, i ≤ sh j → E mX3_numberPlaces 18 [.inr (q, 0), .inl (nI j), .inl (nI i)] [] (npS q j i s) none (npO q sh 6 (up σ q 4 0 0)) := by
        refine dn_ind (sh j) _ ?_ (fun i hi ih2 => ?_)
        · have hs2 : npS q j (sh j) s q 1 (nI j) = nI (sh j) := (npS_fr (by simp) _).trans hshj
          clear hsh
          refine e_iload_n dX3_numberPlaces_18 rfl ?_
          refine e_aload_n dX3_numberPlaces_19 rfl ?_
          refine e_getA kX3 (by first | assumption | exact ⟨by decide, rfl⟩) (by decide) fX3_15 rfl dX3_numberPlaces_20 ?_
          refine e_iload_n dX3_numberPlaces_23 rfl ?_
          refine e_iald (ci := 3) (by first | assumption | exact ⟨by decide, rfl⟩) rfl (vin 6 (by decide) (by grind)) dX3_numberPlaces_24 ?_
          refine e_icmp_ge (tgt := 66) dX3_numberPlaces_25 (by decide) (fun h25 => ?_) (fun h25 => ?_)
          rotate_left
          · exfalso
            grind
          refine e_inc (1) (by decide) dX3_numberPlaces_66 rfl (by decide) (Nat.le_of_ble_eq_true rfl) ?_
          refine e_goto (tgt := 7) dX3_numberPlaces_69 (by decide) ?_
          exact e_to ih (by first | rfl | (simp [lset]; done) | (simp [lset]; grind)) rfl
        · have hs2 : npS q j i s q 1 (nI j) = nI (sh j) := (npS_fr (by simp) _).trans hshj
          have hp2 : npS q j i s q 4 0 = nI (suS sh j + i) := by rw [npS_4, hp, nI_add]
          have g1 : nI i < nI (sh j) := nI_lt hi (by omega)
          have g2 : nI (suS sh j + i) < 24 := nI_lt (b := 24) (by omega) (by decide)
          have g3 : 0 ≤ nI (suS sh j + i) := nI_pos' (by omega)
          have g4 : nI (i + 1) = nI i + 1 := nI_succ i
          clear hsh
          refine e_iload_n dX3_numberPlaces_18 rfl ?_
          refine e_aload_n dX3_numberPlaces_19 rfl ?_
          refine e_getA kX3 (by first | assumption | exact ⟨by decide, rfl⟩) (by decide) fX3_15 rfl dX3_numberPlaces_20 ?_
          refine e_iload_n dX3_numberPlaces_23 rfl ?_
          refine e_iald (ci := 3) (by first | assumption | exact ⟨by decide, rfl⟩) rfl (vin 6 (by decide) (by grind)) dX3_numberPlaces_24 ?_
          refine e_icmp_ge (tgt := 66) dX3_numberPlaces_25 (by decide) (fun h25 => ?_) (fun h25 => ?_)
          · exfalso
            grind
          refine e_aload_n dX3_numberPlaces_28 rfl ?_
          refine e_getI kX3 (by first | assumption | exact ⟨by decide, rfl⟩) (by decide) fX3_24 rfl dX3_numberPlaces_29 ?_
          refine e_aload_n dX3_numberPlaces_32 rfl ?_
          refine e_getA kX3 (by first | assumption | exact ⟨by decide, rfl⟩) (by decide) fX3_21 rfl dX3_numberPlaces_33 ?_
          refine e_alen (ci := 3) (n := 24) (by first | assumption | exact ⟨by decide, rfl⟩) rfl (by decide) dX3_numberPlaces_36 ?_
          refine e_icmp_ge (tgt := 66) dX3_numberPlaces_37 (by decide) (fun h37 => ?_) (fun h37 => ?_)
          · exfalso
            grind
          refine e_aload_n dX3_numberPlaces_40 rfl ?_
          refine e_getA kX3 (by first | assumption | exact ⟨by decide, rfl⟩) (by decide) fX3_21 rfl dX3_numberPlaces_41 ?_
          refine e_aload_n dX3_numberPlaces_44 rfl ?_
          refine e_getI kX3 (by first | assumption | exact ⟨by decide, rfl⟩) (by decide) fX3_24 rfl dX3_numberPlaces_45 ?_
          refine e_iload_n dX3_numberPlaces_48 rfl ?_
          refine e_iast (ci := 3) (by first | assumption | exact ⟨by decide, rfl⟩) rfl (vin 24 (by decide) (by grind)) dX3_numberPlaces_49 ?_
          refine e_aload_n dX3_numberPlaces_50 rfl ?_
          refine e_dup dX3_numberPlaces_51 ?_
          refine e_getI kX3 (by first | assumption | exact ⟨by decide, rfl⟩) (by decide) fX3_24 rfl dX3_numberPlaces_52 ?_
          refine e_iconst (v := 1) dX3_numberPlaces_55 (by decide) ?_
          refine e_iadd dX3_numberPlaces_56 ?_
          refine e_putI kX3 (by first | assumption | exact ⟨by decide, rfl⟩) (by decide) fX3_24 rfl rfl rfl dX3_numberPlaces_57 ?_
          refine e_inc (1) (by decide) dX3_numberPlaces_60 rfl (by decide) (Nat.le_of_ble_eq_true rfl) ?_
          refine e_goto (tgt := 18) dX3_numberPlaces_63 (by decide) ?_
          exact e_to ih2 (by first | rfl | (simp [lset]; done) | (simp [lset]; grind)) (by show _ = up (up (npS q j i s) q 3 (npS q j i s q 4 0) (nI j)) q 4 0 (npS q j i s q 4 0 + 1); simp [up])
      clear hsh
      refine e_iload_n dX3_numberPlaces_7 rfl ?_
      refine e_aload_n dX3_numberPlaces_8 rfl ?_
      refine e_getA kX3 (by first | assumption | exact ⟨by decide, rfl⟩) (by decide) fX3_15 rfl dX3_numberPlaces_9 ?_
      refine e_alen (ci := 3) (n := 6) (by first | assumption | exact ⟨by decide, rfl⟩) rfl (by decide) dX3_numberPlaces_12 ?_
      refine e_icmp_ge (tgt := 72) dX3_numberPlaces_13 (by decide) (fun h13 => ?_) (fun h13 => ?_)
      · exfalso
        grind
      refine e_iconst (v := 0) dX3_numberPlaces_16 (by decide) ?_
      refine e_istore_n dX3_numberPlaces_17 (by decide) (Nat.le_of_ble_eq_true rfl) ?_
      exact e_to (inner 0 (Nat.zero_le _)) (by first | rfl | (simp [lset]; done) | (simp [lset]; grind)) rfl
  refine e_aload_n dX3_numberPlaces_0 rfl ?_
  refine e_iconst (v := 0) dX3_numberPlaces_1 (by decide) ?_
  refine e_putI kX3 (by first | assumption | exact ⟨by decide, rfl⟩) (by decide) fX3_24 rfl rfl rfl dX3_numberPlaces_2 ?_
  refine e_iconst (v := 0) dX3_numberPlaces_5 (by decide) ?_
  refine e_istore_n dX3_numberPlaces_6 (by decide) (Nat.le_of_ble_eq_true rfl) ?_
  exact e_to (outer 0 (Nat.zero_le _)) (by first | rfl | (simp [lset]; done) | (simp [lset]; grind)) rfl
/-- the lines -/
def rdF (T : Nat → Int32) (N q : Nat) : Nat → rS × rA3 → rS × rA3
  | 0, s => s
  | c + 1, s => if s.2.2.1 = 0 then (if skN T N s.2.1 < N then rdF T N q c (liS T N q s.1 (skN T N s.2.1, s.2.2.1, s.2.2.2), liA T N q s.1 (skN T N s.2.1, s.2.2.1, s.2.2.2)) else (s.1, (skN T N s.2.1, s.2.2.1, s.2.2.2))) else s
theorem and255 (x : Int32) : ¬ x &&& 255 = -1 := by
  intro h
  have h1 : (x &&& 255) &&& 256 = (-1) &&& 256 := by rw [h]
  rw [Int32.and_assoc] at h1
  have h2 : (255 : Int32) &&& 256 = 0 := by decide
  rw [h2, Int32.and_zero] at h1
  exact absurd h1 (by decide)
theorem liS_fr {T : Nat → Int32} {N q : Nat} {σ : rS} {a : rA3} {o' k' : Nat} {i' : Int32} (h : ¬ o' = q) (h2 : ¬ (o' = 2 ∧ k' = 1)) : liS T N q σ a o' k' i' = σ o' k' i' := by
  unfold liS
  split
  · exact buS_fr h
  · split
    · rfl
    · simp only [up]; grind
theorem liA_le {T : Nat → Int32} {N q : Nat} {σ : rS} {a : rA3} (h : a.1 ≤ N) : (liA T N q σ a).1 ≤ N := by
  unfold liA
  split
  · exact aSemi_le (nuA_le (aWord_le (nuA_le (aWord_le (nmA_le (aWord_le h))))))
  · split
    · exact aSemi_le (sm_le h).2
    · exact aSemi_le (nuA_le (sm_le h).2)
theorem nuV_rng {T : Nat → Int32} {N : Nat} {lo hi : Int32} {a : rA3} (h : (nuA T N lo hi a).2.1 = 0) : lo ≤ nuV T N lo hi a ∧ nuV T N lo hi a ≤ hi := by
  unfold nuA at h
  unfold nuV
  split at h
  · rename_i h1
    rw [if_pos h1]
    split at h
    · rename_i h2
      rw [if_pos h2]
      split at h
      · exact absurd (show (2 : Int32) = 0 from h) (by decide)
      · rename_i h3
        rw [if_neg h3]
        grind
    · exact absurd (show (1 : Int32) = 0 from h) (by decide)
  · rename_i h1
    exact absurd h h1
/-- shares within -/
def shB (σ : rS) (q : Nat) : Prop := ∀ b, 0 ≤ b → b < 6 → 0 ≤ σ q 1 b ∧ σ q 1 b ≤ 4
theorem bux_sh {T : Nat → Int32} {N q : Nat} {σ : rS} {v2 v1 : Int32} {a5 : rA3} (h : shB σ q) : shB (if (nuA T N 1 4 a5).2.1 = 0 then sTell σ q v2 v1 (nuV T N 1 4 a5) else σ) q := by
  intro b h1 h2
  have h3 := h b h1 h2
  clear h
  by_cases h6 : (nuA T N 1 4 a5).2.1 = 0
  · rw [if_pos h6]
    have h7 := nuV_rng h6
    clear h6
    generalize nuV T N 1 4 a5 = V at h7 ⊢
    unfold sTell
    split
    · simp only [up]; grind
    · exact h3
  · rw [if_neg h6]
    exact h3
theorem buS_sh {T : Nat → Int32} {N q : Nat} {σ : rS} {a : rA3} (h : shB σ q) : shB (buS T N q σ a) q := by
  unfold buS bu6
  exact bux_sh h
theorem liS_sh {T : Nat → Int32} {N q : Nat} {σ : rS} {a : rA3} (hq : ¬ q = 2) (h : shB σ q) : shB (liS T N q σ a) q := by
  unfold liS
  split
  · exact buS_sh h
  · split
    · exact h
    · intro b h1 h2
      have h3 := h b h1 h2
      clear h
      simp only [up]; grind
theorem rdF_inv {T : Nat → Int32} {N q : Nat} (hq : ¬ q = 2) : ∀ c (s : rS × rA3), s.2.1 ≤ N → shB s.1 q → shB (rdF T N q c s).1 q := by
  intro c
  induction c with
  | zero => intro s _ h; exact h
  | succ c ih =>
    intro s hs h
    rw [rdF]
    split
    · split
      · exact ih (liS T N q s.1 (skN T N s.2.1, s.2.2.1, s.2.2.2), liA T N q s.1 (skN T N s.2.1, s.2.2.1, s.2.2.2)) (liA_le (a := (skN T N s.2.1, s.2.2.1, s.2.2.2)) (sk_le hs).2) (liS_sh hq h)
      · exact h
    · exact h
abbrev shN (σ : rS) (q : Nat) : Nat → Nat := fun j => (σ q 1 (nI j)).toNatClampNeg
theorem shOk_of {σ : rS} {q : Nat} (h : shB σ q) : shOk σ q (shN σ q) := by
  intro j hj
  obtain ⟨f1, f2, f3, f4⟩ := nI_facts 6 hj (Nat.le_refl _) (by decide) rfl
  have h1 := h (nI j) f1 (by have e6 : nI 6 = 6 := rfl; grind)
  exact ⟨(nI_cl (by grind)).symm, by have := cl_le (i := σ q 1 (nI j)) (N := 5) 5 (by decide) ⟨h1.1, by grind⟩; have h5 := cl_lt24 (i := σ q 1 (nI j)) (N := 5) 5 (by decide) ⟨h1.1, by grind⟩; show (σ q 1 (nI j)).toNatClampNeg ≤ 4; omega⟩
