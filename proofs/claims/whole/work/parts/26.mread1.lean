-- the reference's reader: signs and words
def ty (σ : rS) : Nat → Int32 := fun i => σ 8 0 (nI i)
def wtb : List Int32 := [102, 114, 101, 101, 32, 102, 108, 111, 111, 114, 32, 97, 110, 115, 119, 101, 114, 32, 115, 119, 101, 97, 114, 32, 98, 117, 114, 100, 101, 110, 32, 99, 111, 115, 116, 32, 115, 104, 97, 114, 101, 32]
def wst : List Nat := [0, 5, 11, 18, 24, 31, 36, 42]
def wdOk (σ : rS) : Prop := ∀ k, k < 42 → σ 8 30 (nI k) = wtb.getD k 0
theorem wst_ok : ∀ s, s < 7 → wst.getD (s + 1) 0 = wst.getD s 0 + sLn.getD s 0 + 1 ∧ wst.getD s 0 + sLn.getD s 0 < 42 ∧ wtb.getD (wst.getD s 0 + sLn.getD s 0) 0 = 32 ∧ ∀ k, k < sLn.getD s 0 → (wtb.getD (wst.getD s 0 + k) 0 = (sBy.getD s []).getD k 0 ∧ ¬ wtb.getD (wst.getD s 0 + k) 0 = 32) := by decide +kernel
/-- the reader's own four: next, place, kind, which -/
abbrev rM4 : Type := Nat × Int32 × Int32 × Int32
def wt (σ : rS) (m : rM4) : rS := up (up (up (up σ 8 32 0 (nI m.1)) 8 35 0 m.2.1) 8 33 0 m.2.2.1) 8 34 0 m.2.2.2
theorem wt_32 {σ : rS} {m : rM4} : wt σ m 8 32 0 = nI m.1 := by simp [wt, up]
theorem wt_35 {σ : rS} {m : rM4} : wt σ m 8 35 0 = m.2.1 := by simp [wt, up]
theorem wt_33 {σ : rS} {m : rM4} : wt σ m 8 33 0 = m.2.2.1 := by simp [wt, up]
theorem wt_34 {σ : rS} {m : rM4} : wt σ m 8 34 0 = m.2.2.2 := by simp [wt, up]
theorem wt_fr {σ : rS} {m : rM4} {o' k' : Nat} {i' : Int32} (h : ¬ (o' = 8 ∧ (k' = 32 ∨ k' = 33 ∨ k' = 34 ∨ k' = 35))) : wt σ m o' k' i' = σ o' k' i' := by
  simp only [wt, up]; grind
theorem wt_u32 {σ : rS} {n n2 : Nat} {p k w : Int32} : up (wt σ (n, p, k, w)) 8 32 0 (nI n2) = wt σ (n2, p, k, w) := by
  funext o' k' i'; simp only [wt, up]; grind
theorem wt_u35 {σ : rS} {n : Nat} {p p2 k w : Int32} : up (wt σ (n, p, k, w)) 8 35 0 p2 = wt σ (n, p2, k, w) := by
  funext o' k' i'; simp only [wt, up]; grind
theorem wt_u33 {σ : rS} {n : Nat} {p k k2 w : Int32} : up (wt σ (n, p, k, w)) 8 33 0 k2 = wt σ (n, p, k2, w) := by
  funext o' k' i'; simp only [wt, up]; grind
theorem wt_u34 {σ : rS} {n : Nat} {p k w w2 : Int32} : up (wt σ (n, p, k, w)) 8 34 0 w2 = wt σ (n, p, k, w2) := by
  funext o' k' i'; simp only [wt, up]; grind
theorem wt_up {σ : rS} {m : rM4} {o k : Nat} {i v : Int32} (h : ¬ (o = 8 ∧ (k = 32 ∨ k = 33 ∨ k = 34 ∨ k = 35))) : up (wt σ m) o k i v = wt (up σ o k i v) m := by
  funext o' k' i'; simp only [wt, up]; grind
theorem wt_ty {σ : rS} {m : rM4} : ty (wt σ m) = ty σ := by
  funext i; unfold ty; rw [wt_fr (by decide)]
theorem c_X6_isSmall {σ : rS} {N j : Nat} (hN : σ 8 31 0 = nI N) (hN2 : N ≤ 600) (hj : j ≤ N) : Ct mX6_isSmall [.inr (8, 0), .inl (nI j)] σ (some (.inl (bI (j < N ∧ smB (ty σ j) = true)))) σ := by
  refine C_of_E rfl rfl (Nat.le_of_ble_eq_true rfl) ?_
  have hjN : nI j < nI N ↔ j < N := nI_ltI (by omega) (by omega)
  have hj0 : 0 ≤ nI j := nI_pos' (by omega)
  have hj6 : nI N ≤ 600 := nI_le (b := 600) hN2 (by decide)
  have hsm : smB (ty σ j) = true ↔ (97 ≤ σ 8 0 (nI j) ∧ σ 8 0 (nI j) ≤ 122) := by unfold smB ty; exact decide_eq_true_iff
  rw [bI_eq (p := j < N ∧ smB (ty σ j) = true) (q := nI j < nI N ∧ (97 ≤ σ 8 0 (nI j) ∧ σ 8 0 (nI j) ≤ 122)) (by rw [hjN, hsm])]
  clear hjN hsm
  refine e_iload_n dX6_isSmall_0 rfl ?_
  refine e_aload_n dX6_isSmall_1 rfl ?_
  refine e_getI kX6 (by first | assumption | exact ⟨by decide, rfl⟩) (by decide) fX6_84 rfl dX6_isSmall_2 ?_
  refine e_icmp_ge (tgt := 34) dX6_isSmall_5 (by decide) (fun h5 => ?_) (fun h5 => ?_)
  ·
    refine e_iconst (v := 0) dX6_isSmall_34 (by decide) ?_
    exact e_ret0 rfl dX6_isSmall_35 (by grind) rfl
  ·
    refine e_aload_n dX6_isSmall_8 rfl ?_
    refine e_getA kX6 (by first | assumption | exact ⟨by decide, rfl⟩) (by decide) fX6_7 rfl dX6_isSmall_9 ?_
    refine e_iload_n dX6_isSmall_12 rfl ?_
    refine e_iald (ci := 6) (by first | assumption | exact ⟨by decide, rfl⟩) rfl (vin 600 (by decide) (by grind)) dX6_isSmall_13 ?_
    refine e_bipush (v := 97) dX6_isSmall_14 (by decide) ?_
    refine e_icmp_lt (tgt := 34) dX6_isSmall_16 (by decide) (fun h16 => ?_) (fun h16 => ?_)
    ·
      refine e_iconst (v := 0) dX6_isSmall_34 (by decide) ?_
      exact e_ret0 rfl dX6_isSmall_35 (by grind) rfl
    ·
      refine e_aload_n dX6_isSmall_19 rfl ?_
      refine e_getA kX6 (by first | assumption | exact ⟨by decide, rfl⟩) (by decide) fX6_7 rfl dX6_isSmall_20 ?_
      refine e_iload_n dX6_isSmall_23 rfl ?_
      refine e_iald (ci := 6) (by first | assumption | exact ⟨by decide, rfl⟩) rfl (vin 600 (by decide) (by grind)) dX6_isSmall_24 ?_
      refine e_bipush (v := 122) dX6_isSmall_25 (by decide) ?_
      refine e_icmp_gt (tgt := 34) dX6_isSmall_27 (by decide) (fun h27 => ?_) (fun h27 => ?_)
      ·
        refine e_iconst (v := 0) dX6_isSmall_34 (by decide) ?_
        exact e_ret0 rfl dX6_isSmall_35 (by grind) rfl
      ·
        refine e_iconst (v := 1) dX6_isSmall_30 (by decide) ?_
        refine e_goto (tgt := 35) dX6_isSmall_31 (by decide) ?_
        exact e_ret1 rfl dX6_isSmall_35 (by grind) rfl
theorem c_X6_isDigit {σ : rS} {N j : Nat} (hN : σ 8 31 0 = nI N) (hN2 : N ≤ 600) (hj : j ≤ N) : Ct mX6_isDigit [.inr (8, 0), .inl (nI j)] σ (some (.inl (bI (j < N ∧ dgB (ty σ j) = true)))) σ := by
  refine C_of_E rfl rfl (Nat.le_of_ble_eq_true rfl) ?_
  have hjN : nI j < nI N ↔ j < N := nI_ltI (by omega) (by omega)
  have hj0 : 0 ≤ nI j := nI_pos' (by omega)
  have hj6 : nI N ≤ 600 := nI_le (b := 600) hN2 (by decide)
  have hsm : dgB (ty σ j) = true ↔ (48 ≤ σ 8 0 (nI j) ∧ σ 8 0 (nI j) ≤ 57) := by unfold dgB ty; exact decide_eq_true_iff
  rw [bI_eq (p := j < N ∧ dgB (ty σ j) = true) (q := nI j < nI N ∧ (48 ≤ σ 8 0 (nI j) ∧ σ 8 0 (nI j) ≤ 57)) (by rw [hjN, hsm])]
  clear hjN hsm
  refine e_iload_n dX6_isDigit_0 rfl ?_
  refine e_aload_n dX6_isDigit_1 rfl ?_
  refine e_getI kX6 (by first | assumption | exact ⟨by decide, rfl⟩) (by decide) fX6_84 rfl dX6_isDigit_2 ?_
  refine e_icmp_ge (tgt := 34) dX6_isDigit_5 (by decide) (fun h5 => ?_) (fun h5 => ?_)
  ·
    refine e_iconst (v := 0) dX6_isDigit_34 (by decide) ?_
    exact e_ret0 rfl dX6_isDigit_35 (by grind) rfl
  ·
    refine e_aload_n dX6_isDigit_8 rfl ?_
    refine e_getA kX6 (by first | assumption | exact ⟨by decide, rfl⟩) (by decide) fX6_7 rfl dX6_isDigit_9 ?_
    refine e_iload_n dX6_isDigit_12 rfl ?_
    refine e_iald (ci := 6) (by first | assumption | exact ⟨by decide, rfl⟩) rfl (vin 600 (by decide) (by grind)) dX6_isDigit_13 ?_
    refine e_bipush (v := 48) dX6_isDigit_14 (by decide) ?_
    refine e_icmp_lt (tgt := 34) dX6_isDigit_16 (by decide) (fun h16 => ?_) (fun h16 => ?_)
    ·
      refine e_iconst (v := 0) dX6_isDigit_34 (by decide) ?_
      exact e_ret0 rfl dX6_isDigit_35 (by grind) rfl
    ·
      refine e_aload_n dX6_isDigit_19 rfl ?_
      refine e_getA kX6 (by first | assumption | exact ⟨by decide, rfl⟩) (by decide) fX6_7 rfl dX6_isDigit_20 ?_
      refine e_iload_n dX6_isDigit_23 rfl ?_
      refine e_iald (ci := 6) (by first | assumption | exact ⟨by decide, rfl⟩) rfl (vin 600 (by decide) (by grind)) dX6_isDigit_24 ?_
      refine e_bipush (v := 57) dX6_isDigit_25 (by decide) ?_
      refine e_icmp_gt (tgt := 34) dX6_isDigit_27 (by decide) (fun h27 => ?_) (fun h27 => ?_)
      ·
        refine e_iconst (v := 0) dX6_isDigit_34 (by decide) ?_
        exact e_ret0 rfl dX6_isDigit_35 (by grind) rfl
      ·
        refine e_iconst (v := 1) dX6_isDigit_30 (by decide) ?_
        refine e_goto (tgt := 35) dX6_isDigit_31 (by decide) ?_
        exact e_ret1 rfl dX6_isDigit_35 (by grind) rfl
/-- does the word s stand from i to e -/
def wE (T : Nat → Int32) (i e s : Nat) : Bool := decide (e - i = sLn.getD s 0) && cmpF T i s (sLn.getD s 0) 0
def waF (T : Nat → Int32) (i e : Nat) : Nat → Nat → Int32
  | 0, _ => -1
  | c + 1, s => if wE T i e s = true then nI (s + 1) else waF T i e c (s + 1)
theorem c_X6_wordAt {σ : rS} {i e : Nat} (hw : wdOk σ) (hie : i ≤ e) (he : e ≤ 600) : Ct mX6_wordAt [.inr (8, 0), .inl (nI i), .inl (nI e)] σ (some (.inl (waF (ty σ) i e 7 0))) σ := by
  refine C_of_E rfl rfl (Nat.le_of_ble_eq_true rfl) ?_
  have hsub : nI e - nI i = nI (e - i) := pk_sub hie
  have outer : ∀ c s, s + c = 7 → E mX6_wordAt 5 [.inr (8, 0), .inl (nI i), .inl (nI e), .inl (nI (s + 1)), .inl (nI (wst.getD s 0))] [] σ (some (.inl (waF (ty σ) i e c s))) σ := by
    intro c
    induction c with
    | zero =>
      intro s hs
      have h7 : s = 7 := by omega
      subst h7
      have e42 : nI (wst.getD 7 0) = 42 := rfl
      clear hw
      refine e_iload dX6_wordAt_5 rfl ?_
      refine e_aload_n dX6_wordAt_7 rfl ?_
      refine e_getA kX6 (by first | assumption | exact ⟨by decide, rfl⟩) (by decide) fX6_72 rfl dX6_wordAt_8 ?_
      refine e_alen (ci := 6) (n := 42) (by first | assumption | exact ⟨by decide, rfl⟩) rfl (by decide) dX6_wordAt_11 ?_
      refine e_icmp_ge (tgt := 126) dX6_wordAt_12 (by decide) (fun h12 => ?_) (fun h12 => ?_)
      rotate_left
      · exfalso
        grind
      refine e_iconst (v := -1) dX6_wordAt_126 (by decide) ?_
      exact e_ireq rfl rfl dX6_wordAt_127 (by first | rfl | grind) rfl
    | succ c ih =>
      intro s hs
      obtain ⟨w1, w2, w3, w4⟩ := wst_ok s (by omega)
      have hl12 := sLn_lt s (by omega)
      have hat : nI (wst.getD s 0) < 42 := nI_lt (b := 42) (by omega) (by decide)
      have hat0 : 0 ≤ nI (wst.getD s 0) := nI_pos' (by omega)
      have ihx := ih (s + 1) (by omega)
      clear ih
      -- the rest behind the comparison
      have tail : ∀ b : Int32, (b = bI (wE (ty σ) i e s = true)) → ∀ v : rV, E mX6_wordAt 104 [.inr (8, 0), .inl (nI i), .inl (nI e), .inl (nI (s + 1)), .inl (nI (wst.getD s 0)), .inl (nI (sLn.getD s 0)), .inl b, v] [] σ (some (.inl (waF (ty σ) i e (c + 1) s))) σ := by
        intro b hb v
        subst hb
        rw [waF]
        have eat : nI (wst.getD s 0) + (nI (sLn.getD s 0) + 1) = nI (wst.getD (s + 1) 0) := by rw [w1, ← nI_succ, nI_add]; rfl
        clear hw w4
        refine e_iload dX6_wordAt_104 rfl ?_
        refine e_if_eqB (tgt := 111) dX6_wordAt_106 (by decide) (fun h106 => ?_) (fun h106 => ?_)
        ·
          rw [if_neg (by assumption)]
          refine e_iload dX6_wordAt_111 rfl ?_
          refine e_iload dX6_wordAt_113 rfl ?_
          refine e_iconst (v := 1) dX6_wordAt_115 (by decide) ?_
          refine e_iadd dX6_wordAt_116 ?_
          refine e_iadd dX6_wordAt_117 ?_
          rw [eat]
          refine e_istore dX6_wordAt_118 (by decide) (Nat.le_of_ble_eq_true rfl) ?_
          refine e_inc (1) (by decide) dX6_wordAt_120 rfl (by decide) (Nat.le_of_ble_eq_true rfl) ?_
          refine e_goto (tgt := 5) dX6_wordAt_123 (by decide) ?_
          exact e_to ihx (by simp [lset, nI_succ]) rfl
        ·
          rw [if_pos (by assumption)]
          refine e_iload_n dX6_wordAt_109 rfl ?_
          exact e_ireq rfl rfl dX6_wordAt_110 (by first | rfl | grind) rfl
      have brk : wE (ty σ) i e s = false → ∀ x : Int32, E mX6_wordAt 57 [.inr (8, 0), .inl (nI i), .inl (nI e), .inl (nI (s + 1)), .inl (nI (wst.getD s 0)), .inl (nI (sLn.getD s 0)), .inl 0, .inl x] [] σ (some (.inl (waF (ty σ) i e (c + 1) s))) σ := by
        intro hf x
        have tl := tail 0 (by rw [hf]; rfl) (.inl x)
        clear hw w4 tail
        refine e_iload dX6_wordAt_57 rfl ?_
        refine e_iload dX6_wordAt_59 rfl ?_
        refine e_icmp_ge (tgt := 104) dX6_wordAt_61 (by decide) (fun h61 => ?_) (fun h61 => ?_)
        ·
          exact e_to tl rfl rfl
        ·
          refine e_iload dX6_wordAt_64 rfl ?_
          refine e_if_eq (tgt := 104) dX6_wordAt_66 (by decide) (fun h66 => ?_) (fun h66 => ?_)
          rotate_left
          · exfalso
            grind
          exact e_to tl rfl rfl
      have cmp : e - i = sLn.getD s 0 → ∀ d k, k + d = sLn.getD s 0 → wE (ty σ) i e s = cmpF (ty σ) i s d k → E mX6_wordAt 57 [.inr (8, 0), .inl (nI i), .inl (nI e), .inl (nI (s + 1)), .inl (nI (wst.getD s 0)), .inl (nI (sLn.getD s 0)), .inl 1, .inl (nI k)] [] σ (some (.inl (waF (ty σ) i e (c + 1) s))) σ := by
        intro hlen d
        induction d with
        | zero =>
          intro k hk hcm
          have hkl : nI (sLn.getD s 0) ≤ nI k := nI_le (by omega) (by omega)
          have tl := tail 1 (by rw [hcm]; rfl) (.inl (nI k))
          clear hw w4 tail
          refine e_iload dX6_wordAt_57 rfl ?_
          refine e_iload dX6_wordAt_59 rfl ?_
          refine e_icmp_ge (tgt := 104) dX6_wordAt_61 (by decide) (fun h61 => ?_) (fun h61 => ?_)
          rotate_left
          · exfalso
            grind
          exact e_to tl rfl rfl
        | succ d ihd =>
          intro k hk hcm
          have hkl : nI k < nI (sLn.getD s 0) := nI_lt (by omega) (by omega)
          have hk0 : 0 ≤ nI k := nI_pos' (by omega)
          have e1 : cmpF (ty σ) i s (d + 1) k = (decide (ty σ (i + k) = (sBy.getD s []).getD k 0) && cmpF (ty σ) i s d (k + 1)) := rfl
          have hwk : σ 8 30 (nI (wst.getD s 0 + k)) = (sBy.getD s []).getD k 0 := (hw _ (by omega)).trans (w4 k (by omega)).1
          have hik : nI i + nI k = nI (i + k) := nI_add i k
          have hwi : nI (wst.getD s 0) + nI k = nI (wst.getD s 0 + k) := nI_add _ _
          have b1 : 0 ≤ nI (wst.getD s 0 + k) ∧ nI (wst.getD s 0 + k) < 42 := ⟨nI_pos' (by omega), nI_lt (b := 42) (by omega) (by decide)⟩
          have b2 : 0 ≤ nI (i + k) ∧ nI (i + k) < 600 := ⟨nI_pos' (by omega), nI_lt (b := 600) (by omega) (by decide)⟩
          have hty : σ 8 0 (nI (i + k)) = ty σ (i + k) := rfl
          have tl : ¬ ty σ (i + k) = (sBy.getD s []).getD k 0 → wE (ty σ) i e s = false := fun hne => by rw [hcm, e1, decide_eq_false hne, Bool.false_and]
          have ihe : ty σ (i + k) = (sBy.getD s []).getD k 0 → _ := fun heq => ihd (k + 1) (by omega) (by rw [hcm, e1, decide_eq_true heq, Bool.true_and])
          clear hw w4 tail ihd hcm
          -- a step of the comparison; where it fails, one more look at the head
          refine e_iload dX6_wordAt_57 rfl ?_
          refine e_iload dX6_wordAt_59 rfl ?_
          refine e_icmp_ge (tgt := 104) dX6_wordAt_61 (by decide) (fun h61 => ?_) (fun h61 => ?_)
          · exfalso
            grind
          refine e_iload dX6_wordAt_64 rfl ?_
          refine e_if_eq (tgt := 104) dX6_wordAt_66 (by decide) (fun h66 => ?_) (fun h66 => ?_)
          · exfalso
            grind
          refine e_aload_n dX6_wordAt_69 rfl ?_
          refine e_getA kX6 (by first | assumption | exact ⟨by decide, rfl⟩) (by decide) fX6_72 rfl dX6_wordAt_70 ?_
          refine e_iload dX6_wordAt_73 rfl ?_
          refine e_iload dX6_wordAt_75 rfl ?_
          refine e_iadd dX6_wordAt_77 ?_
          rw [hwi]
          refine e_iald (ci := 6) (by first | assumption | exact ⟨by decide, rfl⟩) rfl (vin 42 (by decide) b1) dX6_wordAt_78 ?_
          rw [hwk]
          refine e_aload_n dX6_wordAt_79 rfl ?_
          refine e_getA kX6 (by first | assumption | exact ⟨by decide, rfl⟩) (by decide) fX6_7 rfl dX6_wordAt_80 ?_
          refine e_iload_n dX6_wordAt_83 rfl ?_
          refine e_iload dX6_wordAt_84 rfl ?_
          refine e_iadd dX6_wordAt_86 ?_
          rw [hik]
          refine e_iald (ci := 6) (by first | assumption | exact ⟨by decide, rfl⟩) rfl (vin 600 (by decide) b2) dX6_wordAt_87 ?_
          rw [hty]
          refine e_icmp_ne (tgt := 95) dX6_wordAt_88 (by decide) (fun h88 => ?_) (fun h88 => ?_)
          ·
            refine e_iconst (v := 0) dX6_wordAt_95 (by decide) ?_
            refine e_istore dX6_wordAt_96 (by decide) (Nat.le_of_ble_eq_true rfl) ?_
            refine e_inc (1) (by decide) dX6_wordAt_98 rfl (by decide) (Nat.le_of_ble_eq_true rfl) ?_
            refine e_goto (tgt := 57) dX6_wordAt_101 (by decide) ?_
            first | exact e_to (ihe (by first | assumption | exact Eq.symm (by assumption))) (by simp [lset, nI_succ]) rfl | exact e_to (brk (tl (fun z => absurd z.symm (by assumption))) (nI k + 1)) rfl rfl
          ·
            refine e_iconst (v := 1) dX6_wordAt_91 (by decide) ?_
            refine e_goto (tgt := 96) dX6_wordAt_92 (by decide) ?_
            refine e_istore dX6_wordAt_96 (by decide) (Nat.le_of_ble_eq_true rfl) ?_
            refine e_inc (1) (by decide) dX6_wordAt_98 rfl (by decide) (Nat.le_of_ble_eq_true rfl) ?_
            refine e_goto (tgt := 57) dX6_wordAt_101 (by decide) ?_
            first | exact e_to (ihe (by first | assumption | exact Eq.symm (by assumption))) (by simp [lset, nI_succ]) rfl | exact e_to (brk (tl (fun z => absurd z.symm (by assumption))) (nI k + 1)) rfl rfl
      have scan : ∀ n, n ≤ sLn.getD s 0 → E mX6_wordAt 18 [.inr (8, 0), .inl (nI i), .inl (nI e), .inl (nI (s + 1)), .inl (nI (wst.getD s 0)), .inl (nI n)] [] σ (some (.inl (waF (ty σ) i e (c + 1) s))) σ := by
        refine dn_ind (sLn.getD s 0) _ ?_ (fun n hn ihn => ?_)
        · have hwi : nI (wst.getD s 0) + nI (sLn.getD s 0) = nI (wst.getD s 0 + sLn.getD s 0) := nI_add _ _
          have hwv : σ 8 30 (nI (wst.getD s 0 + sLn.getD s 0)) = 32 := (hw _ w2).trans w3
          have b1 : 0 ≤ nI (wst.getD s 0 + sLn.getD s 0) ∧ nI (wst.getD s 0 + sLn.getD s 0) < 42 := ⟨nI_pos' (by omega), nI_lt (b := 42) (by omega) (by decide)⟩
          have hqe : nI (sLn.getD s 0) = nI (e - i) ↔ sLn.getD s 0 = e - i := nI_eq (by omega) (by omega)
          have c1 : nI (sLn.getD s 0) = nI (e - i) → E mX6_wordAt 57 [.inr (8, 0), .inl (nI i), .inl (nI e), .inl (nI (s + 1)), .inl (nI (wst.getD s 0)), .inl (nI (sLn.getD s 0)), .inl 1, .inl (nI 0)] [] σ (some (.inl (waF (ty σ) i e (c + 1) s))) σ := fun h => cmp (hqe.mp h).symm (sLn.getD s 0) 0 (by omega) (by unfold wE; rw [decide_eq_true (hqe.mp h).symm, Bool.true_and])
          have c0 : ¬ nI (sLn.getD s 0) = nI (e - i) → E mX6_wordAt 57 [.inr (8, 0), .inl (nI i), .inl (nI e), .inl (nI (s + 1)), .inl (nI (wst.getD s 0)), .inl (nI (sLn.getD s 0)), .inl 0, .inl (nI 0)] [] σ (some (.inl (waF (ty σ) i e (c + 1) s))) σ := fun h => brk (by unfold wE; rw [decide_eq_false (fun z => h (hqe.mpr z.symm)), Bool.false_and]) _
          clear hw w4 tail brk cmp hqe
          refine e_aload_n dX6_wordAt_18 rfl ?_
          refine e_getA kX6 (by first | assumption | exact ⟨by decide, rfl⟩) (by decide) fX6_72 rfl dX6_wordAt_19 ?_
          refine e_iload dX6_wordAt_22 rfl ?_
          refine e_iload dX6_wordAt_24 rfl ?_
          refine e_iadd dX6_wordAt_26 ?_
          rw [hwi]
          refine e_iald (ci := 6) (by first | assumption | exact ⟨by decide, rfl⟩) rfl (vin 42 (by decide) b1) dX6_wordAt_27 ?_
          rw [hwv]
          refine e_bipush (v := 32) dX6_wordAt_28 (by decide) ?_
          refine e_icmp_eq (tgt := 39) dX6_wordAt_30 (by decide) (fun h30 => ?_) (fun h30 => ?_)
          rotate_left
          · exfalso
            grind
          refine e_iload dX6_wordAt_39 rfl ?_
          refine e_iload_n dX6_wordAt_41 rfl ?_
          refine e_iload_n dX6_wordAt_42 rfl ?_
          refine e_isub dX6_wordAt_43 ?_
          rw [hsub]
          refine e_icmp_ne (tgt := 51) dX6_wordAt_44 (by decide) (fun h44 => ?_) (fun h44 => ?_)
          ·
            refine e_iconst (v := 0) dX6_wordAt_51 (by decide) ?_
            refine e_istore dX6_wordAt_52 (by decide) (Nat.le_of_ble_eq_true rfl) ?_
            refine e_iconst (v := 0) dX6_wordAt_54 (by decide) ?_
            refine e_istore dX6_wordAt_55 (by decide) (Nat.le_of_ble_eq_true rfl) ?_
            first | exact e_to (c1 (by assumption)) rfl rfl | exact e_to (c0 (by assumption)) rfl rfl
          ·
            refine e_iconst (v := 1) dX6_wordAt_47 (by decide) ?_
            refine e_goto (tgt := 52) dX6_wordAt_48 (by decide) ?_
            refine e_istore dX6_wordAt_52 (by decide) (Nat.le_of_ble_eq_true rfl) ?_
            refine e_iconst (v := 0) dX6_wordAt_54 (by decide) ?_
            refine e_istore dX6_wordAt_55 (by decide) (Nat.le_of_ble_eq_true rfl) ?_
            first | exact e_to (c1 (by assumption)) rfl rfl | exact e_to (c0 (by assumption)) rfl rfl
        · have hwi : nI (wst.getD s 0) + nI n = nI (wst.getD s 0 + n) := nI_add _ _
          have hwv : ¬ σ 8 30 (nI (wst.getD s 0 + n)) = 32 := by rw [hw _ (by omega)]; exact (w4 n hn).2
          have b1 : 0 ≤ nI (wst.getD s 0 + n) ∧ nI (wst.getD s 0 + n) < 42 := ⟨nI_pos' (by omega), nI_lt (b := 42) (by omega) (by decide)⟩
          clear hw w4 tail brk cmp
          refine e_aload_n dX6_wordAt_18 rfl ?_
          refine e_getA kX6 (by first | assumption | exact ⟨by decide, rfl⟩) (by decide) fX6_72 rfl dX6_wordAt_19 ?_
          refine e_iload dX6_wordAt_22 rfl ?_
          refine e_iload dX6_wordAt_24 rfl ?_
          refine e_iadd dX6_wordAt_26 ?_
          rw [hwi]
          refine e_iald (ci := 6) (by first | assumption | exact ⟨by decide, rfl⟩) rfl (vin 42 (by decide) b1) dX6_wordAt_27 ?_
          refine e_bipush (v := 32) dX6_wordAt_28 (by decide) ?_
          refine e_icmp_eq (tgt := 39) dX6_wordAt_30 (by decide) (fun h30 => ?_) (fun h30 => ?_)
          · exfalso
            grind
          refine e_inc (1) (by decide) dX6_wordAt_33 rfl (by decide) (Nat.le_of_ble_eq_true rfl) ?_
          refine e_goto (tgt := 18) dX6_wordAt_36 (by decide) ?_
          exact e_to ihn (by simp [lset, nI_succ]) rfl
      clear hw w4 tail brk cmp
      refine e_iload dX6_wordAt_5 rfl ?_
      refine e_aload_n dX6_wordAt_7 rfl ?_
      refine e_getA kX6 (by first | assumption | exact ⟨by decide, rfl⟩) (by decide) fX6_72 rfl dX6_wordAt_8 ?_
      refine e_alen (ci := 6) (n := 42) (by first | assumption | exact ⟨by decide, rfl⟩) rfl (by decide) dX6_wordAt_11 ?_
      refine e_icmp_ge (tgt := 126) dX6_wordAt_12 (by decide) (fun h12 => ?_) (fun h12 => ?_)
      · exfalso
        grind
      refine e_iconst (v := 0) dX6_wordAt_15 (by decide) ?_
      refine e_istore dX6_wordAt_16 (by decide) (Nat.le_of_ble_eq_true rfl) ?_
      exact e_to (scan 0 (Nat.zero_le _)) rfl rfl
  clear hw
  refine e_iconst (v := 1) dX6_wordAt_0 (by decide) ?_
  refine e_istore_n dX6_wordAt_1 (by decide) (Nat.le_of_ble_eq_true rfl) ?_
  refine e_iconst (v := 0) dX6_wordAt_2 (by decide) ?_
  refine e_istore dX6_wordAt_3 (by decide) (Nat.le_of_ble_eq_true rfl) ?_
  exact e_to (outer 7 0 rfl) rfl rfl
