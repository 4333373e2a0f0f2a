-- the two readers in step: a whole line
theorem buM_1 {σ : rS} {m1 m2 m3 m4 m5 m6 : rM4} (h : (buM σ m1 m2 m3 m4 m5 m6).1 = 1) : 1 ≤ m5.2.2.2 ∧ buM σ m1 m2 m3 m4 m5 m6 = (1, up (up (up (up σ 8 36 0 m3.2.2.2) 8 3 (6 + m1.2.2.2 - 65) m3.2.2.2) 8 36 0 m5.2.2.2) 8 4 (6 + m1.2.2.2 - 65) m5.2.2.2, m6) := by
  have h01 : ¬ (0 : Int32) = 1 := by decide
  unfold buM at h ⊢
  by_cases q1 : m1.2.2.1 = 2
  · rw [if_pos q1] at h ⊢
    by_cases q2 : 0 < σ 8 4 (6 + m1.2.2.2 - 65)
    · rw [if_pos q2] at h; exact absurd h h01
    · rw [if_neg q2] at h ⊢
      by_cases q3 : wdB m2 6
      · rw [if_pos q3] at h ⊢
        by_cases q4 : nbB m3 1 10000
        · rw [if_pos q4] at h ⊢
          by_cases q5 : wdB m4 7
          · rw [if_pos q5] at h ⊢
            by_cases q6 : nbB m5 1 4
            · rw [if_pos q6]; exact ⟨q6.2.1, rfl⟩
            · rw [if_neg q6] at h; exact absurd h h01
          · rw [if_neg q5] at h; exact absurd h h01
        · rw [if_neg q4] at h; exact absurd h h01
      · rw [if_neg q3] at h; exact absurd h h01
  · rw [if_neg q1] at h; exact absurd h h01
theorem buS_at {T : Nat → Int32} {N q : Nat} {σ : rS} {a b a2 a3 a4 a5 a6 : rA3} (e1 : aWord T N 4 a = b) (e2 : nmA T N (gSh σ q) b = a2) (e3 : aWord T N 5 a2 = a3) (e4 : nuA T N 1 10000 a3 = a4) (e5 : aWord T N 6 a4 = a5) (e6 : nuA T N 1 4 a5 = a6) : bu6 T N (gSh σ q) a = a6 ∧ buS T N q σ a = if a6.2.1 = 0 then sTell σ q (nmV T N (gSh σ q) b) (nuV T N 1 10000 a3) (nuV T N 1 4 a5) else σ := by
  unfold buS bu6 bu5 bu4 bu3 bu2 bu1
  rw [e1, e2, e3, e4, e5, e6]
  exact ⟨rfl, rfl⟩
theorem ex_eq {α : Type} (x : α) : ∃ y, x = y := ⟨x, rfl⟩
/-- what is asked of a line on both sides -/
def lnOk (A : rA3) (S : rS) (L : Int32 × rS × rM4) (w : Int32) (q : Nat) : Prop :=
  (L.1 = 1 → L.2.2.2.2.1 = 4 → A = (L.2.2.1, 0, w) ∧ Dr S L.2.1 q) ∧ (L.1 = 1 → ¬ L.2.2.2.2.1 = 4 → A.2.1 = 1 ∧ A.2.2 = L.2.2.2.1) ∧ (¬ L.1 = 1 → ¬ A.2.1 = 0 ∧ A.2.1 = L.2.1 8 8 0 ∧ A.2.2 = L.2.1 8 9 0)
theorem ln_fail {A : rA3} {S μ : rS} {m : rM4} {w k at_ : Int32} {q : Nat} (h : A.2.1 = k) (h0 : ¬ k = 0) (h2 : A.2.2 = at_) : lnOk A S (0, wg μ k at_, m) w q := by
  refine ⟨fun z => absurd (show (0 : Int32) = 1 from z) (by decide), fun z => absurd (show (0 : Int32) = 1 from z) (by decide), fun _ => ⟨by rw [h]; exact h0, ?_, ?_⟩⟩
  · dsimp only; rw [ft_wg.1]; exact h
  · dsimp only; rw [ft_wg.2]; exact h2
theorem st_line {T : Nat → Int32} {N q : Nat} {w : Int32} {τ μ : rS} {m0 : rM4} (hb : bT T) (hm : m0.1 ≤ N) (hq : ¬ q = 2) (hD : Dr τ μ q) (m : rM4) (em : m = tkF T N m0) (p : Nat) (ep : p = skN T N m0.1) (L : Int32 × rS × rM4) (hL : L = liM T N μ m) : lnOk (liA T N q τ (p, 0, w)) (liS T N q τ (p, 0, w)) L w q := by
  have hpl : m.2.1 = nI p := by rw [em, ep]; exact tk_pl
  have hml : m.1 ≤ N := by rw [em]; exact (tkF_le hm).1
  have hsk : skN T N p = p := by rw [ep]; exact sk_idem hm
  have hid : tkF T N (p, 0, 0, m0.2.2.2) = m := by rw [em, ep]; exact tk_idem hm
  have h17 : w17 m := by rw [em]; exact tkF_w17
  unfold liM at hL
  by_cases q1 : m.2.2.1 = 1 ∧ m.2.2.2 ≤ 5
  · rw [if_pos q1] at hL
    obtain ⟨w1, w2, w3⟩ := tk_wh (T := T) (N := N) (m := m0) (by rw [← em]; exact q1.1)
    rw [← em, ← ep] at w2
    rw [← em, ← ep] at w3
    have hr := h17 q1.1
    have eps : psF T N p 4 0 = if 1 ≤ m.2.2.2 ∧ m.2.2.2 ≤ 4 then m.2.2.2 - 1 else -1 := by rw [ps_wa, ← w2]
    by_cases q2 : m.2.2.2 = 5
    · rw [if_pos q2] at hL
      have ps : psF T N p 4 0 = -1 := by rw [eps, if_neg (by rw [q2]; decide)]
      have eA : liA T N q τ (p, 0, w) = aSemi T N (bu6 T N (gSh τ q) (p, 0, w)) := if_pos ps
      have eS : liS T N q τ (p, 0, w) = buS T N q τ (p, 0, w) := if_pos ps
      have e1 : bu1 T N (p, 0, w) = (m.1, 0, w) := by
        have h := st_word (T := T) (N := N) (i := p) (s := 4) (w := w) (m0 := (p, 0, 0, m0.2.2.2)) (by decide) rfl
        rw [hid, if_pos ⟨q1.1, q2⟩] at h
        exact h
      have hsh : ∀ b, 0 ≤ b → b < 6 → gSh τ q b = μ 8 4 (6 + b) := fun b h1 h2 => (if_pos ⟨h1, h2⟩).trans (hD.1 b h1 h2).1
      obtain ⟨a2, e2⟩ := ex_eq (nmA T N (gSh τ q) (m.1, 0, w))
      obtain ⟨a3, e3⟩ := ex_eq (aWord T N 5 a2)
      obtain ⟨a4, e4⟩ := ex_eq (nuA T N 1 10000 a3)
      obtain ⟨a5, e5⟩ := ex_eq (aWord T N 6 a4)
      obtain ⟨A6, e6⟩ := ex_eq (nuA T N 1 4 a5)
      have SB := st_burden (T := T) (N := N) (w := w) (sh := gSh τ q) (μ := μ) (m := m) hb hml hsh L hL a2 a3 a4 a5 A6 e2.symm e3.symm e4.symm e5.symm e6.symm
      obtain ⟨x1, x2⟩ := buS_at e1 e2 e3 e4 e5 e6
      rw [eA, eS, x1, x2]
      generalize nmV T N (gSh τ q) (m.1, 0, w) = V1 at SB
      generalize nuV T N 1 10000 a3 = V2 at SB
      generalize nuV T N 1 4 a5 = V3 at SB
      clear eA eS x1 x2 e2 e3 e4 e5 e6 e1 eps hsh
      by_cases g : L.1 = 1
      · obtain ⟨s1, s2, s3, s4, s5⟩ := SB.1 g
        have k2 := tkF_k2 s5
        have g2 := g
        rw [hL] at g2
        obtain ⟨b5, bE⟩ := buM_1 g2
        rw [← hL] at bE
        have sm := st_semi (T := T) (N := N) (i := (ka5 T N m).1) (w := w) (m0 := ka5 T N m) rfl
        have p6 := tk_pl (T := T) (N := N) (m := ka5 T N m)
        refine ⟨fun _ g4 => ?_, fun _ g4 => ?_, fun gn => absurd g gn⟩
        · rw [bE] at g4 ⊢
          dsimp only at g4 ⊢
          have g4' : (tkF T N (ka5 T N m)).2.2.1 = 4 := g4
          rw [if_pos g4'] at sm
          rw [s1]
          refine ⟨sm, ?_⟩
          rw [if_pos (show (((ka5 T N m).1, (0 : Int32), w) : rA3).2.1 = 0 from rfl), s2, s3, s4]
          exact Dr_burden hq k2 b5 hD
        · rw [bE] at g4 ⊢
          dsimp only at g4 ⊢
          have g4' : ¬ (tkF T N (ka5 T N m)).2.2.1 = 4 := g4
          rw [if_neg g4'] at sm
          rw [s1, sm]
          exact ⟨rfl, p6.symm⟩
      · obtain ⟨s1, s2, s3⟩ := SB.2 g
        rw [aSemi_f s1]
        exact ⟨fun z => absurd z g, fun z => absurd z g, fun _ => ⟨s1, s2, s3⟩⟩
    · rw [if_neg q2] at hL
      have hr4 : 1 ≤ m.2.2.2 ∧ m.2.2.2 ≤ 4 := by
        have := q1.2
        clear hL eps w2
        generalize m.2.2.2 = x at *
        grind
      have ps : psF T N p 4 0 = m.2.2.2 - 1 := by rw [eps, if_pos hr4]
      have hpn : ¬ psF T N p 4 0 = -1 := by
        rw [ps]
        clear hL eps w2 ps
        generalize m.2.2.2 = x at *
        grind
      have eA : liA T N q τ (p, 0, w) = if ¬ τ 2 1 (m.2.2.2 - 1) = 0 then aSemi T N (m.1, 3, nI p) else aSemi T N (nuA T N 0 (mo4 (m.2.2.2 - 1)) (m.1, 0, w)) := by
        rw [w3, ← ps]; exact if_neg hpn
      have eS : liS T N q τ (p, 0, w) = if ¬ τ 2 1 (m.2.2.2 - 1) = 0 then τ else up (up τ 2 1 (m.2.2.2 - 1) 1) q 2 (m.2.2.2 - 1) (nuV T N 0 (mo4 (m.2.2.2 - 1)) (m.1, 0, w)) := by
        rw [w3, ← ps]; exact if_neg hpn
      have hd := (hD.2 (m.2.2.2 - 1) (by clear hL eps w2 ps eA eS hpn hD; generalize m.2.2.2 = x at *; grind) (by clear hL eps w2 ps eA eS hpn hD; generalize m.2.2.2 = x at *; grind)).1
      have e3 : 4 + (m.2.2.2 - 1) = 3 + m.2.2.2 := by clear hL eps w2 ps eA eS hpn hD hd; generalize m.2.2.2 = x at *; grind
      rw [e3] at hd
      rw [eA, eS]
      unfold seM at hL
      by_cases q3 : 0 ≤ μ 8 5 (3 + m.2.2.2)
      · rw [if_pos q3] at hL
        rw [if_pos (hd.mpr q3), hL]
        have f : ¬ ((m.1, (3 : Int32), nI p) : rA3).2.1 = 0 := by simp
        rw [aSemi_f f]
        exact ln_fail rfl (by decide) hpl.symm
      · rw [if_neg q3] at hL
        rw [if_neg (fun z => q3 (hd.mp z)), if_neg (fun z => q3 (hd.mp z))]
        have hmo : mo4 (m.2.2.2 - 1) = moM m.2.2.2 := mo_eq hr4
        rw [hmo]
        have hhi : moM m.2.2.2 ≤ 999999 := by unfold moM; split; decide; split <;> decide
        obtain ⟨n1, n2⟩ := st_num (T := T) (N := N) (i := m.1) (w := w) (lo := 0) (hi := moM m.2.2.2) (m0 := m) rfl (by decide) hhi
        rw [n1, n2]
        have p1 := tk_pl (T := T) (N := N) (m := m)
        by_cases q4 : nbB (tkF T N m) 0 (moM m.2.2.2)
        · rw [if_pos q4] at hL
          rw [if_pos q4, if_pos q4, hL]
          have sm := st_semi (T := T) (N := N) (i := (tkF T N m).1) (w := w) (m0 := tkF T N m) rfl
          have p2 := tk_pl (T := T) (N := N) (m := tkF T N m)
          refine ⟨fun _ g4 => ?_, fun _ g4 => ?_, fun gn => absurd rfl gn⟩
          · dsimp only at g4 ⊢
            rw [if_pos g4] at sm
            exact ⟨sm, Dr_setting hq hr4 q4.2.1 hD⟩
          · dsimp only at g4 ⊢
            rw [if_neg g4] at sm
            rw [sm]
            exact ⟨rfl, p2.symm⟩
        · rw [if_neg q4] at hL
          rw [if_neg q4, if_neg q4, hL]
          by_cases q7 : (tkF T N m).2.2.1 = 3
          · rw [if_pos q7, if_pos q7, aSemi_f (by simp)]
            exact ln_fail rfl (by decide) p1.symm
          · rw [if_neg q7, if_neg q7, aSemi_f (by simp)]
            exact ln_fail rfl (by decide) p1.symm
  · rw [if_neg q1] at hL
    obtain ⟨t1, t2⟩ := tk_bad (T := T) (N := N) (m := m0) (by rw [← em]; exact q1)
    rw [← ep] at t1 t2
    have eA : liA T N q τ (p, 0, w) = aSemi T N (bu6 T N (gSh τ q) (p, 0, w)) := if_pos t1
    have e1 : bu1 T N (p, 0, w) = (p, 1, nI p) := by
      have h : aWord T N 4 (p, 0, w) = if wB T N (skN T N p) 4 = true then (smN T N (skN T N p), 0, w) else (skN T N p, 1, nI (skN T N p)) := if_pos rfl
      rw [hsk, t2] at h
      exact h
    have f1 : ¬ ((p, (1 : Int32), nI p) : rA3).2.1 = 0 := by simp
    have e6 : bu6 T N (gSh τ q) (p, 0, w) = (p, 1, nI p) := (buS_at (σ := τ) (q := q) e1 (nmA_f f1) (aWord_f f1) (nuA_f f1) (aWord_f f1) (nuA_f f1)).1
    rw [eA, e6, aSemi_f f1, hL]
    exact ln_fail rfl (by decide) hpl.symm
