-- the two readers in step: a burden's line
theorem aWord_f {T : Nat → Int32} {N s : Nat} {a : rA3} (h : ¬ a.2.1 = 0) : aWord T N s a = a := if_neg h
theorem nmA_f {T : Nat → Int32} {N : Nat} {sh : Int32 → Int32} {a : rA3} (h : ¬ a.2.1 = 0) : nmA T N sh a = a := if_neg h
theorem nuA_f {T : Nat → Int32} {N : Nat} {lo hi : Int32} {a : rA3} (h : ¬ a.2.1 = 0) : nuA T N lo hi a = a := if_neg h
theorem aSemi_f {T : Nat → Int32} {N : Nat} {a : rA3} (h : ¬ a.2.1 = 0) : aSemi T N a = a := if_neg h
theorem sp_idem {P : Int32 → Bool} {T : Nat → Int32} : ∀ c i, spF P T (i + c - spF P T c i) (spF P T c i) = spF P T c i := by
  intro c
  induction c with
  | zero => intro i; show spF P T (i + 0 - i) i = i; rw [Nat.add_zero, Nat.sub_self]; rfl
  | succ c ih =>
    intro i
    rw [spF]
    by_cases h : P (T i) = true
    · rw [if_pos h]
      have := ih (i + 1)
      rw [show i + 1 + c = i + (c + 1) by omega] at this
      exact this
    · rw [if_neg h]
      have e : i + (c + 1) - i = c + 1 := by omega
      rw [e, spF, if_neg h]
theorem sk_idem {T : Nat → Int32} {N i : Nat} (h : i ≤ N) : skN T N (skN T N i) = skN T N i := by
  have := sp_idem (P := blB) (T := T) (N - i) i
  rw [show i + (N - i) = N by omega] at this
  exact this
theorem tk_idem {T : Nat → Int32} {N : Nat} {m : rM4} {x y : Int32} (h : m.1 ≤ N) : tkF T N (skN T N m.1, x, y, m.2.2.2) = tkF T N m := by
  unfold tkF
  dsimp only
  rw [sk_idem h]
/-- the fault that the reference tells -/
abbrev ftM (σ : rS) : Int32 × Int32 := (σ 8 8 0, σ 8 9 0)
theorem ft_wg {σ : rS} {k w : Int32} : wg σ k w 8 8 0 = k ∧ wg σ k w 8 9 0 = w := by
  unfold wg; simp [up]
/-- behind the word 'burden' (the reader at m.1): the rest of the line -/
theorem st_burden {T : Nat → Int32} {N : Nat} {w : Int32} {sh : Int32 → Int32} {μ : rS} {m : rM4} (hb : bT T) (hm : m.1 ≤ N) (hsh : ∀ b, 0 ≤ b → b < 6 → sh b = μ 8 4 (6 + b)) (B : Int32 × rS × rM4) (hB : B = buM μ (tkF T N m) (ka2 T N m) (ka3 T N m) (ka4 T N m) (ka5 T N m) (ka6 T N m)) (a2 a3 a4 a5 a6 : rA3) (e2 : a2 = nmA T N sh (m.1, 0, w)) (e3 : a3 = aWord T N 5 a2) (e4 : a4 = nuA T N 1 10000 a3) (e5 : a5 = aWord T N 6 a4) (e6 : a6 = nuA T N 1 4 a5) :
    (B.1 = 1 → a6 = ((ka5 T N m).1, 0, w) ∧ nmV T N sh (m.1, 0, w) = (tkF T N m).2.2.2 - 65 ∧ nuV T N 1 10000 a3 = (ka3 T N m).2.2.2 ∧ nuV T N 1 4 a5 = (ka5 T N m).2.2.2 ∧ (tkF T N m).2.2.1 = 2) ∧ (¬ B.1 = 1 → ¬ a6.2.1 = 0 ∧ a6.2.1 = B.2.1 8 8 0 ∧ a6.2.2 = B.2.1 8 9 0) := by
  obtain ⟨n1, n2⟩ := st_name (T := T) (N := N) (i := m.1) (w := w) (sh := sh) (m0 := m) hb rfl
  have k2 := tkF_k2 (T := T) (N := N) (m := m)
  have p1 := tk_pl (T := T) (N := N) (m := m)
  have p2 := tk_pl (T := T) (N := N) (m := tkF T N m)
  have p3 := tk_pl (T := T) (N := N) (m := ka2 T N m)
  have p4 := tk_pl (T := T) (N := N) (m := ka3 T N m)
  have p5 := tk_pl (T := T) (N := N) (m := ka4 T N m)
  rw [n1] at e2
  rw [n2]
  unfold buM at hB
  by_cases q1 : (tkF T N m).2.2.1 = 2
  · obtain ⟨x1, x2⟩ := k2 q1
    have ex : 6 + (tkF T N m).2.2.2 - 65 = 6 + ((tkF T N m).2.2.2 - 65) := by clear hB e2 n1 n2; grind
    have hs := hsh ((tkF T N m).2.2.2 - 65) (by clear hB e2 n1 n2 hsh; grind) (by clear hB e2 n1 n2 hsh; grind)
    rw [if_pos q1] at e2 hB
    rw [ex, ← hs] at hB
    by_cases q2 : 0 < sh ((tkF T N m).2.2.2 - 65)
    · rw [if_pos q2] at e2 hB
      have f2 : ¬ a2.2.1 = 0 := by rw [e2]; simp
      have f6 : a6 = a2 := by rw [e6, e5, e4, e3, aWord_f f2, nuA_f f2, aWord_f f2, nuA_f f2]
      rw [hB, f6, e2]
      refine ⟨fun h => absurd (show (0 : Int32) = 1 from h) (by decide), fun _ => ⟨by simp, ?_, ?_⟩⟩
      · dsimp only; exact ft_wg.1.symm
      · dsimp only; exact p1.symm.trans ft_wg.2.symm
    · rw [if_neg q2] at e2 hB
      have e3' : a3 = if wdB (ka2 T N m) (nI (5 + 1)) then ((ka2 T N m).1, 0, w) else (skN T N (tkF T N m).1, 1, nI (skN T N (tkF T N m).1)) := by rw [e3, e2]; exact st_word (by decide) rfl
      have e36 : nI (5 + 1) = 6 := rfl
      rw [e36] at e3'
      by_cases q3 : wdB (ka2 T N m) 6
      · rw [if_pos q3] at e3' hB
        obtain ⟨s1, s2⟩ := st_num (T := T) (N := N) (i := (ka2 T N m).1) (w := w) (lo := 1) (hi := 10000) (m0 := ka2 T N m) rfl (by decide) (by decide)
        rw [← e3'] at s1 s2
        rw [s1] at e4
        by_cases q4 : nbB (ka3 T N m) 1 10000
        · have q4' : nbB (tkF T N (ka2 T N m)) 1 10000 := q4
          rw [if_pos q4'] at e4 s2
          rw [if_pos q4] at hB
          have e5' : a5 = if wdB (ka4 T N m) (nI (6 + 1)) then ((ka4 T N m).1, 0, w) else (skN T N (ka3 T N m).1, 1, nI (skN T N (ka3 T N m).1)) := by rw [e5, e4]; exact st_word (by decide) rfl
          have e57 : nI (6 + 1) = 7 := rfl
          rw [e57] at e5'
          by_cases q5 : wdB (ka4 T N m) 7
          · rw [if_pos q5] at e5' hB
            obtain ⟨t1, t2⟩ := st_num (T := T) (N := N) (i := (ka4 T N m).1) (w := w) (lo := 1) (hi := 4) (m0 := ka4 T N m) rfl (by decide) (by decide)
            rw [← e5'] at t1 t2
            rw [t1] at e6
            by_cases q6 : nbB (ka5 T N m) 1 4
            · have q6' : nbB (tkF T N (ka4 T N m)) 1 4 := q6
              rw [if_pos q6'] at e6 t2
              rw [if_pos q6] at hB
              rw [hB]
              exact ⟨fun _ => ⟨e6, if_pos ⟨q1, q2⟩, s2, t2, q1⟩, fun h => absurd rfl h⟩
            · have q6' : ¬ nbB (tkF T N (ka4 T N m)) 1 4 := q6
              rw [if_neg q6'] at e6
              rw [if_neg q6] at hB
              rw [hB]
              refine ⟨fun h => absurd (show (0 : Int32) = 1 from h) (by decide), fun _ => ?_⟩
              by_cases q7 : (ka5 T N m).2.2.1 = 3
              · have q7' : (tkF T N (ka4 T N m)).2.2.1 = 3 := q7
                rw [if_pos q7'] at e6
                rw [if_pos q7, e6]
                exact ⟨by simp, by dsimp only; exact ft_wg.1.symm, by dsimp only; exact p5.symm.trans ft_wg.2.symm⟩
              · have q7' : ¬ (tkF T N (ka4 T N m)).2.2.1 = 3 := q7
                rw [if_neg q7'] at e6
                rw [if_neg q7, e6]
                exact ⟨by simp, by dsimp only; exact ft_wg.1.symm, by dsimp only; exact p5.symm.trans ft_wg.2.symm⟩
          · rw [if_neg q5] at e5' hB
            have f5 : ¬ a5.2.1 = 0 := by rw [e5']; simp
            have f6 : a6 = a5 := by rw [e6, nuA_f f5]
            rw [hB, f6, e5']
            exact ⟨fun h => absurd (show (0 : Int32) = 1 from h) (by decide), fun _ => ⟨by simp, by dsimp only; exact ft_wg.1.symm, by dsimp only; exact p4.symm.trans ft_wg.2.symm⟩⟩
        · have q4' : ¬ nbB (tkF T N (ka2 T N m)) 1 10000 := q4
          rw [if_neg q4'] at e4
          rw [if_neg q4] at hB
          have f4 : ¬ a4.2.1 = 0 := by rw [e4]; split <;> simp
          have f6 : a6 = a4 := by rw [e6, e5, aWord_f f4, nuA_f f4]
          rw [hB, f6]
          refine ⟨fun h => absurd (show (0 : Int32) = 1 from h) (by decide), fun _ => ⟨f4, ?_⟩⟩
          by_cases q7 : (ka3 T N m).2.2.1 = 3
          · have q7' : (tkF T N (ka2 T N m)).2.2.1 = 3 := q7
            rw [if_pos q7'] at e4
            rw [if_pos q7, e4]
            exact ⟨by dsimp only; exact ft_wg.1.symm, by dsimp only; exact p3.symm.trans ft_wg.2.symm⟩
          · have q7' : ¬ (tkF T N (ka2 T N m)).2.2.1 = 3 := q7
            rw [if_neg q7'] at e4
            rw [if_neg q7, e4]
            exact ⟨by dsimp only; exact ft_wg.1.symm, by dsimp only; exact p3.symm.trans ft_wg.2.symm⟩
      · rw [if_neg q3] at e3' hB
        have f3 : ¬ a3.2.1 = 0 := by rw [e3']; simp
        have f6 : a6 = a3 := by rw [e6, e5, e4, nuA_f f3, aWord_f f3, nuA_f f3]
        rw [hB, f6, e3']
        exact ⟨fun h => absurd (show (0 : Int32) = 1 from h) (by decide), fun _ => ⟨by simp, by dsimp only; exact ft_wg.1.symm, by dsimp only; exact p2.symm.trans ft_wg.2.symm⟩⟩
  · rw [if_neg q1] at e2 hB
    have f2 : ¬ a2.2.1 = 0 := by rw [e2]; simp
    have f6 : a6 = a2 := by rw [e6, e5, e4, e3, aWord_f f2, nuA_f f2, aWord_f f2, nuA_f f2]
    rw [hB, f6, e2]
    exact ⟨fun h => absurd (show (0 : Int32) = 1 from h) (by decide), fun _ => ⟨by simp, by dsimp only; exact ft_wg.1.symm, by dsimp only; exact p1.symm.trans ft_wg.2.symm⟩⟩
