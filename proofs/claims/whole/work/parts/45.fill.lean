-- filling and settling, on both sides
def R7f (pl be ro : Int32 → Int32) (n m : Nat) : Prop := (∀ p, 0 ≤ p → p < nI m → be p = ro p ∧ (be p = -1 ∨ (0 ≤ be p ∧ be p < nI n ∧ pl (be p) = p))) ∧ (∀ x, 0 ≤ x → x < 12 → pl x = -1 ∨ (0 ≤ pl x ∧ pl x < nI m ∧ be (pl x) = x))
theorem R7f_set {pl be ro pl' be' ro' : Int32 → Int32} {n m : Nat} {p0 B : Int32} (h : R7f pl be ro n m) (hp : 0 ≤ p0 ∧ p0 < nI m) (hb : be p0 = -1) (hB : 0 ≤ B ∧ B < nI n) (hB2 : B < 12) (hpB : pl B = -1) (e1 : ∀ x, pl' x = if x = B then p0 else pl x) (e2 : ∀ p, be' p = if p = p0 then B else be p) (e3 : ∀ p, 0 ≤ p → p < nI m → ro' p = if p = p0 then B else ro p) : R7f pl' be' ro' n m := by
  refine ⟨fun p h0 h1 => ?_, fun x h0 h1 => ?_⟩
  · have a := h.1 p h0 h1
    have b2 := e2 p
    have b3 := e3 p h0 h1
    have b1 := e1 (be' p)
    clear h e1 e2 e3
    by_cases z : p = p0
    · rw [if_pos z] at b2 b3
      rw [b2, if_pos rfl] at b1
      rw [b2, b3, b1]
      exact ⟨rfl, Or.inr ⟨hB.1, hB.2, z.symm⟩⟩
    · rw [if_neg z] at b2 b3
      rw [b2] at b1 ⊢
      rw [b3, b1]
      refine ⟨a.1, ?_⟩
      rcases a.2 with a2 | a2
      · exact Or.inl a2
      · refine Or.inr ⟨a2.1, a2.2.1, ?_⟩
        have : ¬ be p = B := fun y => by
          have a3 := a2.2.2
          rw [y, hpB] at a3
          rw [← a3] at h0
          exact absurd h0 (by decide)
        rw [if_neg this]
        exact a2.2.2
  · have a := h.2 x h0 h1
    have b1 := e1 x
    have b2 := e2 (pl' x)
    clear h e1 e2 e3
    by_cases z : x = B
    · rw [if_pos z] at b1
      rw [b1, if_pos rfl] at b2
      rw [b1, b2]
      exact Or.inr ⟨hp.1, hp.2, z.symm⟩
    · rw [if_neg z] at b1
      rw [b1] at b2 ⊢
      rcases a with a2 | a2
      · exact Or.inl a2
      · refine Or.inr ⟨a2.1, a2.2.1, ?_⟩
        have : ¬ pl x = p0 := fun y => by
          have a3 := a2.2.2
          rw [y, hb] at a3
          rw [← a3] at h0
          exact absurd h0 (by decide)
        rw [b2, if_neg this]
        exact a2.2.2
theorem R7f_over {pl be ro pl' be' ro' : Int32 → Int32} {n m : Nat} {p0 X Y : Int32} (h : R7f pl be ro n m) (hp : 0 ≤ p0 ∧ p0 < nI m) (hb : be p0 = X) (hX : pl X = p0) (hY : 0 ≤ Y ∧ Y < nI n) (hpY : pl Y = -1) (e1 : ∀ x, pl' x = if x = Y then p0 else if x = X then -1 else pl x) (e2 : ∀ p, be' p = if p = p0 then Y else be p) (e3 : ∀ p, 0 ≤ p → p < nI m → ro' p = if p = p0 then Y else ro p) : R7f pl' be' ro' n m := by
  have hXY : ¬ Y = X := fun z => by
    rw [z, hX] at hpY
    rw [hpY] at hp
    exact absurd hp.1 (by decide)
  refine ⟨fun p h0 h1 => ?_, fun x h0 h1 => ?_⟩
  · have a := h.1 p h0 h1
    have b2 := e2 p
    have b3 := e3 p h0 h1
    have b1 := e1 (be' p)
    clear h e1 e2 e3
    by_cases z : p = p0
    · rw [if_pos z] at b2 b3
      rw [b2, if_pos rfl] at b1
      rw [b2, b3, b1]
      exact ⟨rfl, Or.inr ⟨hY.1, hY.2, z.symm⟩⟩
    · rw [if_neg z] at b2 b3
      rw [b2] at b1 ⊢
      rw [b3, b1]
      refine ⟨a.1, ?_⟩
      rcases a.2 with a2 | a2
      · exact Or.inl a2
      · refine Or.inr ⟨a2.1, a2.2.1, ?_⟩
        have n1 : ¬ be p = Y := fun y => by
          have a3 := a2.2.2
          rw [y, hpY] at a3
          rw [← a3] at h0
          exact absurd h0 (by decide)
        have n2 : ¬ be p = X := fun y => by
          have a3 := a2.2.2
          rw [y, hX] at a3
          exact z a3.symm
        rw [if_neg n1, if_neg n2]
        exact a2.2.2
  · have a := h.2 x h0 h1
    have b1 := e1 x
    have b2 := e2 (pl' x)
    clear h e1 e2 e3
    by_cases z : x = Y
    · rw [if_pos z] at b1
      rw [b1, if_pos rfl] at b2
      rw [b1, b2]
      exact Or.inr ⟨hp.1, hp.2, z.symm⟩
    · rw [if_neg z] at b1
      by_cases z2 : x = X
      · rw [if_pos z2] at b1
        exact Or.inl b1
      · rw [if_neg z2] at b1
        rw [b1] at b2 ⊢
        rcases a with a2 | a2
        · exact Or.inl a2
        · refine Or.inr ⟨a2.1, a2.2.1, ?_⟩
          have : ¬ pl x = p0 := fun y => by
            have a3 := a2.2.2
            rw [y, hb] at a3
            exact z2 a3.symm
          rw [b2, if_neg this]
          exact a2.2.2
theorem R7.tr {τ τ' μ μ' : rS} {o n m : Nat} {rw : Int32} (h : R7 τ μ o rw n m) (a4 : τ' o 4 = τ o 4) (a5 : τ' o 5 = τ o 5) (b : μ' 8 18 = μ 8 18) : R7 τ' μ' o rw n m := by
  simp only [R7, a4, a5, b] at h ⊢; exact h
-- the richest who is fit
theorem ri_bi {τ μ : rS} {o q n m : Nat} {cn rw year : Int32} (hs : τ o 7 0 = nI n) (hn : n ≤ 12) (h3 : R3 τ μ o cn) (h7 : R7 τ μ o rw n m) (hm : m ≤ 24) (h6 : R6s τ μ q) : ∀ j, j ≤ n → riF τ o q year j = biF μ cn rw year m j ∧ (riF τ o q year j = -1 ∨ (0 ≤ riF τ o q year j ∧ riF τ o q year j < nI j ∧ τ o 4 (riF τ o q year j) = -1)) := by
  have e5 : gSet τ q 1 = μ 8 5 1 := by
    rw [show gSet τ q 1 = τ q 2 1 from if_pos (by decide)]
    exact h6 1 (by decide) (by decide)
  have hn12 := nI_le12 hn
  intro j
  induction j with
  | zero => intro _; exact ⟨rfl, Or.inl rfl⟩
  | succ j ih =>
    intro hj
    obtain ⟨i1, i2⟩ := ih (by omega)
    have f := nI_facts (j := j) 12 (by omega : j < n) hn (by decide) rfl
    have hj12 : nI j < 12 := ar_lt f.2.1 hn12
    have hjM : hasM τ o (nI j) := ⟨f.1, by rw [hs]; exact f.2.1, hj12⟩
    have c3 := h3 (nI j) f.1 hj12
    have eb := be_R7 h7 hm f.1 hj12
    have r4 := h7.2 (nI j) f.1 hj12
    have ef : fitB τ o q (nI j) year ↔ mfB μ (nI j) cn rw year m := by
      show (hasM τ o (nI j) ∧ gSet τ q 1 ≤ τ o 0 (nI j) ∧ τ o 2 (nI j) ≤ year ∧ τ o 4 (nI j) = -1) ↔ (μ 8 5 1 ≤ μ 8 11 (cn + nI j) ∧ μ 8 13 (cn + nI j) ≤ year ∧ beF μ (nI j) rw m 0 < 0)
      rw [eb, e5, c3.1, c3.2]
      have e4 : τ o 4 (nI j) = -1 ↔ τ o 4 (nI j) < 0 := (ar_m1 (m := nI m) (r4.imp id (fun z => ⟨z.1, z.2.1⟩))).1
      rw [e4]
      exact ⟨fun z => z.2, fun z => ⟨hjM, z⟩⟩
    have gj : gM τ o 0 (nI j) 0 = μ 8 11 (cn + nI j) := (if_pos hjM).trans c3.1
    have el : (riF τ o q year j = -1 ∨ gM τ o 0 (riF τ o q year j) 0 < gM τ o 0 (nI j) 0) ↔ (biF μ cn rw year m j < 0 ∨ μ 8 11 (cn + biF μ cn rw year m j) < μ 8 11 (cn + nI j)) := by
      rw [gj, ← i1]
      rcases i2 with z | z
      · rw [z]
        exact ⟨fun _ => Or.inl (by decide), fun _ => Or.inl rfl⟩
      · have hrn : riF τ o q year j < nI n := ar_lt z.2.1 (Int32.le_of_lt f.2.1)
        have hr12 : riF τ o q year j < 12 := ar_lt hrn hn12
        have hrM : hasM τ o (riF τ o q year j) := ⟨z.1, by rw [hs]; exact hrn, hr12⟩
        rw [show gM τ o 0 (riF τ o q year j) 0 = μ 8 11 (cn + riF τ o q year j) from (if_pos hrM).trans (h3 _ z.1 hr12).1]
        have nn := ar_n z.1
        simp only [nn.1, nn.2, false_or]
    rw [riF, biF]
    by_cases hc : mfB μ (nI j) cn rw year m ∧ (biF μ cn rw year m j < 0 ∨ μ 8 11 (cn + biF μ cn rw year m j) < μ 8 11 (cn + nI j))
    · rw [if_pos hc, if_pos ⟨ef.mpr hc.1, el.mpr hc.2⟩]
      refine ⟨rfl, Or.inr ⟨f.1, ?_, (ef.mpr hc.1).2.2.2⟩⟩
      rw [f.2.2.2]
      exact ar_s4 f.1 (ar_41 hj12)
    · rw [if_neg hc, if_neg (fun z => hc ⟨ef.mp z.1, el.mp z.2⟩)]
      refine ⟨i1, ?_⟩
      rcases i2 with z | z
      · exact Or.inl z
      · refine Or.inr ⟨z.1, ?_, z.2.2⟩
        rw [f.2.2.2]
        exact ar_s3 f.1 (ar_41 hj12) z.2.1
theorem f1M_at {μ : rS} {rw : Int32} : ∀ j i, i < j → f1M rw j μ 8 18 (rw + nI i) = -1 := by
  intro j
  induction j with
  | zero => intro i hi; omega
  | succ j ih =>
    intro i hi
    show up (f1M rw j μ) 8 18 (rw + nI j) (-1) 8 18 (rw + nI i) = -1
    by_cases hij : i = j
    · rw [hij]; exact up_self
    · have := ih i (by omega)
      simp only [up]
      split
      · rfl
      · exact this
def hbV (b : Int32) : Int32 := if b = -1 then 0 else (1 : Int32) <<< (b &&& 31)
/-- behind j places of the filling -/
def fIn (s r : Int32 × rS) (o : Nat) (rw : Int32) (n m j : Nat) : Prop := s.1 = r.1 ∧ R7 s.2 r.2 o rw n m ∧ (∀ p, nI j ≤ p → p < nI m → s.2 o 5 p = -1) ∧ (∀ p, 0 ≤ p → p < nI j → s.2 o 6 p = hbV (s.2 o 5 p))
theorem up_66 {σ : rS} {o : Nat} {j B v x : Int32} : up (up (up (up σ o 6 j 0) o 4 B j) o 5 j B) o 6 j v o 6 x = if x = j then v else σ o 6 x := by
  simp only [up]; grind
theorem fill_eq {τ μ : rS} {o q n m : Nat} {cn rw year : Int32} (hs : τ o 7 0 = nI n) (hn : n ≤ 12) (h3 : R3 τ μ o cn) (hm : m ≤ 24) (h6 : R6s τ μ q) (hqo : ¬ q = o) (h4 : ∀ x, 0 ≤ x → x < 12 → τ o 4 x = -1) (h5 : ∀ p, 0 ≤ p → p < 24 → τ o 5 p = -1) : ∀ j, j ≤ m → fIn (fiF o q year n τ j) (f2F cn rw year n m μ j) o rw n m j := by
  have hn12 := nI_le12 hn
  have hm24 := nI_le24 hm
  intro j
  induction j with
  | zero =>
    intro _
    have h5' : ∀ p, 0 ≤ p → p < nI m → τ o 5 p = -1 := fun p a b => h5 p a (ar_lt b hm24)
    refine ⟨rfl, ⟨fun p a b => ?_, fun x a b => Or.inl (h4 x a b)⟩, fun p a b => h5' p a b, fun p a b => ?_⟩
    · refine ⟨?_, Or.inl (h5' p a b)⟩
      rw [show (fiF o q year n τ 0).2 o 5 p = τ o 5 p from rfl, h5' p a b]
      obtain ⟨i, hi, e⟩ := nI_of (x := p) (fun z => absurd a (Int32.not_le.mpr z))
      have him : i < m := by rw [e] at b; exact (nI_ltI hi (by omega)).mp b
      rw [e]
      exact (f1M_at m i him).symm
    · exfalso
      rw [nI_0] at b
      exact absurd a (Int32.not_le.mpr b)
  | succ j ih =>
    intro hj
    obtain ⟨i1, i2, i3, i4⟩ := ih (by omega)
    have f := nI_facts (j := j) 24 (by omega : j < m) hm (by decide) rfl
    have hj24 : nI j < 24 := ar_lt f.2.1 hm24
    show fIn (fiStep o q year n j (fiF o q year n τ j)) (f2Step cn rw year n m j (f2F cn rw year n m μ j)) o rw n m (j + 1)
    have fs : ∀ k, ¬ (k = 4 ∨ k = 5 ∨ k = 6) → (fiF o q year n τ j).2 o k = τ o k := fun k hk => by
      funext i; exact fiF_fr (fun z => hk z.2) j
    have fq : (fiF o q year n τ j).2 q = τ q := by
      funext k i; exact fiF_fr (fun z => hqo z.1) j
    have fr : ∀ k, ¬ k = 18 → (f2F cn rw year n m μ j).2 8 k = μ 8 k := fun k hk => by
      funext i; exact f2F_fr (fun z => hk z.2) j
    generalize fiF o q year n τ j = S at *
    generalize f2F cn rw year n m μ j = R at *
    have g3 : R3 (up S.2 o 6 (nI j) 0) R.2 o cn := by
      intro x a b
      rw [show up S.2 o 6 (nI j) 0 o 0 x = S.2 o 0 x from up_k (by decide), show up S.2 o 6 (nI j) 0 o 2 x = S.2 o 2 x from up_k (by decide), fs 0 (by decide), fs 2 (by decide), fr 11 (by decide), fr 13 (by decide)]
      exact h3 x a b
    have g7 : R7 (up S.2 o 6 (nI j) 0) R.2 o rw n m := i2.tr (by funext i; exact up_k (by decide)) (by funext i; exact up_k (by decide)) rfl
    have g6 : R6s (up S.2 o 6 (nI j) 0) R.2 q := by
      intro k a b
      rw [show up S.2 o 6 (nI j) 0 q 2 k = S.2 q 2 k from up_o hqo, fq, fr 5 (by decide)]
      exact h6 k a b
    have gs : up S.2 o 6 (nI j) 0 o 7 0 = nI n := by
      rw [show up S.2 o 6 (nI j) 0 o 7 0 = S.2 o 7 0 from up_k (by decide), fs 7 (by decide)]; exact hs
    obtain ⟨r1, r2⟩ := ri_bi (year := year) gs hn g3 g7 hm g6 n (Nat.le_refl _)
    unfold fiStep f2Step
    rw [← r1]
    generalize hB : riF (up S.2 o 6 (nI j) 0) o q year n = B at *
    have hj5 : S.2 o 5 (nI j) = -1 := i3 (nI j) (Int32.le_refl _) f.2.1
    have e5 := f.2.2.2
    rcases r2 with z | ⟨z1, z2, z3⟩
    · rw [if_pos z, z]
      refine ⟨?_, ?_, ?_, ?_⟩
      · show S.1 + 1 = R.1 + (if (-1 : Int32) < 0 then 1 else 0)
        rw [if_pos (by decide), i1]
      · show R7 (up S.2 o 6 (nI j) 0) (up R.2 8 18 (rw + nI j) (-1)) o rw n m
        refine ⟨fun p a b => ?_, g7.2⟩
        have g := g7.1 p a b
        refine ⟨?_, g.2⟩
        rw [g.1]
        by_cases hpj : p = nI j
        · rw [hpj]
          have g' := g.1
          rw [hpj, show up S.2 o 6 (nI j) 0 o 5 (nI j) = S.2 o 5 (nI j) from up_k (by decide), hj5] at g'
          rw [← g']; exact up_self.symm
        · exact (up_i (fun y => hpj (ar_add y))).symm
      · intro p a b
        show up S.2 o 6 (nI j) 0 o 5 p = -1
        rw [show up S.2 o 6 (nI j) 0 o 5 p = S.2 o 5 p from up_k (by decide)]
        exact i3 p (ar_s1 f.1 (ar_40 hj24) (by rw [← e5]; exact a)).1 b
      · intro p a b
        show up S.2 o 6 (nI j) 0 o 6 p = hbV (up S.2 o 6 (nI j) 0 o 5 p)
        rw [show up S.2 o 6 (nI j) 0 o 5 p = S.2 o 5 p from up_k (by decide)]
        by_cases hpj : p = nI j
        · rw [hpj, hj5]; exact up_self
        · rw [show up S.2 o 6 (nI j) 0 o 6 p = S.2 o 6 p from up_i hpj]
          exact i4 p a (ar_s2 f.1 (ar_40 hj24) (by rw [← e5]; exact b) hpj)
    · have zn : ¬ B = -1 := (ar_n z1).1
      have zl : ¬ B < 0 := (ar_n z1).2
      have zB : B < 12 := ar_lt z2 hn12
      rw [if_neg zn, if_neg zl]
      have hL : hasM (up S.2 o 6 (nI j) 0) o B ∧ isPl (nI j) := ⟨⟨z1, by rw [gs]; exact z2, zB⟩, f.1, hj24⟩
      have eL : sLay (up S.2 o 6 (nI j) 0) o B (nI j) = up (up (up (up S.2 o 6 (nI j) 0) o 4 B (nI j)) o 5 (nI j) B) o 6 (nI j) ((up S.2 o 6 (nI j) 0) o 6 (nI j) ||| ((1 : Int32) <<< (B &&& 31))) := if_pos hL
      rw [eL, up_self, show (0 : Int32) ||| ((1 : Int32) <<< (B &&& 31)) = (1 : Int32) <<< (B &&& 31) from Int32.zero_or]
      clear eL hL
      have e4' : ∀ x, up (up (up (up S.2 o 6 (nI j) 0) o 4 B (nI j)) o 5 (nI j) B) o 6 (nI j) ((1 : Int32) <<< (B &&& 31)) o 4 x = if x = B then nI j else S.2 o 4 x := by intro x; simp [up]
      have e5' : ∀ p, up (up (up (up S.2 o 6 (nI j) 0) o 4 B (nI j)) o 5 (nI j) B) o 6 (nI j) ((1 : Int32) <<< (B &&& 31)) o 5 p = if p = nI j then B else S.2 o 5 p := by intro x; simp [up]
      have e6' : ∀ p, up (up (up (up S.2 o 6 (nI j) 0) o 4 B (nI j)) o 5 (nI j) B) o 6 (nI j) ((1 : Int32) <<< (B &&& 31)) o 6 p = if p = nI j then (1 : Int32) <<< (B &&& 31) else S.2 o 6 p := by
        intro x; exact up_66
      generalize up (up (up (up S.2 o 6 (nI j) 0) o 4 B (nI j)) o 5 (nI j) B) o 6 (nI j) ((1 : Int32) <<< (B &&& 31)) = S' at *
      refine ⟨?_, ?_, ?_, ?_⟩
      · show S.1 = R.1 + 0
        rw [i1, Int32.add_zero]
      · have k3 : ∀ p, 0 ≤ p → p < nI m → up R.2 8 18 (rw + nI j) B 8 18 (rw + p) = if p = nI j then B else R.2 8 18 (rw + p) := by
          intro p _ _
          exact up_row
        have z3' : S.2 o 4 B = -1 := by rw [← z3]; exact (up_k (by decide)).symm
        exact R7f_set (pl := S.2 o 4) (be := S.2 o 5) (ro := fun p => R.2 8 18 (rw + p)) (pl' := S' o 4) (be' := S' o 5) (ro' := fun p => up R.2 8 18 (rw + nI j) B 8 18 (rw + p)) i2 ⟨f.1, f.2.1⟩ hj5 ⟨z1, z2⟩ zB z3' e4' e5' k3
      · intro p a b
        show S' o 5 p = -1
        rw [e5', if_neg (ar_s1 f.1 (ar_40 hj24) (by rw [← e5]; exact a)).2]
        exact i3 p (ar_s1 f.1 (ar_40 hj24) (by rw [← e5]; exact a)).1 b
      · intro p a b
        show S' o 6 p = hbV (S' o 5 p)
        rw [e5', e6']
        by_cases hpj : p = nI j
        · rw [if_pos hpj, if_pos hpj]
          unfold hbV
          rw [if_neg zn]
        · rw [if_neg hpj, if_neg hpj]
          exact i4 p a (ar_s2 f.1 (ar_40 hj24) (by rw [← e5]; exact b) hpj)
