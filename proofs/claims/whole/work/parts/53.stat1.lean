-- the statutes on both sides: what the reference's reader keeps
def LsI (U μ : rS) : Prop := (∀ b, 0 ≤ b → b < 6 → U 8 3 b = μ 8 3 b ∧ U 8 4 b = μ 8 4 b) ∧ (∀ k, 0 ≤ k → k < 4 → U 8 5 k = μ 8 5 k)
theorem LsI.rf {μ : rS} : LsI μ μ := ⟨fun _ _ _ => ⟨rfl, rfl⟩, fun _ _ _ => rfl⟩
theorem LsI.tr {U V μ : rS} (h : LsI U V) (h2 : LsI V μ) : LsI U μ := ⟨fun x a b => ⟨((h.1 x a b).1).trans (h2.1 x a b).1, ((h.1 x a b).2).trans (h2.1 x a b).2⟩, fun p a b => (h.2 p a b).trans (h2.2 p a b)⟩
theorem LsI.fr {U μ : rS} (h3 : U 8 3 = μ 8 3) (h4 : U 8 4 = μ 8 4) (h5 : U 8 5 = μ 8 5) : LsI U μ := ⟨fun b _ _ => by rw [h3, h4]; exact ⟨rfl, rfl⟩, fun k _ _ => by rw [h5]⟩
theorem ar_65 {x b : Int32} (h : 65 ≤ x ∧ x ≤ 70) (h0 : 0 ≤ b) (h1 : b < 6) : ¬ b = 6 + x - 65 ∧ 6 + x - 65 = 6 + (x - 65) ∧ 0 ≤ x - 65 ∧ x - 65 < 6 := by grind
theorem ar_3w {w k : Int32} (h : 1 ≤ w ∧ w ≤ 4) (h0 : 0 ≤ k) (h1 : k < 4) : ¬ k = 3 + w := by grind
theorem ar_w4 {w : Int32} (h : 1 ≤ w) (h2 : w ≤ 5) (h3 : ¬ w = 5) : 1 ≤ w ∧ w ≤ 4 := by grind
theorem LsI.u3 {U : rS} {x v : Int32} (h : 65 ≤ x ∧ x ≤ 70) : LsI (up U 8 3 (6 + x - 65) v) U := ⟨fun b a d => ⟨up_i (ar_65 h a d).1, up_k (by decide)⟩, fun k _ _ => up_k (by decide)⟩
theorem LsI.u4 {U : rS} {x v : Int32} (h : 65 ≤ x ∧ x ≤ 70) : LsI (up U 8 4 (6 + x - 65) v) U := ⟨fun b a d => ⟨up_k (by decide), up_i (ar_65 h a d).1⟩, fun k _ _ => up_k (by decide)⟩
theorem LsI.u5 {U : rS} {w v : Int32} (h : 1 ≤ w ∧ w ≤ 4) : LsI (up U 8 5 (3 + w) v) U := ⟨fun b _ _ => ⟨up_k (by decide), up_k (by decide)⟩, fun k a d => up_i (ar_3w h a d)⟩
theorem LsI.uk {U : rS} {k : Nat} {i v : Int32} (h : ¬ (k = 3 ∨ k = 4 ∨ k = 5)) : LsI (up U 8 k i v) U := LsI.fr (by funext j; exact up_k (fun z => h (Or.inl z.symm))) (by funext j; exact up_k (fun z => h (Or.inr (Or.inl z.symm)))) (by funext j; exact up_k (fun z => h (Or.inr (Or.inr z.symm))))
theorem LsI.wg {U : rS} {k w : Int32} : LsI (wg U k w) U := (LsI.uk (by decide)).tr (LsI.uk (by decide))
theorem buM_lo {σ : rS} {m1 m2 m3 m4 m5 m6 : rM4} (h : m1.2.2.1 = 2 → 65 ≤ m1.2.2.2 ∧ m1.2.2.2 ≤ 70) : LsI (buM σ m1 m2 m3 m4 m5 m6).2.1 σ := by
  unfold buM
  by_cases q1 : m1.2.2.1 = 2
  · have hx := h q1
    rw [if_pos q1]
    by_cases q2 : 0 < σ 8 4 (6 + m1.2.2.2 - 65)
    · rw [if_pos q2]; exact LsI.wg
    · rw [if_neg q2]
      by_cases q3 : wdB m2 6
      · rw [if_pos q3]
        by_cases q4 : nbB m3 1 10000
        · rw [if_pos q4]
          by_cases q5 : wdB m4 7
          · rw [if_pos q5]
            by_cases q6 : nbB m5 1 4
            · rw [if_pos q6]; exact (LsI.u4 hx).tr ((LsI.uk (by decide)).tr ((LsI.u3 hx).tr (LsI.uk (by decide))))
            · rw [if_neg q6]; exact LsI.wg.tr ((LsI.u3 hx).tr (LsI.uk (by decide)))
          · rw [if_neg q5]; exact LsI.wg.tr ((LsI.u3 hx).tr (LsI.uk (by decide)))
        · rw [if_neg q4]; exact LsI.wg
      · rw [if_neg q3]; exact LsI.wg
  · rw [if_neg q1]; exact LsI.wg
theorem liM_lo {T : Nat → Int32} {N : Nat} {σ : rS} {m : rM4} (h17 : w17 m) : LsI (liM T N σ m).2.1 σ := by
  unfold liM
  by_cases q1 : m.2.2.1 = 1 ∧ m.2.2.2 ≤ 5
  · rw [if_pos q1]
    by_cases q2 : m.2.2.2 = 5
    · rw [if_pos q2]; exact buM_lo tkF_k2
    · rw [if_neg q2]
      unfold seM
      by_cases q3 : 0 ≤ σ 8 5 (3 + m.2.2.2)
      · rw [if_pos q3]; exact LsI.wg
      · rw [if_neg q3]
        by_cases q4 : nbB (tkF T N m) 0 (moM m.2.2.2)
        · rw [if_pos q4]; exact (LsI.u5 (ar_w4 (h17 q1.1).1 q1.2 q2)).tr (LsI.uk (by decide))
        · rw [if_neg q4]; exact LsI.wg
  · rw [if_neg q1]; exact LsI.wg
theorem lsM_lo {T : Nat → Int32} {N : Nat} : ∀ c σ m, w17 m → LsI (lsM T N c σ m).2.1 σ := by
  intro c
  induction c with
  | zero => intro σ m _; exact LsI.rf
  | succ c ih =>
    intro σ m h
    have L := liM_lo (T := T) (N := N) (σ := σ) h
    rw [lsM]
    by_cases q1 : m.2.2.1 = 0
    · rw [if_pos q1]; exact LsI.rf
    · rw [if_neg q1]
      by_cases q2 : (liM T N σ m).1 = 1
      · rw [if_pos q2]
        by_cases q3 : (liM T N σ m).2.2.2.2.1 = 4
        · rw [if_pos q3]; exact (ih _ _ tkF_w17).tr L
        · rw [if_neg q3]; exact LsI.wg.tr L
      · rw [if_neg q2]; exact L
-- the costs that are told
def csI (U : rS) : Prop := ∀ b, 0 ≤ b → b < 6 → 0 < U 8 4 (6 + b) → 1 ≤ U 8 3 (6 + b) ∧ U 8 3 (6 + b) ≤ 10000
theorem buM_2 {σ : rS} {m1 m2 m3 m4 m5 m6 : rM4} (h : (buM σ m1 m2 m3 m4 m5 m6).1 = 1) : m1.2.2.1 = 2 ∧ nbB m3 1 10000 := by
  have h01 : ¬ (0 : Int32) = 1 := by decide
  unfold buM at h
  by_cases q1 : m1.2.2.1 = 2
  · rw [if_pos q1] at h
    by_cases q2 : 0 < σ 8 4 (6 + m1.2.2.2 - 65)
    · rw [if_pos q2] at h; exact absurd h h01
    · rw [if_neg q2] at h
      by_cases q3 : wdB m2 6
      · rw [if_pos q3] at h
        by_cases q4 : nbB m3 1 10000
        · exact ⟨q1, q4⟩
        · rw [if_neg q4] at h; exact absurd h h01
      · rw [if_neg q3] at h; exact absurd h h01
  · rw [if_neg q1] at h; exact absurd h h01
theorem csI_bu {σ : rS} {x c h : Int32} (hx : 65 ≤ x ∧ x ≤ 70) (hc : 1 ≤ c ∧ c ≤ 10000) (hs : csI σ) : csI (up (up (up (up σ 8 36 0 c) 8 3 (6 + x - 65) c) 8 36 0 h) 8 4 (6 + x - 65) h) := by
  intro b h0 h1 hp
  have ax := ar_65 hx h0 h1
  have e3 : up (up (up (up σ 8 36 0 c) 8 3 (6 + x - 65) c) 8 36 0 h) 8 4 (6 + x - 65) h 8 3 (6 + b) = if 6 + b = 6 + (x - 65) then c else σ 8 3 (6 + b) := by
    rw [show up (up (up (up σ 8 36 0 c) 8 3 (6 + x - 65) c) 8 36 0 h) 8 4 (6 + x - 65) h 8 3 (6 + b) = up (up σ 8 36 0 c) 8 3 (6 + x - 65) c 8 3 (6 + b) from (up_k (by decide)).trans (up_k (by decide)), ax.2.1]
    by_cases z : 6 + b = 6 + (x - 65)
    · rw [if_pos z, z]; exact up_self
    · rw [if_neg z]; exact (up_i z).trans (up_k (by decide))
  have e4 : up (up (up (up σ 8 36 0 c) 8 3 (6 + x - 65) c) 8 36 0 h) 8 4 (6 + x - 65) h 8 4 (6 + b) = if 6 + b = 6 + (x - 65) then h else σ 8 4 (6 + b) := by
    rw [ax.2.1]
    by_cases z : 6 + b = 6 + (x - 65)
    · rw [if_pos z, z]; exact up_self
    · rw [if_neg z]; exact (up_i z).trans ((up_k (by decide)).trans ((up_k (by decide)).trans (up_k (by decide))))
  rw [e4] at hp
  rw [e3]
  by_cases z : 6 + b = 6 + (x - 65)
  · rw [if_pos z]; exact hc
  · rw [if_neg z] at hp ⊢
    exact hs b h0 h1 hp
theorem csI.of {U σ : rS} (h : csI σ) (h3 : U 8 3 = σ 8 3) (h4 : U 8 4 = σ 8 4) : csI U := fun b h0 h1 hp => by
  rw [h3]
  rw [h4] at hp
  exact h b h0 h1 hp
theorem csI_se {σ : rS} {v i w : Int32} (h : csI σ) : csI (up (up σ 8 36 0 v) 8 5 i w) := h.of (by funext j; rw [up_k (by decide), up_k (by decide)]) (by funext j; rw [up_k (by decide), up_k (by decide)])
theorem liM_cs {T : Nat → Int32} {N : Nat} {σ : rS} {m : rM4} (h : (liM T N σ m).1 = 1) (hs : csI σ) : csI (liM T N σ m).2.1 := by
  unfold liM at h ⊢
  have h01 : ¬ (0 : Int32) = 1 := by decide
  by_cases q1 : m.2.2.1 = 1 ∧ m.2.2.2 ≤ 5
  · rw [if_pos q1] at h ⊢
    by_cases q2 : m.2.2.2 = 5
    · rw [if_pos q2] at h ⊢
      rw [(buM_1 h).2]
      obtain ⟨b1, b2⟩ := buM_2 h
      exact csI_bu (tkF_k2 b1) b2.2 hs
    · rw [if_neg q2] at h ⊢
      unfold seM at h ⊢
      by_cases q3 : 0 ≤ σ 8 5 (3 + m.2.2.2)
      · rw [if_pos q3] at h; exact absurd h h01
      · rw [if_neg q3] at h ⊢
        by_cases q4 : nbB (tkF T N m) 0 (moM m.2.2.2)
        · rw [if_pos q4]
          exact csI_se hs
        · rw [if_neg q4] at h; exact absurd h h01
  · rw [if_neg q1] at h; exact absurd h h01
theorem lsM_cs {T : Nat → Int32} {N : Nat} : ∀ c σ m, csI σ → (lsM T N c σ m).1 = 1 → csI (lsM T N c σ m).2.1 := by
  intro c
  have h01 : ¬ (0 : Int32) = 1 := by decide
  induction c with
  | zero => intro σ m _ h; exact absurd h h01
  | succ c ih =>
    intro σ m hs h
    rw [lsM] at h ⊢
    by_cases q1 : m.2.2.1 = 0
    · rw [if_pos q1]; exact hs
    · rw [if_neg q1] at h ⊢
      by_cases q2 : (liM T N σ m).1 = 1
      · rw [if_pos q2] at h ⊢
        by_cases q3 : (liM T N σ m).2.2.2.2.1 = 4
        · rw [if_pos q3] at h ⊢
          exact ih _ _ (liM_cs q2 hs) h
        · rw [if_neg q3] at h; exact absurd h h01
      · rw [if_neg q2] at h; exact absurd h h01
-- the places are numbered
theorem np_at {o f g j : Nat} (hfg : ¬ f = g) : ∀ i (τ : rS) (s : Nat), τ o g 0 = nI s → s + i ≤ 100 → (itS (fun _ τ => up (up τ o f (τ o g 0) (nI j)) o g 0 (τ o g 0 + 1)) i τ o g 0 = nI (s + i)) ∧ ∀ t, t ≤ 100 → itS (fun _ τ => up (up τ o f (τ o g 0) (nI j)) o g 0 (τ o g 0 + 1)) i τ o f (nI t) = if s ≤ t ∧ t < s + i then nI j else τ o f (nI t) := by
  intro i
  induction i with
  | zero =>
    intro τ s h _
    refine ⟨h, fun t _ => ?_⟩
    rw [if_neg (by omega)]
    rfl
  | succ i ih =>
    intro τ s h hs
    obtain ⟨i1, i2⟩ := ih τ s h (by omega)
    show (up (up (itS (fun _ τ => up (up τ o f (τ o g 0) (nI j)) o g 0 (τ o g 0 + 1)) i τ) o f (itS (fun _ τ => up (up τ o f (τ o g 0) (nI j)) o g 0 (τ o g 0 + 1)) i τ o g 0) (nI j)) o g 0 (itS (fun _ τ => up (up τ o f (τ o g 0) (nI j)) o g 0 (τ o g 0 + 1)) i τ o g 0 + 1) o g 0 = nI (s + (i + 1))) ∧ ∀ t, t ≤ 100 → up (up (itS (fun _ τ => up (up τ o f (τ o g 0) (nI j)) o g 0 (τ o g 0 + 1)) i τ) o f (itS (fun _ τ => up (up τ o f (τ o g 0) (nI j)) o g 0 (τ o g 0 + 1)) i τ o g 0) (nI j)) o g 0 (itS (fun _ τ => up (up τ o f (τ o g 0) (nI j)) o g 0 (τ o g 0 + 1)) i τ o g 0 + 1) o f (nI t) = if s ≤ t ∧ t < s + (i + 1) then nI j else τ o f (nI t)
    rw [i1]
    generalize itS (fun _ τ => up (up τ o f (τ o g 0) (nI j)) o g 0 (τ o g 0 + 1)) i τ = S at *
    refine ⟨?_, fun t ht => ?_⟩
    · rw [up_self, ← nI_succ]; rfl
    · rw [show ∀ v, up (up S o f (nI (s + i)) (nI j)) o g 0 v o f (nI t) = up S o f (nI (s + i)) (nI j) o f (nI t) from fun v => up_k hfg]
      by_cases ht2 : t = s + i
      · rw [ht2, up_self, if_pos (by omega)]
      · rw [show up S o f (nI (s + i)) (nI j) o f (nI t) = S o f (nI t) from up_i (fun z => ht2 ((nI_eq (by omega) (by omega)).mp z)), i2 t ht]
        by_cases h3 : s ≤ t ∧ t < s + i
        · rw [if_pos h3, if_pos (by omega)]
        · rw [if_neg h3, if_neg (by omega)]
theorem num_eq {X Y : rS} {q : Nat} {sh : Nat → Nat} (hX : X q 4 0 = 0) (hY : Y 8 6 0 = 0) (hsh : ∀ i, i < 6 → sh i ≤ 4) : ∀ j, j ≤ 6 → ∀ t, t < suS sh j → npO q sh j X q 3 (nI t) = plM sh j Y 8 7 (nI t) ∧ ∃ b, b < 6 ∧ plM sh j Y 8 7 (nI t) = nI b ∧ 1 ≤ sh b := by
  intro j
  induction j with
  | zero => intro _ t ht; exact absurd ht (Nat.not_lt_zero t)
  | succ j ih =>
    intro hj t ht
    have ht' : t < suS sh j + sh j := ht
    have ih := ih (by omega)
    have hsj := suS_le j (fun i hi => hsh i (by omega))
    have h4 := hsh j (by omega)
    have n4 : npO q sh j X q 4 0 = nI (suS sh j) := npO_4 hX j
    have n6 : cpM j (plM sh j Y) 8 6 0 = nI (suS sh j) := by
      rw [cpM_fr (Or.inl (by decide))]
      exact plM_6 hY j
    have c7 : ∀ i, cpM j (plM sh j Y) 8 7 i = plM sh j Y 8 7 i := fun i => cpM_fr (Or.inl (by decide))
    have a := (np_at (o := q) (f := 3) (g := 4) (j := j) (by decide) (sh j) (npO q sh j X) (suS sh j) n4 (by omega)).2 t (by omega)
    have b := (np_at (o := 8) (f := 7) (g := 6) (j := j) (by decide) (sh j) (cpM j (plM sh j Y)) (suS sh j) n6 (by omega)).2 t (by omega)
    rw [c7] at b
    have a' : npO q sh (j + 1) X q 3 (nI t) = if suS sh j ≤ t ∧ t < suS sh j + sh j then nI j else npO q sh j X q 3 (nI t) := a
    have b' : plM sh (j + 1) Y 8 7 (nI t) = if suS sh j ≤ t ∧ t < suS sh j + sh j then nI j else plM sh j Y 8 7 (nI t) := b
    rw [a', b']
    by_cases h : suS sh j ≤ t ∧ t < suS sh j + sh j
    · rw [if_pos h, if_pos h]
      exact ⟨rfl, j, by omega, rfl, by omega⟩
    · rw [if_neg h, if_neg h]
      exact ih t (by omega)
theorem ar_6 {j : Int32} (h0 : 0 ≤ j) (h1 : j < 6) : 6 ≤ 6 + j ∧ 6 + j < 12 := by grind
theorem ar_4 {j k : Int32} (h0 : 0 ≤ j) (h1 : j < 4) (h2 : 0 ≤ k) (h3 : k < 4) : ¬ 4 + k = j := by grind
theorem pl_cp {Y : rS} {sh : Nat → Nat} {k : Nat} (hk : k = 3 ∨ k = 4) : ∀ j, j ≤ 6 → ∀ b, b < j → plM sh j Y 8 k (nI b) = Y 8 k (6 + nI b) := by
  intro j
  induction j with
  | zero => intro _ b hb; omega
  | succ j ih =>
    intro hj b hb
    have e : plM sh (j + 1) Y 8 k (nI b) = cpM j (plM sh j Y) 8 k (nI b) := npM_fr (by rcases hk with z | z <;> (subst z; decide)) (sh j)
    rw [e]
    have f := nI_facts (j := j) (n := 6) 6 (by omega) (Nat.le_refl _) (by decide) rfl
    have hi := plM_hi (sh := sh) (σ := Y) (k' := k) (b := 6 + nI j) hk (ar_6 f.1 f.2.1).1 j (by omega)
    by_cases h : b = j
    · subst h
      rw [← hi]
      unfold cpM
      rcases hk with z | z
      · subst z
        exact (up_k (by decide)).trans up_self
      · subst z
        rw [up_self]
    · have ne : ¬ nI b = nI j := fun z => h ((nI_eq (by omega) (by omega)).mp z)
      rw [cpM_fr (Or.inr ne)]
      exact ih (by omega) b (by omega)
theorem ru_at {σ : rS} : ∀ j, j ≤ 4 → (∀ k, k < j → ruM j σ 8 5 (nI k) = if σ 8 5 (4 + nI k) < 0 then 0 else σ 8 5 (4 + nI k)) ∧ (∀ k, k < 4 → ruM j σ 8 5 (4 + nI k) = σ 8 5 (4 + nI k)) := by
  intro j
  induction j with
  | zero => intro _; exact ⟨fun k hk => by omega, fun _ _ => rfl⟩
  | succ j ih =>
    intro hj
    obtain ⟨i1, i2⟩ := ih (by omega)
    have f := nI_facts (j := j) (n := 4) 4 (by omega) (Nat.le_refl _) (by decide) rfl
    have e := i2 j (by omega)
    refine ⟨fun k hk => ?_, fun k hk => ?_⟩
    · show up (ruM j σ) 8 5 (nI j) (if ruM j σ 8 5 (4 + nI j) < 0 then 0 else ruM j σ 8 5 (4 + nI j)) 8 5 (nI k) = _
      rw [e]
      by_cases h : k = j
      · rw [h]; exact up_self
      · rw [show ∀ v, up (ruM j σ) 8 5 (nI j) v 8 5 (nI k) = ruM j σ 8 5 (nI k) from fun v => up_i (fun z => h ((nI_eq (by omega) (by omega)).mp z))]
        exact i1 k (by omega)
    · show up (ruM j σ) 8 5 (nI j) _ 8 5 (4 + nI k) = _
      have f2 := nI_facts (j := k) (n := 4) 4 (by omega) (Nat.le_refl _) (by decide) rfl
      rw [up_i (ar_4 f.1 f.2.1 f2.1 f2.2.1)]
      exact i2 k hk
