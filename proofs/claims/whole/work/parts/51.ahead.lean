-- steps of both sides: ahead
def LoR (U μ : rS) : Prop := (∀ x, 0 ≤ x → x < 12 → U 8 11 x = μ 8 11 x ∧ U 8 13 x = μ 8 13 x) ∧ (∀ p, 0 ≤ p → p < 24 → U 8 18 p = μ 8 18 p)
theorem LoR.rf {μ : rS} : LoR μ μ := ⟨fun _ _ _ => ⟨rfl, rfl⟩, fun _ _ _ => rfl⟩
theorem LoR.tr {U V μ : rS} (h : LoR U V) (h2 : LoR V μ) : LoR U μ := ⟨fun x a b => ⟨((h.1 x a b).1).trans (h2.1 x a b).1, ((h.1 x a b).2).trans (h2.1 x a b).2⟩, fun p a b => (h.2 p a b).trans (h2.2 p a b)⟩
theorem ar_12 {V x : Int32} (h0 : 0 ≤ V) (h1 : V < 12) (h2 : 0 ≤ x) (h3 : x < 12) : ¬ x = 12 + V := by grind
theorem ar_24 {V x : Int32} (h0 : 0 ≤ V) (h1 : V < 24) (h2 : 0 ≤ x) (h3 : x < 24) : ¬ x = 24 + V := by grind
theorem LoR.u18 {U : rS} {V v : Int32} (h0 : 0 ≤ V) (h1 : V < 24) : LoR (up U 8 18 (24 + V) v) U := ⟨fun x _ _ => ⟨up_k (by decide), up_k (by decide)⟩, fun p a b => up_i (ar_24 h0 h1 a b)⟩
theorem LoR.u11 {U : rS} {V v : Int32} (h0 : 0 ≤ V) (h1 : V < 12) : LoR (up U 8 11 (12 + V) v) U := ⟨fun x a b => ⟨up_i (ar_12 h0 h1 a b), up_k (by decide)⟩, fun p _ _ => up_k (by decide)⟩
theorem LoR.u13 {U : rS} {V v : Int32} (h0 : 0 ≤ V) (h1 : V < 12) : LoR (up U 8 13 (12 + V) v) U := ⟨fun x a b => ⟨up_k (by decide), up_i (ar_12 h0 h1 a b)⟩, fun p _ _ => up_k (by decide)⟩
theorem ar_i0 {j : Int32} (h0 : 0 ≤ j) (h1 : j < 24) : 0 ≤ 24 + j ∧ 24 + j < 48 := by grind
theorem lo_f1 {U : rS} : ∀ j, j ≤ 24 → LoR (f1M 24 j U) U := by
  intro j
  induction j with
  | zero => intro _; exact LoR.rf
  | succ j ih =>
    intro hj
    have f := nI_facts (j := j) (n := 24) 24 (by omega) (Nat.le_refl _) (by decide) rfl
    exact (LoR.u18 f.1 f.2.1).tr (ih (by omega))
theorem lo_f2 {U : rS} {year : Int32} {n m : Nat} (hm : m ≤ 24) : ∀ j, j ≤ m → LoR (f2F 12 24 year n m U j).2 U := by
  intro j
  induction j with
  | zero => intro _; exact lo_f1 m hm
  | succ j ih =>
    intro hj
    have f := nI_facts (j := j) (n := 24) 24 (by omega) (Nat.le_refl _) (by decide) rfl
    exact (LoR.u18 f.1 f.2.1).tr (ih (by omega))
theorem lo_en {U : rS} {year : Int32} (hr : MIr U) : ∀ j, j ≤ 24 → LoR (enG 12 24 year U j).2 U := by
  intro j
  induction j with
  | zero => intro _; exact LoR.rf
  | succ j ih =>
    intro hj
    have ih := ih (by omega)
    have f := nI_facts (j := j) (n := 24) 24 (by omega) (Nat.le_refl _) (by decide) rfl
    have f24 : nI j < 24 := f.2.1
    have fr : (enG 12 24 year U j).2 8 18 = U 8 18 := by funext i; exact enG_fr (fun z => z.2.elim (fun y => absurd y (by decide)) (fun y => absurd y (by decide))) j
    have r := hr (24 + nI j) (ar_i0 f.1 f24).1 (ar_i0 f.1 f24).2
    show LoR (enStep 12 24 year j (enG 12 24 year U j)).2 U
    rw [← fr] at r
    generalize enG 12 24 year U j = S at *
    unfold enStep
    by_cases h : S.2 8 18 (24 + nI j) < 0
    · rw [if_pos h]; exact ih
    · rw [if_neg h]
      have r0 := Int32.not_lt.mp h
      exact ((LoR.u13 r0 r.2).tr (LoR.u11 r0 r.2)).tr ih
theorem lo_cm {U : rS} : ∀ j, j ≤ 12 → LoR (itS cmStep j U) U := by
  intro j
  induction j with
  | zero => intro _; exact LoR.rf
  | succ j ih =>
    intro hj
    have f := nI_facts (j := j) (n := 12) 12 (by omega) (Nat.le_refl _) (by decide) rfl
    exact ((LoR.u13 f.1 f.2.1).tr (LoR.u11 f.1 f.2.1)).tr (ih (by omega))
theorem lo_cb {U : rS} : ∀ j, j ≤ 24 → LoR (itS cbStep j U) U := by
  intro j
  induction j with
  | zero => intro _; exact LoR.rf
  | succ j ih =>
    intro hj
    have f := nI_facts (j := j) (n := 24) 24 (by omega) (Nat.le_refl _) (by decide) rfl
    exact (LoR.u18 f.1 f.2.1).tr (ih (by omega))
theorem lo_gv {U : rS} {c : Nat} (hg : MIg U c) (hc : c ≤ 40) : ∀ j, j ≤ c → LoR (itS gvStep j U) U := by
  intro j
  induction j with
  | zero => intro _; exact LoR.rf
  | succ j ih =>
    intro hj
    have ih := ih (by omega)
    have f := nI_facts (j := j) (n := c) 40 (by omega) hc (by decide) rfl
    have g := hg (nI j) f.1 f.2.1
    have e : itS gvStep j U 8 24 = U 8 24 := by funext i; exact gv_fr (by decide) j
    show LoR (gvStep j (itS gvStep j U)) U
    have g5 := g.2.2.2.2.1
    have g6 := g.2.2.2.2.2
    rw [← e] at g5 g6
    generalize itS gvStep j U = S at *
    unfold gvStep
    split
    · exact (LoR.u18 g5 g6).tr ih
    · exact ih
theorem lo_am {U : rS} {yb : Int32} {n m : Nat} (hn : n ≤ 12) (hm : m ≤ 24) (hr : MIr U) : ∀ j, LoR (amG yb n m U j).2 U := by
  intro j
  induction j with
  | zero => exact LoR.rf
  | succ j ih =>
    have r := am_rng (yb := yb) (n := n) (mm := m) hn hr j
    show LoR (enG 12 24 (yb + nI j) (f2F 12 24 (yb + nI j) n m (amG yb n m U j).2 m).2 m).2 U
    exact ((lo_en (f2F_rng hn r m) m hm).tr (lo_f2 hm m (Nat.le_refl _))).tr ih
-- the copies
theorem nI12a (j : Nat) : (12 : Int32) + nI j = nI (12 + j) := nI_add 12 j
theorem nI24a (j : Nat) : (24 : Int32) + nI j = nI (24 + j) := nI_add 24 j
theorem cpA_fr {σ : rS} {o' k' : Nat} {i' : Int32} (h : ¬ o' = 4) : ∀ j, itS (cpA 4 3) j σ o' k' i' = σ o' k' i' := by
  intro j
  induction j with
  | zero => rfl
  | succ j ih =>
    show cpA 4 3 j (itS (cpA 4 3) j σ) o' k' i' = _
    unfold cpA
    rw [up_o h, up_o h, up_o h, up_o h, up_o h]
    exact ih
theorem cpB_fr {σ : rS} {o' k' : Nat} {i' : Int32} (h : ¬ (o' = 4 ∧ (k' = 5 ∨ k' = 6))) : ∀ j, itS (cpB 4 3) j σ o' k' i' = σ o' k' i' := by
  intro j
  induction j with
  | zero => rfl
  | succ j ih =>
    show cpB 4 3 j (itS (cpB 4 3) j σ) o' k' i' = _
    rw [← ih]
    unfold cpB
    simp only [up]
    rw [if_neg (fun z => h ⟨z.1, Or.inr z.2.1⟩), if_neg (fun z => h ⟨z.1, Or.inl z.2.1⟩)]
theorem cpA_at {σ : rS} {f : Nat} (hf : f = 0 ∨ f = 2 ∨ f = 4) : ∀ j i, i < j → j ≤ 12 → itS (cpA 4 3) j σ 4 f (nI i) = σ 3 f (nI i) := by
  intro j
  induction j with
  | zero => intro i hi; omega
  | succ j ih =>
    intro i hi hj
    have fr : itS (cpA 4 3) j σ 3 f (nI j) = σ 3 f (nI j) := cpA_fr (by decide) j
    show cpA 4 3 j (itS (cpA 4 3) j σ) 4 f (nI i) = _
    by_cases hij : i = j
    · rw [hij, ← fr]
      unfold cpA
      rcases hf with z | z | z <;> (subst z; simp [up])
    · have := ih i (by omega) (by omega)
      rw [← this]
      have hne : ¬ nI i = nI j := fun z => hij ((nI_eq (by omega) (by omega)).mp z)
      unfold cpA
      rw [up_i hne, up_i hne, up_i hne, up_i hne, up_i hne]
theorem cpB_at {σ : rS} : ∀ j i, i < j → j ≤ 24 → itS (cpB 4 3) j σ 4 5 (nI i) = σ 3 5 (nI i) := by
  intro j
  induction j with
  | zero => intro i hi; omega
  | succ j ih =>
    intro i hi hj
    have fr : itS (cpB 4 3) j σ 3 5 (nI j) = σ 3 5 (nI j) := cpB_fr (by decide) j
    show cpB 4 3 j (itS (cpB 4 3) j σ) 4 5 (nI i) = _
    by_cases hij : i = j
    · rw [hij, ← fr]
      unfold cpB
      simp [up]
    · have := ih i (by omega) (by omega)
      rw [← this]
      have hne : ¬ nI i = nI j := fun z => hij ((nI_eq (by omega) (by omega)).mp z)
      unfold cpB
      rw [up_i hne, up_i hne]
theorem copy_at {τ : rS} : (∀ f, f = 0 ∨ f = 2 ∨ f = 4 → ∀ x, 0 ≤ x → x < 12 → sCopy 4 3 τ 4 f x = τ 3 f x) ∧ (∀ p, 0 ≤ p → p < 24 → sCopy 4 3 τ 4 5 p = τ 3 5 p) := by
  refine ⟨fun f hf x a b => ?_, fun p a b => ?_⟩
  · obtain ⟨i, hi, rfl⟩ := nI12 a b
    unfold sCopy
    rw [cpB_fr (by rcases hf with z | z | z <;> (subst z; decide)) 24, cpA_at hf 12 i hi (by decide)]
    exact up_o (by decide)
  · obtain ⟨i, hi, rfl⟩ := nI24 a b
    unfold sCopy
    rw [cpB_at 24 i hi (by decide), cpA_fr (by decide) 12]
    exact up_o (by decide)
theorem cm_at {μ : rS} : ∀ j i, i < j → j ≤ 12 → itS cmStep j μ 8 11 (12 + nI i) = μ 8 11 (nI i) ∧ itS cmStep j μ 8 13 (12 + nI i) = μ 8 13 (nI i) := by
  intro j
  induction j with
  | zero => intro i hi; omega
  | succ j ih =>
    intro i hi hj
    have f := nI_facts (j := j) (n := 12) 12 (by omega) (Nat.le_refl _) (by decide) rfl
    have lo := (lo_cm (U := μ) j (by omega)).1 (nI j) f.1 f.2.1
    show cmStep j (itS cmStep j μ) 8 11 (12 + nI i) = _ ∧ cmStep j (itS cmStep j μ) 8 13 (12 + nI i) = _
    by_cases hij : i = j
    · rw [hij, ← lo.1, ← lo.2]
      unfold cmStep
      simp [up]
    · have := ih i (by omega) (by omega)
      rw [← this.1, ← this.2]
      have hne : ¬ (12 : Int32) + nI i = 12 + nI j := fun z => hij ((nI_eq (by omega) (by omega)).mp (ar_add z))
      unfold cmStep
      rw [up_i hne, up_i hne, up_i hne, up_i hne]
      exact ⟨rfl, rfl⟩
theorem cb_at {μ : rS} : ∀ j i, i < j → j ≤ 24 → itS cbStep j μ 8 18 (24 + nI i) = μ 8 18 (nI i) := by
  intro j
  induction j with
  | zero => intro i hi; omega
  | succ j ih =>
    intro i hi hj
    have f := nI_facts (j := j) (n := 24) 24 (by omega) (Nat.le_refl _) (by decide) rfl
    have lo := (lo_cb (U := μ) j (by omega)).2 (nI j) f.1 f.2.1
    show cbStep j (itS cbStep j μ) 8 18 (24 + nI i) = _
    by_cases hij : i = j
    · rw [hij, ← lo]
      unfold cbStep
      exact up_self
    · have := ih i (by omega) (by omega)
      rw [← this]
      have hne : ¬ (24 : Int32) + nI i = 24 + nI j := fun z => hij ((nI_eq (by omega) (by omega)).mp (ar_add z))
      unfold cbStep
      rw [up_i hne]
-- the verdicts foreseen
theorem fv_eq {τ μ : rS} {n m c : Nat} (hF : RF τ μ n c) (hs : τ 4 7 0 = nI n) (hn : n ≤ 12) (hm : m ≤ 24) (h3 : ∀ x, 0 ≤ x → x < 12 → τ 4 0 x = μ 8 11 x) (h7 : R7 τ μ 4 24 n m) (h11 : R11 τ 4 m c 0) (h12 : R12 τ c) : ∀ j, j ≤ c → R7 (itS (fvStep 5 4) j τ) (itS gvStep j μ) 4 24 n m ∧ R11 (itS (fvStep 5 4) j τ) 4 m c (nI j) := by
  have hn12 := nI_le12 hn
  intro j
  induction j with
  | zero => intro _; exact ⟨h7, h11⟩
  | succ j ih =>
    intro hj
    obtain ⟨i7, i11⟩ := ih (by omega)
    have f := nI_facts (j := j) 40 (by omega : j < c) hF.2.2.1 (by decide) rfl
    have f40 : nI j < 40 := ar_lt f.2.1 (nI_le40 hF.2.2.1)
    have t5 : itS (fvStep 5 4) j τ 5 = τ 5 := by funext k' i; exact fv_fr (fun z => absurd z.1 (by decide)) j
    have t4 : ∀ k', ¬ (k' = 4 ∨ k' = 5 ∨ k' = 6) → itS (fvStep 5 4) j τ 4 k' = τ 4 k' := fun k' h => by funext i; exact fv_fr (fun z => h z.2) j
    have uf : ∀ k', ¬ k' = 18 → itS gvStep j μ 8 k' = μ 8 k' := fun k' h => by funext i; exact gv_fr (fun z => h z.2) j
    have gF : RF (itS (fvStep 5 4) j τ) (itS gvStep j μ) n c := hF.tr t5 (uf 21 (by decide)) (uf 22 (by decide)) (uf 23 (by decide)) (uf 24 (by decide)) (uf 25 (by decide)) (uf 26 (by decide)) (uf 27 (by decide)) (uf 28 (by decide)) (uf 29 (by decide))
    have g3 : ∀ x, 0 ≤ x → x < 12 → itS (fvStep 5 4) j τ 4 0 x = itS gvStep j μ 8 11 x := fun x a b => by
      rw [t4 0 (by decide), uf 11 (by decide)]; exact h3 x a b
    have gs : itS (fvStep 5 4) j τ 4 7 0 = nI n := by rw [t4 7 (by decide)]; exact hs
    have g12 : R12 (itS (fvStep 5 4) j τ) c := by
      intro k l a b d e o1 o2 ne
      unfold opn at o1 o2
      unfold apt
      rw [t5] at o1 o2 ⊢
      exact h12 k l a b d e o1 o2 ne
    show R7 (fvStep 5 4 j (itS (fvStep 5 4) j τ)) (gvStep j (itS gvStep j μ)) 4 24 n m ∧ R11 (fvStep 5 4 j (itS (fvStep 5 4) j τ)) 4 m c (nI (j + 1))
    generalize itS (fvStep 5 4) j τ = T at *
    generalize itS gvStep j μ = U at *
    clear hF hs h3 h7 h11 h12 ih t5 t4 uf
    obtain ⟨r1, r2⟩ := run_op gF f.1 f.2.1
    obtain ⟨x1, y1, p1⟩ := gF.men f.1 f.2.1
    obtain ⟨a0, a1, a2, a3, a4, a5, a6, a7, -⟩ := gF.2.2.2 (nI j) f.1 f.2.1
    have x12 := ar_lt x1.2 hn12
    have y12 := ar_lt y1.2 hn12
    have hX : hasM T 4 (T 5 0 (nI j)) := ⟨x1.1, by rw [gs]; exact x1.2, x12⟩
    have hY : hasM T 4 (T 5 1 (nI j)) := ⟨y1.1, by rw [gs]; exact y1.2, y12⟩
    have vg : verB T 5 4 (nI j) ↔ goB U (nI j) := by
      unfold verB goB
      rw [show gM T 4 0 (T 5 0 (nI j)) 0 = T 4 0 (T 5 0 (nI j)) from if_pos hX, show gM T 4 0 (T 5 1 (nI j)) 0 = T 4 0 (T 5 1 (nI j)) from if_pos hY, g3 _ x1.1 x12, g3 _ y1.1 y12, a0, a1, a4, a6, a7]
    have hC := hasC_of gF f.1 f.2.1
    have keep : R11 T 4 m c (nI (j + 1)) := fun k a b o => i11 k (by rw [f.2.2.2] at a; exact (ar_s1 f.1 f40 a).1) b o
    unfold fvStep gvStep
    by_cases ho : opn T (nI j)
    · rw [if_pos (r1.mpr ho)]
      by_cases hg : goB U (nI j)
      · have e1 : vV T 5 4 (nI j) = 4 := by unfold vV; rw [if_pos hC, if_pos (vg.mpr hg)]
        have e2 : sCar T 5 4 (nI j) 4 = sLay (sFree T 4 (T 5 0 (nI j))) 4 (T 5 1 (nI j)) (T 5 2 (nI j)) := if_pos ⟨hC, rfl⟩
        rw [if_pos ⟨r2.mp ho, hg⟩, e1, ← a1, ← a2]
        obtain ⟨H, eH⟩ : ∃ H, H = sLay (sFree T 4 (T 5 0 (nI j))) 4 (T 5 1 (nI j)) (T 5 2 (nI j)) := ⟨_, rfl⟩
        obtain ⟨q4, q5, q6, qf⟩ := hand_at hX hY p1 eH
        rw [e2, ← eH]
        have e5 : H 5 = T 5 := by funext k'; exact qf 5 k' (fun z => absurd z.1 (by decide))
        have oo := i11 (nI j) (Int32.le_refl _) f.2.1 ho
        refine ⟨?_, ?_⟩
        · exact R7f_over (pl := T 4 4) (be := T 4 5) (ro := fun p => U 8 18 (24 + p)) (pl' := H 4 4) (be' := H 4 5) (ro' := fun p => up U 8 18 (24 + T 5 2 (nI j)) (T 5 1 (nI j)) 8 18 (24 + p)) i7 ⟨p1.1, oo.2.2.1⟩ oo.2.2.2.1 oo.1 y1 oo.2.2.2.2 q4 q5 (fun p _ _ => up_row)
        · intro l a b o
          have o' : opn T l := by
            unfold opn at o ⊢
            rw [e5] at o
            exact o
          rw [f.2.2.2] at a
          have al := ar_s1 f.1 f40 a
          have l0 : 0 ≤ l := Int32.le_trans f.1 al.1
          exact opO_hand ⟨rfl, rfl, rfl⟩ oo (i11 l al.1 b o') (g12 (nI j) l f.1 f.2.1 l0 b ho o' (fun z => al.2 z.symm)) q4 q5 e5
      · have e1 : vV T 5 4 (nI j) = 5 := by unfold vV; rw [if_pos hC, if_neg (fun z => hg (vg.mp z))]
        have e2 : sCar T 5 4 (nI j) 5 = T := if_neg (fun z => absurd z.2 (by decide))
        rw [if_neg (fun z => hg z.2), e1, e2]
        exact ⟨i7, keep⟩
    · rw [if_neg (fun z => ho (r1.mp z)), if_neg (fun z => ho (r2.mpr z.1))]
      exact ⟨i7, keep⟩
-- a year ahead
def AR (τ μ : rS) (q n m : Nat) : Prop := τ 4 7 0 = nI n ∧ R3 τ μ 4 12 ∧ RD τ μ q m ∧ (∀ x, 0 ≤ x → x < 12 → τ 4 4 x = -1) ∧ (∀ p, 0 ≤ p → p < 24 → τ 4 5 p = -1)
theorem AR_set {τ μ : rS} {q n m : Nat} {year : Int32} (hs : τ 4 7 0 = nI n) (hn : n ≤ 12) (h3 : R3 τ μ 4 12) (h7 : R7 τ μ 4 24 n m) (hD : RD τ μ q m) (hq : ¬ q = 4) : AR (seS 4 q year m τ) (enG 12 24 year μ m).2 q n m := by
  obtain ⟨s1, s3⟩ := settle_eq (year := year) hs hn h3 h7 hD hq m (Nat.le_refl _)
  have r9 := seS_45 (σ := τ) (o := 4) (q := q) (m := m) (year := year)
  have sk : ∀ o' k', ¬ (o' = 4 ∧ (k' = 4 ∨ k' = 5)) → seS 4 q year m τ o' k' = (seF 4 q year τ m).2 o' k' := fun o' k' h => seS_k h
  have sf : ∀ o' k', ¬ (o' = 4 ∧ (k' = 0 ∨ k' = 2 ∨ k' = 3)) → (seF 4 q year τ m).2 o' k' = τ o' k' := fun o' k' h => by funext i; exact seF_fr h m
  have ef : ∀ k', ¬ (k' = 11 ∨ k' = 13) → (enG 12 24 year μ m).2 8 k' = μ 8 k' := fun k' h => by funext i; exact enG_fr (fun z => h z.2) m
  refine ⟨?_, fun x a b => ?_, hD.tr (by funext k'; exact (sk q k' (fun z => hq z.1)).trans (sf q k' (fun z => hq z.1))) (ef 3 (by decide)) (ef 4 (by decide)) (ef 5 (by decide)) (ef 6 (by decide)) (ef 7 (by decide)), r9.1, r9.2⟩
  · rw [sk 4 7 (by decide), sf 4 7 (by decide)]; exact hs
  · rw [sk 4 0 (by decide), sk 4 2 (by decide)]
    exact s3 x a b
theorem AR_yr {τ μ : rS} {q n m : Nat} {year : Int32} (h : AR τ μ q n m) (hn : n ≤ 12) (hq : ¬ q = 4) : (fiF 4 q year n τ m).1 = (f2F 12 24 year n m μ m).1 ∧ AR (yrS 4 q n m year τ) (enG 12 24 year (f2F 12 24 year n m μ m).2 m).2 q n m := by
  obtain ⟨hs, h3, hD, h4, h5⟩ := h
  obtain ⟨f1, f2, -, -⟩ := fill_eq (cn := 12) (rw := 24) (year := year) hs hn h3 hD.2.2.1 hD.2.2.2.2.2 hq h4 h5 m (Nat.le_refl _)
  have ff : ∀ o' k', ¬ (o' = 4 ∧ (k' = 4 ∨ k' = 5 ∨ k' = 6)) → (fiF 4 q year n τ m).2 o' k' = τ o' k' := fun o' k' h => by funext i; exact fiF_fr h m
  have gf : ∀ k', ¬ k' = 18 → (f2F 12 24 year n m μ m).2 8 k' = μ 8 k' := fun k' h => by funext i; exact f2F_fr (fun z => h z.2) m
  refine ⟨f1, AR_set (by rw [ff 4 7 (by decide)]; exact hs) hn (fun x a b => by rw [ff 4 0 (by decide), ff 4 2 (by decide), gf 11 (by decide), gf 13 (by decide)]; exact h3 x a b) f2 (hD.tr (by funext k'; exact ff q k' (fun z => hq z.1)) (gf 3 (by decide)) (gf 4 (by decide)) (gf 5 (by decide)) (gf 6 (by decide)) (gf 7 (by decide))) hq⟩
theorem AR_am {τ μ : rS} {q n m : Nat} {yb : Int32} (h : AR τ μ q n m) (hn : n ≤ 12) (hq : ¬ q = 4) : ∀ j, AR (ahF q n m yb j τ) (amG yb n m μ j).2 q n m := by
  intro j
  induction j with
  | zero => exact h
  | succ j ih => exact (AR_yr (year := yb + nI j) ih hn hq).2
theorem AR_0 {τ μ : rS} {q p n m c : Nat} (h1 : Rl2 τ μ q p n m c) : AR (ah0 τ q m c) (am0 μ m c) q n m := by
  obtain ⟨hA, hB, hC, hD, hE, hF, hG, hH⟩ := h1
  have hq : ¬ q = 4 := by rcases hA.1 with z | z <;> omega
  obtain ⟨cf, c5⟩ := copy_at (τ := τ)
  have ct : ∀ o', ¬ o' = 4 → sCopy 4 3 τ o' = τ o' := fun o' h => by funext k' i; exact cpy_fr h
  have c7 : sCopy 4 3 τ 4 7 0 = nI n := (cpy_sz (by decide)).trans hC.1
  have um : ∀ k', ¬ (k' = 11 ∨ k' = 13) → itS cmStep 12 μ 8 k' = μ 8 k' := fun k' h => by funext i; exact cm_fr (fun z => h z.2) 12
  have g3 : R3 (sCopy 4 3 τ) (itS cmStep 12 μ) 4 12 := fun x a b => by
    rw [cf 0 (by decide) x a b, cf 2 (by decide) x a b]
    have z := hC.2.2.2.1 x a b
    rw [Int32.zero_add] at z
    rw [z.1, z.2]
    obtain ⟨i, hi, rfl⟩ := nI12 a b
    have w := cm_at (μ := μ) 12 i hi (by decide)
    exact ⟨w.1.symm, w.2.symm⟩
  have gD : RD (sCopy 4 3 τ) (itS cmStep 12 μ) q m := hD.tr (ct q hq) (um 3 (by decide)) (um 4 (by decide)) (um 5 (by decide)) (um 6 (by decide)) (um 7 (by decide))
  unfold ah0 am0
  rw [hE.1, hE.2.1]
  by_cases hon : μ 8 16 0 = 0
  · rw [if_neg (fun z => z hon), if_neg (fun z => z hon)]
    have r9 := (hG.2 hon).1
    exact ⟨c7, g3, gD, fun x a b => (cf 4 (by decide) x a b).trans (r9.1 x a b), fun x a b => (c5 x a b).trans (r9.2 x a b)⟩
  · rw [if_pos hon, if_pos hon]
    obtain ⟨r7, r8, r11, r12⟩ := hG.1 hon
    have ub : ∀ k', ¬ k' = 18 → itS cbStep m (itS cmStep 12 μ) 8 k' = itS cmStep 12 μ 8 k' := fun k' h => by funext i; exact cb_fr (fun z => h z.2) m
    have ubm : ∀ k', ¬ k' = 18 → ¬ (k' = 11 ∨ k' = 13) → itS cbStep m (itS cmStep 12 μ) 8 k' = μ 8 k' := fun k' h h2 => (ub k' h).trans (um k' h2)
    have ct5 := ct 5 (by decide)
    have hm24 := nI_le24 hD.2.2.1
    have hn12 := nI_le12 hC.2.2.1
    have F0 : RF (sCopy 4 3 τ) (itS cbStep m (itS cmStep 12 μ)) n c := hF.tr ct5 (ubm 21 (by decide) (by decide)) (ubm 22 (by decide) (by decide)) (ubm 23 (by decide) (by decide)) (ubm 24 (by decide) (by decide)) (ubm 25 (by decide) (by decide)) (ubm 26 (by decide) (by decide)) (ubm 27 (by decide) (by decide)) (ubm 28 (by decide) (by decide)) (ubm 29 (by decide) (by decide))
    have h3L : ∀ x, 0 ≤ x → x < 12 → sCopy 4 3 τ 4 0 x = itS cbStep m (itS cmStep 12 μ) 8 11 x := fun x a b => by
      rw [cf 0 (by decide) x a b, ub 11 (by decide), ((lo_cm (U := μ) 12 (by decide)).1 x a b).1]
      have z := (hC.2.2.2.1 x a b).1
      rw [Int32.zero_add] at z
      exact z
    have R70 : R7 (sCopy 4 3 τ) (itS cbStep m (itS cmStep 12 μ)) 4 24 n m := by
      refine ⟨fun p a b => ?_, fun x a b => ?_⟩
      · have p24 := ar_lt b hm24
        have z := r7.1 p a b
        rw [Int32.zero_add] at z
        rw [c5 p a p24]
        refine ⟨?_, ?_⟩
        · rw [z.1]
          obtain ⟨i, hi, rfl⟩ := nI24 a p24
          rw [cb_at m i ((nI_ltI (by omega) (by have := hD.2.2.1; omega)).mp b) hD.2.2.1, um 18 (by decide)]
        · rcases z.2 with y | y
          · exact Or.inl y
          · refine Or.inr ⟨y.1, y.2.1, ?_⟩
            rw [cf 4 (by decide) _ y.1 (ar_lt y.2.1 hn12)]
            exact y.2.2
      · rw [cf 4 (by decide) x a b]
        rcases r7.2 x a b with y | y
        · exact Or.inl y
        · refine Or.inr ⟨y.1, y.2.1, ?_⟩
          rw [c5 _ y.1 (ar_lt y.2.1 hm24)]
          exact y.2.2
    have R110 : R11 (sCopy 4 3 τ) 4 m c 0 := by
      intro k a b o
      have o' : opn τ k := by unfold opn at o ⊢; rw [ct5] at o; exact o
      obtain ⟨z1, z2, z3, z4, z5⟩ := r11 k a b o'
      obtain ⟨x1, y1, p1⟩ := hF.men a b
      unfold opO
      rw [ct5, cf 4 (by decide) _ x1.1 (ar_lt x1.2 hn12), cf 4 (by decide) _ y1.1 (ar_lt y1.2 hn12), c5 _ p1.1 p1.2]
      exact ⟨z1, z2, z3, z4, z5⟩
    have R120 : R12 (sCopy 4 3 τ) c := by
      intro k l a b d e o1 o2 ne
      unfold opn at o1 o2
      unfold apt
      rw [ct5] at o1 o2 ⊢
      exact r12 k l a b d e o1 o2 ne
    obtain ⟨V7, -⟩ := fv_eq F0 c7 hC.2.2.1 hD.2.2.1 h3L R70 R110 R120 c (Nat.le_refl _)
    have tv : ∀ o' k', ¬ (o' = 4 ∧ (k' = 4 ∨ k' = 5 ∨ k' = 6)) → itS (fvStep 5 4) c (sCopy 4 3 τ) o' k' = sCopy 4 3 τ o' k' := fun o' k' h => by funext i; exact fv_fr h c
    have uv : ∀ k', ¬ k' = 18 → itS gvStep c (itS cbStep m (itS cmStep 12 μ)) 8 k' = itS cmStep 12 μ 8 k' := fun k' h => by
      rw [← ub k' h]; funext i; exact gv_fr (fun z => h z.2) c
    refine AR_set (by rw [tv 4 7 (by decide)]; exact c7) hC.2.2.1 (fun x a b => by rw [tv 4 0 (by decide), tv 4 2 (by decide), uv 11 (by decide), uv 13 (by decide)]; exact g3 x a b) V7 (gD.tr (by funext k'; exact tv q k' (fun z => hq z.1)) (uv 3 (by decide)) (uv 4 (by decide)) (uv 5 (by decide)) (uv 6 (by decide)) (uv 7 (by decide))) hq
theorem Rl2_low {τ μ τ' μ' : rS} {q p n m c : Nat} (h1 : Rl2 τ μ q p n m c) (t : ∀ o', ¬ o' = 4 → τ' o' = τ o') (u : ∀ k', ¬ (k' = 11 ∨ k' = 13 ∨ k' = 18) → μ' 8 k' = μ 8 k') (lo : LoR μ' μ) (hr : MIr μ') : Rl2 τ' μ' q p n m c := by
  obtain ⟨hA, hB, hC, hD, hE, hF, hG, hH⟩ := h1
  have hq : ¬ q = 4 := by rcases hA.1 with z | z <;> omega
  have t0 := t 0 (by decide)
  have t3 := t 3 (by decide)
  have t5 := t 5 (by decide)
  have yU : yrs μ' = yrs μ := by unfold yrs; rw [u 16 (by decide), u 15 (by decide)]
  refine ⟨hA.tr (by rw [t0]) (by rw [t0]), hB.tr (t 1 (by decide)) (t 2 (by decide)) (u 0 (by decide)) (u 1 (by decide)) (u 8 (by decide)) (u 9 (by decide)), ⟨by rw [t3]; exact hC.1, by rw [u 10 (by decide)]; exact hC.2.1, hC.2.2.1, fun x a b => ?_, fun x a b => ?_, fun x a b => ?_⟩, hD.tr (t q hq) (u 3 (by decide)) (u 4 (by decide)) (u 5 (by decide)) (u 6 (by decide)) (u 7 (by decide)), hE.tr (by rw [t0]) (by rw [t0]) (by rw [t0]) (by rw [t0]) (u 15 (by decide)) (u 16 (by decide)) (u 17 (by decide)) (u 20 (by decide)), hF.tr t5 (u 21 (by decide)) (u 22 (by decide)) (u 23 (by decide)) (u 24 (by decide)) (u 25 (by decide)) (u 26 (by decide)) (u 27 (by decide)) (u 28 (by decide)) (u 29 (by decide)), ⟨fun z => ?_, fun z => ?_⟩, ⟨hr, fun i hi => by rw [u 30 (by decide)]; exact hH.2 i hi⟩⟩
  · have z := hC.2.2.2.1 x a b
    rw [Int32.zero_add] at z ⊢
    rw [t3, (lo.1 x a b).1, (lo.1 x a b).2]
    exact z
  · rw [t3, u 12 (by decide), u 14 (by decide)]
    exact hC.2.2.2.2.1 x a b
  · rw [yU, u 12 (by decide), (lo.1 x a b).1]
    exact hC.2.2.2.2.2 x a b
  · rw [u 16 (by decide)] at z
    obtain ⟨r7, r8, r11, r12⟩ := hG.1 z
    refine ⟨⟨fun p a b => ?_, fun x a b => ?_⟩, ?_, ?_, ?_⟩
    · have w := r7.1 p a b
      rw [Int32.zero_add] at w ⊢
      rw [t3, lo.2 p a (ar_lt b (nI_le24 hD.2.2.1))]
      exact w
    · rw [t3]; exact r7.2 x a b
    · intro x p
      rw [t3, u 19 (by decide)]
      exact r8 x p
    · intro k a b o
      unfold opn at o
      unfold opO
      rw [t5] at o ⊢
      rw [t3]
      exact r11 k a b o
    · intro k l a b d e o1 o2 ne
      unfold opn at o1 o2
      unfold apt
      rw [t5] at o1 o2 ⊢
      exact r12 k l a b d e o1 o2 ne
  · rw [u 16 (by decide)] at z
    obtain ⟨r9, r13⟩ := hG.2 z
    refine ⟨⟨fun x a b => ?_, fun x a b => ?_⟩, fun k a b o => ?_⟩
    · rw [t3]; exact r9.1 x a b
    · rw [t3]; exact r9.2 x a b
    · unfold opn at o
      rw [t5] at o
      exact r13 k a b o
theorem am0_fr {μ : rS} {m c : Nat} {o' k' : Nat} {i' : Int32} (h : ¬ (o' = 8 ∧ (k' = 11 ∨ k' = 13 ∨ k' = 18))) : am0 μ m c o' k' i' = μ o' k' i' := by
  have h18 : ¬ (o' = 8 ∧ k' = 18) := fun z => h ⟨z.1, Or.inr (Or.inr z.2)⟩
  have h11 : ¬ (o' = 8 ∧ (k' = 11 ∨ k' = 13)) := fun z => h ⟨z.1, z.2.elim Or.inl (fun y => Or.inr (Or.inl y))⟩
  unfold am0
  split
  · rw [enG_fr h11 m, gv_fr h18 c, cb_fr h18 m]
    exact cm_fr h11 12
  · exact cm_fr h11 12
theorem am0_lo {τ μ : rS} {q p n m c : Nat} (h1 : Rl2 τ μ q p n m c) : LoR (am0 μ m c) μ ∧ MIr (am0 μ m c) := by
  have hM := h1.mi
  obtain ⟨hA, hB, hC, hD, hE, hF, hG, hH⟩ := h1
  have r1 : MIr (itS cmStep 12 μ) := fun i a b => by
    rw [cm_fr (by decide) 12]
    exact hH.1 i a b
  have lo1 : LoR (itS cmStep 12 μ) μ := lo_cm 12 (by decide)
  unfold am0
  split
  · have r2 : MIr (itS cbStep m (itS cmStep 12 μ)) := cb_rng r1 m hD.2.2.1
    have lo2 : LoR (itS cbStep m (itS cmStep 12 μ)) μ := (lo_cb m hD.2.2.1).tr lo1
    have g2 : MIg (itS cbStep m (itS cmStep 12 μ)) c := fun k a b => by
      have z := hM.2.2.2.2.2.2.2.2 k a b
      unfold rgB at z ⊢
      rw [cb_fr (by decide), cb_fr (by decide), cb_fr (by decide), cm_fr (by decide), cm_fr (by decide), cm_fr (by decide)]
      exact z
    have r3 : MIr (itS gvStep c (itS cbStep m (itS cmStep 12 μ))) := gv_rng r2 g2 hF.2.2.1 c (Nat.le_refl _)
    have lo3 : LoR (itS gvStep c (itS cbStep m (itS cmStep 12 μ))) μ := (lo_gv g2 hF.2.2.1 c (Nat.le_refl _)).tr lo2
    refine ⟨(lo_en r3 m hD.2.2.1).tr lo3, fun i a b => ?_⟩
    rw [enG_fr (fun z => z.2.elim (fun y => absurd y (by decide)) (fun y => absurd y (by decide))) m]
    exact r3 i a b
  · exact ⟨lo1, r1⟩
theorem p_ahead {τ μ : rS} {k : Int32} {q p n m c K : Nat} (hk : 0 ≤ k ∧ k ≤ 20 → k = nI K ∧ K ≤ 20) (h1 : Rl2 τ μ q p n m c) : (if 0 ≤ k ∧ k ≤ 20 then (fiF 4 q (τ 0 8 0 + k) n (ahF q n m (τ 0 8 0) K (ah0 τ q m c)) m).1 else -1) = (if 0 ≤ k ∧ k ≤ 20 then (amG (μ 8 15 0) n m (am0 μ m c) (K + 1)).1 else -1) ∧ ∃ q' p' n' m' c', Rl2 (if 0 ≤ k ∧ k ≤ 20 then (fiF 4 q (τ 0 8 0 + k) n (ahF q n m (τ 0 8 0) K (ah0 τ q m c)) m).2 else τ) (if 0 ≤ k ∧ k ≤ 20 then (amG (μ 8 15 0) n m (am0 μ m c) (K + 1)).2 else μ) q' p' n' m' c' := by
  by_cases hc : 0 ≤ k ∧ k ≤ 20
  · rw [if_pos hc, if_pos hc, if_pos hc, if_pos hc]
    have A0 := AR_0 h1
    have aL := am0_lo h1
    obtain ⟨hA, hB, hC, hD, hE, hF, hG, hH⟩ := id h1
    have hq : ¬ q = 4 := by rcases hA.1 with z | z <;> omega
    rw [hE.2.1, (hk hc).1]
    have A1 := AR_am (yb := μ 8 15 0) A0 hC.2.2.1 hq K
    refine ⟨(AR_yr (year := μ 8 15 0 + nI K) A1 hC.2.2.1 hq).1, q, p, n, m, c, ?_⟩
    refine Rl2_low h1 (fun o' h => ?_) (fun k' h => ?_) ((lo_am hC.2.2.1 hD.2.2.1 aL.2 (K + 1)).tr aL.1) (am_rng hC.2.2.1 aL.2 (K + 1))
    · funext k' i
      rw [fiF_fr (fun z => h z.1) m, ahF_fr (fun z => h z.1) K]
      exact ah0_fr h
    · funext i
      rw [am_fr (fun z => h z.2) (K + 1)]
      exact am0_fr (fun z => h z.2)
  · rw [if_neg hc, if_neg hc, if_neg hc, if_neg hc]
    exact ⟨rfl, q, p, n, m, c, h1⟩
theorem k20 (k : Int32) : ∃ K, 0 ≤ k ∧ k ≤ 20 → k = nI K ∧ K ≤ 20 := by
  by_cases h : 0 ≤ k ∧ k ≤ 20
  · obtain ⟨j, hj, e⟩ := nI_of2 (x := k) (M := 20) (n := 20) rfl (fun z => absurd h.1 (Int32.not_le.mpr z)) h.2
    exact ⟨j, fun _ => ⟨e, hj⟩⟩
  · exact ⟨0, fun z => absurd z h⟩
theorem b_ahead {σ : rS} {k : Int32} (h : Rl σ) : both mX5_ahead mX6_ahead [.inl k] σ := by
  obtain ⟨q, p, n, m, c, h⟩ := h
  obtain ⟨K, hK⟩ := k20 k
  refine both_pure h (c_X5_ahead h.sh hK) (fun μ e hR => c_X6_ahead e hR.mi hK) ?_ (fun μ hR => p_ahead hK hR) ?_
  · split
    · funext f i
      rw [fiF_fr (fun z => absurd z.1 (by decide)) m, ahF_fr (fun z => absurd z.1 (by decide)) K]
      exact ah0_fr (by decide)
    · rfl
  · intro μ o ho
    split
    · funext f i
      rw [am_fr (fun z => ho z.1) (K + 1)]
      exact am0_fr (fun z => ho z.1)
    · rfl
