-- steps of both sides: statutes
theorem and_rng (x : Int32) : 0 ≤ x &&& 255 ∧ x &&& 255 ≤ 255 := by
  have h : (x &&& 255).toBitVec.toNat ≤ 255 := by
    rw [Int32.toBitVec_and, BitVec.toNat_and]
    exact Nat.and_le_right
  have e : (x &&& 255).toInt = ((x &&& 255).toBitVec.toNat : Int) := by
    rw [← Int32.toInt_toBitVec]
    exact BitVec.toInt_eq_toNat_of_lt (by omega)
  refine ⟨Int32.le_iff_toInt_le.mpr ?_, Int32.le_iff_toInt_le.mpr ?_⟩
  · rw [e]; exact Int.natCast_nonneg _
  · rw [e, show (255 : Int32).toInt = 255 from rfl]; omega
theorem tx_ty {τ μ : rS} (h : R1 τ μ) : tx τ = ty μ := funext fun i => h.2.2.2 (nI i)
theorem tx_b (τ : rS) : bT (tx τ) := fun _ => and_rng _
theorem nI6 {x : Int32} (h0 : 0 ≤ x) (h1 : x < 6) : ∃ i, i < 6 ∧ x = nI i := by
  obtain ⟨i, hi, e⟩ := nI_of2 (x := x) (M := 5) (n := 5) rfl (fun z => absurd h0 (Int32.not_le.mpr z)) (by grind)
  exact ⟨i, by omega, e⟩
theorem nI4 {x : Int32} (h0 : 0 ≤ x) (h1 : x < 4) : ∃ i, i < 4 ∧ x = nI i := by
  obtain ⟨i, hi, e⟩ := nI_of2 (x := x) (M := 3) (n := 3) rfl (fun z => absurd h0 (Int32.not_le.mpr z)) (by grind)
  exact ⟨i, by omega, e⟩
theorem ruM0_at {σ : rS} : ∀ j i, i < j → j ≤ 4 → ruM0 j σ 8 5 (4 + nI i) = -1 := by
  intro j
  induction j with
  | zero => intro i hi; omega
  | succ j ih =>
    intro i hi hj
    show up (ruM0 j σ) 8 5 (4 + nI j) (-1) 8 5 (4 + nI i) = -1
    by_cases hij : i = j
    · rw [hij]; exact up_self
    · rw [show up (ruM0 j σ) 8 5 (4 + nI j) (-1) 8 5 (4 + nI i) = ruM0 j σ 8 5 (4 + nI i) from up_i (fun z => hij ((nI_eq (by omega) (by omega)).mp (ar_add z)))]
      exact ih i (by omega) (by omega)
theorem ar_6b {j b : Int32} (h0 : 0 ≤ j) (h1 : j < 6) (h2 : 0 ≤ b) (h3 : b < 6) : ¬ b = 6 + j := by grind
theorem ar_4b {j k : Int32} (h0 : 0 ≤ j) (h1 : j < 4) (h2 : 0 ≤ k) (h3 : k < 4) : ¬ k = 4 + j := by grind
theorem shM0_lo {σ : rS} : ∀ j, j ≤ 6 → LsI (shM0 j σ) σ := by
  intro j
  induction j with
  | zero => intro _; exact LsI.rf
  | succ j ih =>
    intro hj
    have f := nI_facts (j := j) (n := 6) 6 (by omega) (Nat.le_refl _) (by decide) rfl
    have u : LsI (up (shM0 j σ) 8 4 (6 + nI j) 0) (shM0 j σ) := ⟨fun b a d => ⟨up_k (by decide), up_i (ar_6b f.1 f.2.1 a d)⟩, fun k _ _ => up_k (by decide)⟩
    exact u.tr (ih (by omega))
theorem ruM0_lo {σ : rS} : ∀ j, j ≤ 4 → LsI (ruM0 j σ) σ := by
  intro j
  induction j with
  | zero => intro _; exact LsI.rf
  | succ j ih =>
    intro hj
    have f := nI_facts (j := j) (n := 4) 4 (by omega) (Nat.le_refl _) (by decide) rfl
    have u : LsI (up (ruM0 j σ) 8 5 (4 + nI j) (-1)) (ruM0 j σ) := ⟨fun b _ _ => ⟨up_k (by decide), up_k (by decide)⟩, fun k a d => up_i (ar_4b f.1 f.2.1 a d)⟩
    exact u.tr (ih (by omega))
theorem bM_lo {μ : rS} {n : Int32} : LsI (bM μ n) μ := (ruM0_lo 4 (by decide)).tr ((shM0_lo 6 (by decide)).tr ((LsI.uk (by decide)).tr ((LsI.uk (by decide)).tr ((LsI.uk (by decide)).tr (LsI.uk (by decide))))))
theorem bM_hi {μ : rS} {n : Int32} : (∀ b, 0 ≤ b → b < 6 → bM μ n 8 4 (6 + b) = 0) ∧ (∀ k, 0 ≤ k → k < 4 → bM μ n 8 5 (4 + k) = -1) ∧ bM μ n 8 8 0 = 0 ∧ bM μ n 8 9 0 = -1 ∧ bM μ n 8 1 0 = 0 := by
  have fr : ∀ k', ¬ (k' = 4 ∨ k' = 5) → ∀ i, bM μ n 8 k' i = b4M μ n 8 k' i := fun k' h i => (ruM0_fr (fun z => h (Or.inr z.2)) 4).trans (shM0_fr (fun z => h (Or.inl z.2)) 6)
  refine ⟨fun b a d => ?_, fun k a d => ?_, ?_, ?_, ?_⟩
  · obtain ⟨i, hi, rfl⟩ := nI6 a d
    exact (ruM0_fr (by decide) 4).trans (shM0_at 6 i hi (by decide))
  · obtain ⟨i, hi, rfl⟩ := nI4 a d
    exact ruM0_at 4 i hi (by decide)
  · rw [fr 8 (by decide)]; exact (up_k (by decide)).trans up_self
  · rw [fr 9 (by decide)]; exact up_self
  · rw [fr 1 (by decide)]; exact (up_k (by decide)).trans ((up_k (by decide)).trans up_self)
theorem rd0_at {τ : rS} {N p : Nat} (hp : ¬ p = 2) : (∀ b, 0 ≤ b → b < 6 → (rd0 τ N p).1 p 1 b = 0) ∧ (∀ k, 0 ≤ k → k < 4 → (rd0 τ N p).1 p 2 k = 0) ∧ (∀ k, 0 ≤ k → k < 4 → (rd0 τ N p).1 2 1 k = 0) := by
  refine ⟨fun b a d => ?_, fun k a d => ?_, fun k a d => ?_⟩
  · obtain ⟨i, hi, rfl⟩ := nI6 a d
    show sClr p (told0 4 (up τ 2 2 0 (nI N))) p 1 (nI i) = 0
    unfold sClr
    rw [up_k (by decide), itup_fr (fun z => absurd z.2 (by decide)) 4]
    exact itup_at 6 i hi (by decide)
  · obtain ⟨i, hi, rfl⟩ := nI4 a d
    show sClr p (told0 4 (up τ 2 2 0 (nI N))) p 2 (nI i) = 0
    unfold sClr
    rw [up_k (by decide)]
    exact itup_at 4 i hi (by decide)
  · obtain ⟨i, hi, rfl⟩ := nI4 a d
    show sClr p (told0 4 (up τ 2 2 0 (nI N))) 2 1 (nI i) = 0
    rw [sClr_fr (fun z => hp z.symm)]
    exact itup_at 4 i hi (by decide)
theorem Dr_0 {τ μ : rS} {n : Int32} {N p : Nat} (hp : ¬ p = 2) : Dr (rd0 τ N p).1 (bM μ n) p := by
  obtain ⟨a1, a2, a3⟩ := rd0_at (τ := τ) (N := N) hp
  obtain ⟨b1, b2, -⟩ := bM_hi (μ := μ) (n := n)
  refine ⟨fun b h0 h1 => ?_, fun k h0 h1 => ?_⟩
  · rw [a1 b h0 h1, b1 b h0 h1]
    exact ⟨rfl, fun z => absurd z (by decide)⟩
  · rw [a2 k h0 h1, a3 k h0 h1, b2 k h0 h1]
    exact ⟨⟨fun z => absurd rfl z, fun z => absurd z (by decide)⟩, (if_neg (by decide)).symm⟩
theorem npO_cg {q : Nat} {sh sh' : Nat → Nat} {X : rS} : ∀ j, (∀ i, i < j → sh i = sh' i) → npO q sh j X = npO q sh' j X := by
  intro j
  induction j with
  | zero => intro _; rfl
  | succ j ih =>
    intro h
    show npS q j (sh j) (npO q sh j X) = npS q j (sh' j) (npO q sh' j X)
    rw [ih (fun i hi => h i (by omega)), h j (by omega)]
/-- both readers, from the first sign to the last -/
theorem rd_all {τ μ : rS} {n : Int32} {N p : Nat} (hR : R1 τ μ) (hp : ¬ p = 2) (hN : N ≤ 600) : rlOk (rdR τ N p) (lsR μ n N) (-1) 0 (-1) p := by
  have e := tx_ty hR
  obtain ⟨-, -, b3, b4, -⟩ := bM_hi (μ := μ) (n := n)
  have r := rd_ls (T := ty μ) (N := N) (q := p) (w := -1) (by rw [← e]; exact tx_b τ) hp 601 (N + 2) (rd0 τ N p).1 (bM μ n) (0, μ 8 35 0, μ 8 33 0, μ 8 34 0) (Nat.zero_le _) (Dr_0 hp) (by show N < 601 + 0; omega) (fun _ => by omega) (fun z => by
    have := tkF_lt (T := ty μ) (N := N) (m := (0, μ 8 35 0, μ 8 33 0, μ 8 34 0)) (Nat.zero_le _) z
    omega)
  rw [b3, b4] at r
  unfold rdR
  rw [e]
  exact r
theorem sh_S {S : rS} (h : shM S) : ∀ i, i < 6 → smN6 S i ≤ 4 ∧ nI (smN6 S i) = S 8 4 (6 + nI i) := by
  intro i hi
  have f := nI_facts (j := i) (n := 6) 6 hi (Nat.le_refl _) (by decide) rfl
  have a6 := ar_6 f.1 f.2.1
  have z := h (6 + nI i) a6.1 a6.2
  obtain ⟨k, hk, e⟩ := nI_of2 (x := S 8 4 (6 + nI i)) (M := 4) (n := 4) rfl (fun y => absurd z.1 (Int32.not_le.mpr y)) z.2
  show (S 8 4 (6 + nI i)).toNatClampNeg ≤ 4 ∧ nI (S 8 4 (6 + nI i)).toNatClampNeg = S 8 4 (6 + nI i)
  rw [e, nI_clamp (by omega)]
  exact ⟨hk, rfl⟩
/-- the new statutes on both sides -/
theorem RD_new {τ : rS} {N p : Nat} {R : rS × rA3} {S : rS} {m3 : rM4} {τ' μ' : rS} (hD : Dr R.1 S p) (hs : shM S) (hc : csI S) (et : ∀ f, τ' p f = npO p (shN R.1 p) 6 (up (wr R.1 R.2) p 4 0 0) p f) (eu : μ' 8 = fnM S m3 8) (hp : ¬ p = 2) : RD τ' μ' p (suS (smN6 S) 6) := by
  have sS := sh_S hs
  have hle : suS (smN6 S) 6 ≤ 24 := suS_le 6 (fun i hi => (sS i hi).1)
  have ecg : npO p (shN R.1 p) 6 (up (wr R.1 R.2) p 4 0 0) = npO p (smN6 S) 6 (up (wr R.1 R.2) p 4 0 0) := npO_cg 6 (fun i hi => by
    have f := nI_facts (j := i) (n := 6) 6 hi (Nat.le_refl _) (by decide) rfl
    show (R.1 p 1 (nI i)).toNatClampNeg = (S 8 4 (6 + nI i)).toNatClampNeg
    rw [(hD.1 (nI i) f.1 f.2.1).1])
  rw [ecg] at et
  have X4 : up (wr R.1 R.2) p 4 0 0 p 4 0 = 0 := up_self
  have Y6 : up (wt S m3) 8 6 0 0 8 6 0 = 0 := up_self
  have tk : ∀ k, ¬ (k = 3 ∨ k = 4) → ∀ i, τ' p k i = R.1 p k i := fun k hk i => by
    rw [et, npO_fr (fun z => hk z.2) 6, up_k (fun z => hk (Or.inr z)), wr_fr (fun z => hp z.1)]
  have yk : ∀ k, ¬ (k = 6 ∨ k = 32 ∨ k = 33 ∨ k = 34 ∨ k = 35) → ∀ i, up (wt S m3) 8 6 0 0 8 k i = S 8 k i := fun k hk i => by
    rw [up_k (fun z => hk (Or.inl z))]
    unfold wt
    rw [up_k (fun z => hk (by simp [z])), up_k (fun z => hk (by simp [z])), up_k (fun z => hk (by simp [z])), up_k (fun z => hk (by simp [z]))]
  have m34 : ∀ k, k = 3 ∨ k = 4 → ∀ b, 0 ≤ b → b < 6 → μ' 8 k b = S 8 k (6 + b) := fun k hk b a d => by
    obtain ⟨i, hi, rfl⟩ := nI6 a d
    rw [eu]
    show ruM 4 (plM (smN6 S) 6 (up (wt S m3) 8 6 0 0)) 8 k (nI i) = _
    rw [ruM_fr (fun z => by rcases hk with y | y <;> (rw [y] at z; exact absurd z.2 (by decide))) 4, pl_cp hk 6 (Nat.le_refl _) i hi, yk k (by rcases hk with y | y <;> (rw [y]; decide))]
  refine ⟨?_, ?_, hle, fun y a b => ?_, fun b h0 h1 => ?_, fun k h0 h1 => ?_⟩
  · rw [et]; exact npO_4 X4 6
  · rw [eu]
    exact (ruM_fr (by decide) 4).trans (plM_6 Y6 6)
  · obtain ⟨t, ht, rfl⟩ := nI24 a (ar_lt b (nI_le24 hle))
    have htm : t < suS (smN6 S) 6 := (nI_ltI (by omega) (by omega)).mp b
    obtain ⟨e1, v, hv, e2, e3⟩ := num_eq (q := p) X4 Y6 (fun i hi => (sS i hi).1) 6 (Nat.le_refl _) t htm
    have m7 : μ' 8 7 (nI t) = nI v := by
      rw [eu]
      exact (ruM_fr (by decide) 4).trans e2
    have f := nI_facts (j := v) (n := 6) 6 hv (Nat.le_refl _) (by decide) rfl
    rw [et, e1, e2, m7, m34 4 (Or.inr rfl) (nI v) f.1 f.2.1, ← (sS v hv).2]
    exact ⟨rfl, f.1, f.2.1, nI_le (a := 1) e3 (by have := (sS v hv).1; omega)⟩
  · have d := hD.1 b h0 h1
    obtain ⟨i, hi, rfl⟩ := nI6 h0 h1
    have s4 := sS i hi
    rw [tk 1 (by decide), tk 0 (by decide), d.1, m34 4 (Or.inr rfl) _ h0 h1, m34 3 (Or.inl rfl) _ h0 h1]
    refine ⟨rfl, ?_, ?_, fun z => ⟨d.2 (by rw [d.1]; exact z), (hc _ h0 h1 z).1, (hc _ h0 h1 z).2⟩⟩
    · rw [← s4.2]; exact nI_pos' (by have := s4.1; omega)
    · rw [← s4.2]; exact nI_le (b := 4) s4.1 (by decide)
  · have d := hD.2 k h0 h1
    obtain ⟨i, hi, rfl⟩ := nI4 h0 h1
    rw [tk 2 (by decide), d.2, eu]
    show _ = ruM 4 (plM (smN6 S) 6 (up (wt S m3) 8 6 0 0)) 8 5 (nI i)
    rw [(ru_at 4 (Nat.le_refl _)).1 i hi, plM_fr (by decide) 6, yk 5 (by decide)]
    by_cases z : 0 ≤ S 8 5 (4 + nI i)
    · rw [if_pos z, if_neg (Int32.not_lt.mpr z)]
    · rw [if_neg z, if_pos (Int32.not_le.mp z)]
/-- what is left of the relation, whatever the text says -/
theorem Rl2_st {τ μ τ' μ' : rS} {q p n m c q' p' m' : Nat} (h1 : Rl2 τ μ q p n m c) (hoff : μ 8 16 0 = 0) (hA' : RA τ' q' p') (hB' : RB τ' μ') (hD' : RD τ' μ' q' m') (t0 : ∀ k', ¬ (k' = 5 ∨ k' = 6) → τ' 0 k' = τ 0 k') (t3 : τ' 3 = τ 3) (t5 : τ' 5 = τ 5) (u : ∀ k', 10 ≤ k' → k' ≤ 30 → μ' 8 k' = μ 8 k') : Rl2 τ' μ' q' p' n m' c := by
  obtain ⟨hA, hB, hC, hD, hE, hF, hG, hH⟩ := h1
  refine ⟨hA', hB', hC.tr (by rw [t3]) (by rw [t3]) (by rw [t3]) (by rw [t3]) (by rw [t3]) (u 10 (by decide) (by decide)) (u 11 (by decide) (by decide)) (u 12 (by decide) (by decide)) (u 13 (by decide) (by decide)) (u 14 (by decide) (by decide)) (u 15 (by decide) (by decide)) (u 16 (by decide) (by decide)), hD', hE.tr (t0 7 (by decide)) (t0 8 (by decide)) (t0 9 (by decide)) (t0 10 (by decide)) (u 15 (by decide) (by decide)) (u 16 (by decide) (by decide)) (u 17 (by decide) (by decide)) (u 20 (by decide) (by decide)), hF.tr t5 (u 21 (by decide) (by decide)) (u 22 (by decide) (by decide)) (u 23 (by decide) (by decide)) (u 24 (by decide) (by decide)) (u 25 (by decide) (by decide)) (u 26 (by decide) (by decide)) (u 27 (by decide) (by decide)) (u 28 (by decide) (by decide)) (u 29 (by decide) (by decide)), ⟨fun z => absurd (by rw [u 16 (by decide) (by decide)]; exact hoff) z, fun _ => ?_⟩, hH.tr (u 18 (by decide) (by decide)) (u 30 (by decide) (by decide))⟩
  obtain ⟨r9, r13⟩ := hG.2 hoff
  refine ⟨⟨fun x a b => ?_, fun x a b => ?_⟩, fun k a b o => ?_⟩
  · rw [t3]; exact r9.1 x a b
  · rw [t3]; exact r9.2 x a b
  · unfold opn at o
    rw [t5] at o
    exact r13 k a b o
theorem lsR_fr {μ : rS} {n : Int32} {N : Nat} {k' : Nat} (h : 10 ≤ k' ∧ k' ≤ 30 ∨ k' = 0 ∨ k' = 6 ∨ k' = 7) : (lsR μ n N).2.1 8 k' = μ 8 k' := by
  funext i
  unfold lsR
  rw [lsM_fr (by omega) (N + 2)]
  exact bM_fr (by omega)
theorem wt_k {S : rS} {m3 : rM4} {k' : Nat} (h : ¬ (k' = 32 ∨ k' = 33 ∨ k' = 34 ∨ k' = 35)) : wt S m3 8 k' = S 8 k' := by
  funext i
  unfold wt
  rw [up_k (fun z => h (by simp [z])), up_k (fun z => h (by simp [z])), up_k (fun z => h (by simp [z])), up_k (fun z => h (by simp [z]))]
theorem fnM_k {S : rS} {m3 : rM4} {k' : Nat} (h : ¬ (k' = 32 ∨ k' = 33 ∨ k' = 34 ∨ k' = 35)) (h2 : ¬ (k' = 3 ∨ k' = 4 ∨ k' = 5 ∨ k' = 6 ∨ k' = 7)) : fnM S m3 8 k' = S 8 k' := by
  rw [← wt_k (S := S) (m3 := m3) h]
  funext i
  show ruM 4 (plM (smN6 S) 6 (up (wt S m3) 8 6 0 0)) 8 k' i = _
  rw [ruM_fr (by omega) 4, plM_fr (by omega) 6, up_k (by omega)]
theorem p_statutes {τ μ : rS} {n : Int32} {q p k m c : Nat} (h1 : Rl2 τ μ q p k m c) : (if stB τ n then (if (rdR τ n.toNatClampNeg p).2.2.1 = 0 then rdS τ n.toNatClampNeg p p 4 0 else -1) else -2) = (if mstB μ n then (if (lsR μ n n.toNatClampNeg).1 = 1 then fnM (lsR μ n n.toNatClampNeg).2.1 (lsR μ n n.toNatClampNeg).2.2 8 6 0 else -1) else -2) ∧ ∃ q' p' n' m' c', Rl2 (if stB τ n then (if (rdR τ n.toNatClampNeg p).2.2.1 = 0 then up (up (stS τ n.toNatClampNeg q p) 0 5 0 (nI p)) 0 6 0 (nI q) else stS τ n.toNatClampNeg q p) else τ) (if mstB μ n then (if (lsR μ n n.toNatClampNeg).1 = 1 then fnM (lsR μ n n.toNatClampNeg).2.1 (lsR μ n n.toNatClampNeg).2.2 else wt (lsR μ n n.toNatClampNeg).2.1 (lsR μ n n.toNatClampNeg).2.2) else μ) q' p' n' m' c' := by
  obtain ⟨hA, hB, hC, hD, hE, hF, hG, hH⟩ := id h1
  have hst : stB τ n ↔ mstB μ n := by
    show (τ 0 7 0 = 0 ∧ 0 ≤ n ∧ n ≤ τ 1 1 0) ↔ (μ 8 16 0 = 0 ∧ 0 ≤ n ∧ n ≤ μ 8 1 0)
    rw [hE.1, hB.1.1]
  by_cases hm : mstB μ n
  · have hmT := hst.mpr hm
    rw [if_pos hm, if_pos hmT, if_pos hm, if_pos hmT]
    have hoff := hm.1
    obtain ⟨N, hN, eN⟩ := nI_of2 (x := n) (M := 600) (n := 600) rfl (fun z => absurd hm.2.1 (Int32.not_le.mpr z)) (Int32.le_trans hm.2.2 hB.1.2.2.1)
    have eC : n.toNatClampNeg = N := by rw [eN]; exact nI_clamp (by omega)
    rw [eC]
    have hq : (q = 6 ∧ p = 7) ∨ (q = 7 ∧ p = 6) := hA.1
    have hp2 : ¬ p = 2 := by omega
    have RL := rd_all (n := n) (N := N) hB.1 hp2 hN
    have sS : shM (lsR μ n N).2.1 := lsM_sh (N + 2) _ _ bM_sh
    have lo : LsI (lsR μ n N).2.1 μ := (lsM_lo (N + 2) _ _ tkF_w17).tr bM_lo
    have cs : (lsR μ n N).1 = 1 → csI (lsR μ n N).2.1 := lsM_cs (N + 2) _ _ (fun b a d z => by
      rw [bM_hi.1 b a d] at z
      exact absurd z (by decide))
    have sf : ∀ k', 10 ≤ k' ∧ k' ≤ 30 ∨ k' = 0 ∨ k' = 6 ∨ k' = 7 → (lsR μ n N).2.1 8 k' = μ 8 k' := fun k' h => lsR_fr h
    have s1 : (lsR μ n N).2.1 8 1 0 = 0 := by
      unfold lsR
      rw [lsM_fr (by decide) (N + 2)]
      exact bM_hi.2.2.2.2
    have rf : ∀ o', ¬ o' = p → ¬ o' = 2 → ¬ o' = 1 → stS τ N q p o' = τ o' := fun o' a b d => by
      funext k' i
      rw [show stS τ N q p o' k' i = rdS τ N p o' k' i from up_o d]
      exact rdS_fr a b
    have r10 : stS τ N q p 1 0 = τ 1 0 := by
      funext i
      rw [show stS τ N q p 1 0 i = rdS τ N p 1 0 i from up_k (by decide)]
      exact rdS_fr (by omega) (by decide)
    have r11 : stS τ N q p 1 1 0 = 0 := up_self
    have r2 : ∀ k', ¬ k' = 99 → stS τ N q p 2 k' = wr (rdR τ N p).1 (rdR τ N p).2 2 k' := fun k' _ => by
      funext i
      rw [show stS τ N q p 2 k' i = rdS τ N p 2 k' i from up_o (by decide)]
      unfold rdS
      rw [npO_fr (fun z => hp2 z.1.symm) 6, up_o (fun z => hp2 z.symm)]
    have r24 : stS τ N q p 2 4 0 = (rdR τ N p).2.2.1 := by rw [r2 4 (by decide)]; exact wr_4
    have r25 : stS τ N q p 2 5 0 = (rdR τ N p).2.2.2 := by rw [r2 5 (by decide)]; exact wr_5
    have rp : ∀ f, stS τ N q p p f = npO p (shN (rdR τ N p).1 p) 6 (up (wr (rdR τ N p).1 (rdR τ N p).2) p 4 0 0) p f := fun f => by
      funext i
      exact up_o (by omega)
    have rd4 : rdS τ N p p 4 0 = stS τ N q p p 4 0 := by rw [rp 4]
    rw [rd4]
    generalize stS τ N q p = T at *
    generalize rdR τ N p = R at *
    generalize lsR μ n N = S at *
    have t0 := rf 0 (by omega) (by decide) (by decide)
    have t3 := rf 3 (by omega) (by decide) (by decide)
    have t5 := rf 5 (by omega) (by decide) (by decide)
    have tq := rf q (by omega) (by omega) (by omega)
    have T1 : ∀ i, T 1 0 i &&& 255 = μ 8 0 i := fun i => by rw [r10]; exact hB.1.2.2.2 i
    rcases RL with ⟨a1, a2, a3, a4, a5, a6⟩ | ⟨a1, a2, a3, a4⟩
    · rw [if_pos a1, if_pos a2, if_pos a1, if_pos a2]
      have f0 : ∀ o', ¬ o' = 0 → up (up T 0 5 0 (nI p)) 0 6 0 (nI q) o' = T o' := fun o' h => by funext k' i; rw [up_o h, up_o h]
      have RD' : RD (up (up T 0 5 0 (nI p)) 0 6 0 (nI q)) (fnM S.2.1 S.2.2) p (suS (smN6 S.2.1) 6) := RD_new (τ := τ) (N := N) (m3 := S.2.2) a4 sS (cs a1) (fun f => by rw [f0 p (by omega), rp f]) rfl hp2
      have e46 : T p 4 0 = fnM S.2.1 S.2.2 8 6 0 := by
        rw [RD'.2.1, ← RD'.1, f0 p (by omega)]
      refine ⟨e46, p, q, k, suS (smN6 S.2.1) 6, c, ?_⟩
      refine Rl2_st h1 hoff ⟨by omega, (up_k (by decide)).trans up_self, up_self⟩ ⟨⟨?_, ?_, ?_, fun i => ?_⟩, ?_, ?_⟩ RD' (fun k' h => ?_) (by rw [f0 3 (by decide)]; exact t3) (by rw [f0 5 (by decide)]; exact t5) (fun k' h h2 => ?_)
      · rw [f0 1 (by decide), r11, fnM_k (by decide) (by decide), s1]
      · rw [fnM_k (by decide) (by decide), s1]; decide
      · rw [fnM_k (by decide) (by decide), s1]; decide
      · rw [f0 1 (by decide), fnM_k (by decide) (by decide), sf 0 (by omega)]; exact T1 i
      · rw [f0 2 (by decide), r24, fnM_k (by decide) (by decide), a2, a5]
      · rw [f0 2 (by decide), r25, fnM_k (by decide) (by decide), a3, a6]
      · rw [← t0]
        funext i
        rw [up_k (fun z => h (Or.inr z)), up_k (fun z => h (Or.inl z))]
      · rw [fnM_k (by omega) (by omega)]
        exact sf k' (Or.inl ⟨h, h2⟩)
    · rw [if_neg a1, if_neg a2, if_neg a1, if_neg a2]
      refine ⟨rfl, q, p, k, m, c, ?_⟩
      have RD' : RD T (wt S.2.1 S.2.2) q m := by
        obtain ⟨d1, d2, d3, d4, d5, d6⟩ := hD
        have w3 : wt S.2.1 S.2.2 8 3 = S.2.1 8 3 := wt_k (by decide)
        have w4 : wt S.2.1 S.2.2 8 4 = S.2.1 8 4 := wt_k (by decide)
        have w5 : wt S.2.1 S.2.2 8 5 = S.2.1 8 5 := wt_k (by decide)
        have w6 : wt S.2.1 S.2.2 8 6 = μ 8 6 := (wt_k (by decide)).trans (sf 6 (by omega))
        have w7 : wt S.2.1 S.2.2 8 7 = μ 8 7 := (wt_k (by decide)).trans (sf 7 (by omega))
        refine ⟨by rw [tq]; exact d1, by rw [w6]; exact d2, d3, fun y a b => ?_, fun y a b => ?_, fun y a b => ?_⟩
        · obtain ⟨z1, z2, z3, z4⟩ := d4 y a b
          rw [tq, w7, w4, (lo.1 _ z2 z3).2]
          exact ⟨z1, z2, z3, z4⟩
        · rw [tq, w4, w3, (lo.1 y a b).1, (lo.1 y a b).2]
          exact d5 y a b
        · rw [tq, w5, lo.2 y a b]
          exact d6 y a b
      refine Rl2_st h1 hoff (hA.tr (by rw [t0]) (by rw [t0])) ⟨⟨?_, ?_, ?_, fun i => ?_⟩, ?_, ?_⟩ RD' (fun k' _ => by rw [t0]) t3 t5 (fun k' h h2 => ?_)
      · rw [r11, wt_k (by decide), s1]
      · rw [wt_k (by decide), s1]; decide
      · rw [wt_k (by decide), s1]; decide
      · rw [wt_k (by decide), sf 0 (by omega)]; exact T1 i
      · rw [r24, wt_k (by decide), a3]
      · rw [r25, wt_k (by decide), a4]
      · rw [wt_k (by omega)]
        exact sf k' (Or.inl ⟨h, h2⟩)
  · have hmT : ¬ stB τ n := fun z => hm (hst.mp z)
    rw [if_neg hm, if_neg hmT, if_neg hm, if_neg hmT]
    exact ⟨rfl, q, p, k, m, c, h1⟩
theorem b_statutes {σ : rS} {n : Int32} (h : Rl σ) : both mX5_statutes mX6_statutes [.inl n] σ := by
  obtain ⟨q, p, k, m, c, h⟩ := h
  have hS := h.sh
  have hA := h.1
  have hd : (σ 0 6 0).toNatClampNeg = p := by
    rw [hA.2.2]
    rcases hA.1 with z | z <;> (rw [z.2]; rfl)
  have hp : isO p 3 := by rcases hA.1 with z | z <;> (rw [z.2]; exact ⟨by decide, rfl⟩)
  have hl := h.2.1.1
  refine both_pure h (c_X5_statutes hS.1 hS.2.1 hd hp (by rw [hl.1]; exact hl.2.2.1)) (fun μ e hR => c_X6_statutes e hR.2.2.2.2.2.2.2.2 hR.2.1.1.2.2.1) ?_ (fun μ hR => p_statutes hR) ?_
  · have h8 : ∀ N, stS σ N q p 8 = σ 8 := fun N => by
      funext k' i
      rw [show stS σ N q p 8 k' i = rdS σ N p 8 k' i from up_o (by decide)]
      exact rdS_fr (by rcases hA.1 with z | z <;> omega) (by decide)
    split
    · split
      · funext k' i
        rw [up_o (by decide), up_o (by decide), h8]
      · exact h8 _
    · rfl
  · intro μ o ho
    have hl : ∀ N i k', (lsR μ n N).2.1 o k' i = μ o k' i := fun N i k' => by
      unfold lsR
      rw [lsM_fr (fun z => ho z.1) (N + 2)]
      exact bM_fr (fun z => ho z.1)
    have hw : ∀ N i k' m3, wt (lsR μ n N).2.1 m3 o k' i = μ o k' i := fun N i k' m3 => by
      unfold wt
      rw [up_o ho, up_o ho, up_o ho, up_o ho]
      exact hl N i k'
    split
    · split
      · funext k' i
        show ruM 4 (plM _ 6 (up (wt _ _) 8 6 0 0)) o k' i = _
        rw [ruM_fr (fun z => ho z.1) 4, plM_fr (fun z => ho z.1) 6, up_o ho]
        exact hw _ _ _ _
      · funext k' i
        exact hw _ _ _ _
    · rfl
