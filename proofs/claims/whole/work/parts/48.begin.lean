-- steps of both sides: begin, pass
theorem bo0_at {σ : rS} : ∀ j i, i < j → j ≤ 288 → bo0 j σ 8 19 (nI i) = 0 := by
  intro j
  induction j with
  | zero => intro i hi; omega
  | succ j ih =>
    intro i hi hj
    show up (bo0 j σ) 8 19 (nI j) 0 8 19 (nI i) = 0
    by_cases hij : i = j
    · rw [hij]; exact up_self
    · rw [show up (bo0 j σ) 8 19 (nI j) 0 8 19 (nI i) = bo0 j σ 8 19 (nI i) from up_i (fun z => hij ((nI_eq (by omega) (by omega)).mp z))]
      exact ih i (by omega) (by omega)
theorem br_at {ν : rS} {m : Nat} (hm : m ≤ 24) (hr : MIr ν) (h0 : ∀ x p, 0 ≤ x → x < 12 → 0 ≤ p → p < 24 → ν 8 19 (24 * x + p) = 0) : ∀ j, j ≤ m → ∀ x p, 0 ≤ x → x < 12 → 0 ≤ p → p < 24 → (itS brStep j ν 8 19 (24 * x + p) = 0 ↔ ¬ (p < nI j ∧ ν 8 18 p = x)) := by
  intro j
  induction j with
  | zero =>
    intro _ x p a b d e
    refine ⟨fun _ z => ?_, fun _ => h0 x p a b d e⟩
    have := z.1
    rw [nI_0] at this
    exact absurd d (Int32.not_le.mpr this)
  | succ j ih =>
    intro hj x p a b d e
    have ih := ih (by omega) x p a b d e
    have f := nI_facts (j := j) 24 (by omega : j < m) hm (by decide) rfl
    have hj24 : nI j < 24 := ar_lt f.2.1 (nI_le24 hm)
    have fr : itS brStep j ν 8 18 = ν 8 18 := by funext i; exact br_fr (fun z => absurd z.2 (by decide)) j
    have r := hr (nI j) f.1 (Int32.lt_trans hj24 (by decide))
    show brStep j (itS brStep j ν) 8 19 (24 * x + p) = 0 ↔ _
    generalize itS brStep j ν = S at *
    unfold brStep
    rw [fr, f.2.2.2]
    by_cases hB : 0 ≤ ν 8 18 (nI j)
    · rw [if_pos hB]
      have ix := ix_inj a b hB r.2 d e f.1 hj24
      by_cases hp : p = nI j
      · by_cases hx : x = ν 8 18 (nI j)
        · rw [← ix.mpr ⟨hx, hp⟩, up_self]
          refine ⟨fun z => absurd z (by decide), fun z => absurd ⟨by rw [hp]; exact ar_s4 f.1 (ar_40 hj24), by rw [hp]; exact hx.symm⟩ z⟩
        · rw [show up S 8 19 (24 * ν 8 18 (nI j) + nI j) 1 8 19 (24 * x + p) = S 8 19 (24 * x + p) from up_i (fun z => hx (ix.mp z).1), ih]
          refine ⟨fun _ z => hx (by rw [← z.2, hp]), fun _ z => ?_⟩
          rw [hp] at z
          exact absurd z.1 (Int32.lt_irrefl)
      · rw [show up S 8 19 (24 * ν 8 18 (nI j) + nI j) 1 8 19 (24 * x + p) = S 8 19 (24 * x + p) from up_i (fun z => hp (ix.mp z).2), ih]
        exact ⟨fun w z => w ⟨ar_s2 f.1 (ar_40 hj24) z.1 hp, z.2⟩, fun w z => w ⟨ar_s3 f.1 (ar_40 hj24) z.1, z.2⟩⟩
    · rw [if_neg hB, ih]
      by_cases hp : p = nI j
      · refine ⟨fun _ z => hB ?_, fun _ z => ?_⟩
        · rw [← hp, z.2]; exact a
        · rw [hp] at z
          exact absurd z.1 (Int32.lt_irrefl)
      · exact ⟨fun w z => w ⟨ar_s2 f.1 (ar_40 hj24) z.1 hp, z.2⟩, fun w z => w ⟨ar_s3 f.1 (ar_40 hj24) z.1, z.2⟩⟩
theorem hb_bit {B x : Int32} (hB : B = -1 ∨ (0 ≤ B ∧ B < 12)) (hx : 0 ≤ x) (hx2 : x < 12) : hbV B &&& ((1 : Int32) <<< (x &&& 31)) = 0 ↔ ¬ B = x := by
  unfold hbV
  rcases hB with h | h
  · rw [if_pos h, h]
    refine ⟨fun _ z => ?_, fun _ => Int32.zero_and⟩
    rw [← z] at hx
    exact absurd hx (by decide)
  · rw [if_neg (ar_n h.1).1, bit_apI hx hx2 h.1 h.2]
    exact ⟨fun z y => z y.symm, fun z y => z y.symm⟩
theorem ar_b1 {b : Int32} (h0 : 0 ≤ b) (h1 : b ≤ 40) : (b < 40 ↔ ¬ b = 40) ∧ (b < 40 → 0 ≤ b + 1 ∧ b + 1 ≤ 40) ∧ b + 1 - 1 = b := by grind
theorem p_begin {τ μ : rS} {q p n m c : Nat} (h1 : Rl2 τ μ q p n m c) : (if begB τ then (fiF 3 q (τ 0 8 0) n (sBeg0 τ) m).1 else -1) = (if mbB μ then (mB1 μ n m).1 else -1) ∧ ∃ q' p' n' m' c', Rl2 (if begB τ then (fiF 3 q (τ 0 8 0) n (sBeg0 τ) m).2 else τ) (if mbB μ then itS brStep m (mB2 μ n m) else μ) q' p' n' m' c' := by
  obtain ⟨hA, hB, hC, hD, hE, hF, hG, hH⟩ := id h1
  have ab := ar_b1 hE.2.2.1 hE.2.2.2.1
  have hbb : begB τ ↔ mbB μ := by
    show (τ 0 7 0 = 0 ∧ τ 0 8 0 < 40) ↔ (μ 8 16 0 = 0 ∧ ¬ μ 8 15 0 = 40)
    rw [hE.1, hE.2.1, ab.1]
  by_cases hb : mbB μ
  · rw [if_pos hb, if_pos (hbb.mpr hb), if_pos hb, if_pos (hbb.mpr hb)]
    have hq : ¬ q = 3 ∧ ¬ q = 0 ∧ ¬ q = 5 := by rcases hA.1 with z | z <;> omega
    have hoff := hb.1
    have h40 := ab.1.mpr hb.2
    have h9 := (hG.2 hoff).1
    have s3 : sBeg0 τ 3 = τ 3 := by funext k i; simp [up]
    have sq : sBeg0 τ q = τ q := by funext k i; simp [up, hq]
    have m8 : ∀ k, ¬ (k = 16 ∨ k = 15 ∨ k = 17 ∨ k = 21) → mB0 μ 8 k = μ 8 k := fun k hk => by funext i; exact mB0_fr (fun z => hk z.2)
    have FI := fill_eq (τ := sBeg0 τ) (μ := mB0 μ) (o := 3) (q := q) (n := n) (m := m) (cn := 0) (rw := 0) (year := τ 0 8 0) (by rw [s3]; exact hC.1) hC.2.2.1 (fun x a b => by rw [s3, m8 11 (by decide), m8 13 (by decide)]; exact hC.2.2.2.1 x a b) hD.2.2.1 (fun k a b => by rw [sq, m8 5 (by decide)]; exact hD.2.2.2.2.2 k a b) hq.1 (fun x a b => by rw [s3]; exact h9.1 x a b) (fun x a b => by rw [s3]; exact h9.2 x a b) m (Nat.le_refl _)
    have ey : μ 8 15 0 + 1 - 1 = τ 0 8 0 := by rw [hE.2.1]; exact ab.2.2
    have eM : mB1 μ n m = f2F 0 0 (τ 0 8 0) n m (mB0 μ) m := by unfold mB1; rw [ey]
    have hr0 : MIr (mB0 μ) := by
      intro i a b
      rw [m8 18 (by decide)]
      exact hH.1 i a b
    have hr1 : MIr (mB1 μ n m).2 := by rw [eM]; exact f2F_rng hC.2.2.1 hr0 m
    have fC : ∀ o' k', ¬ o' = 3 → (fiF 3 q (τ 0 8 0) n (sBeg0 τ) m).2 o' k' = sBeg0 τ o' k' := fun o' k' h => by funext i; exact fiF_fr (fun z => h z.1) m
    have fC3 : ∀ k', ¬ (k' = 4 ∨ k' = 5 ∨ k' = 6) → (fiF 3 q (τ 0 8 0) n (sBeg0 τ) m).2 3 k' = τ 3 k' := fun k' h => by rw [← s3]; funext i; exact fiF_fr (fun z => h z.2) m
    have fM : ∀ k', ¬ k' = 18 → (mB1 μ n m).2 8 k' = mB0 μ 8 k' := fun k' h => by rw [eM]; funext i; exact f2F_fr (fun z => h z.2) m
    have fR : ∀ k', ¬ k' = 19 → itS brStep m (mB2 μ n m) 8 k' = (mB1 μ n m).2 8 k' := fun k' h => by
      funext i
      rw [br_fr (fun z => h z.2) m]
      exact bo0_fr (fun z => h z.2) 288
    have bits := br_at (ν := mB2 μ n m) hD.2.2.1 (by
      intro i a b
      rw [show mB2 μ n m 8 18 i = (mB1 μ n m).2 8 18 i from bo0_fr (by decide) 288]
      exact hr1 i a b) (by
      intro x y a b d e
      obtain ⟨i, hi, rfl⟩ := nI12 a b
      obtain ⟨j, hj, rfl⟩ := nI24 d e
      rw [ix24 i hi j hj]
      exact bo0_at 288 _ (by omega) (Nat.le_refl _)) m (Nat.le_refl _)
    rw [show mB2 μ n m 8 18 = (mB1 μ n m).2 8 18 from funext fun i => bo0_fr (by decide) 288] at bits
    rw [← eM] at FI
    obtain ⟨f1, f2, -, f4⟩ := FI
    refine ⟨f1, q, p, n, m, 0, ?_⟩
    generalize fiF 3 q (τ 0 8 0) n (sBeg0 τ) m = C at *
    generalize itS brStep m (mB2 μ n m) = K at *
    generalize mB1 μ n m = R at *
    have kf : ∀ k', ¬ (k' = 18 ∨ k' = 19) → K 8 k' = mB0 μ 8 k' := fun k' h => by rw [fR k' (fun z => h (Or.inr z)), fM k' (fun z => h (Or.inl z))]
    have kk : ∀ k', ¬ (k' = 18 ∨ k' = 19) → ¬ (k' = 16 ∨ k' = 15 ∨ k' = 17 ∨ k' = 21) → K 8 k' = μ 8 k' := fun k' h h2 => (kf k' h).trans (m8 k' h2)
    have k18 : K 8 18 = R.2 8 18 := fR 18 (by decide)
    have k16 : K 8 16 0 = 1 := by rw [kf 16 (by decide)]; simp [mB0, up]
    have k15 : K 8 15 0 = μ 8 15 0 + 1 := by rw [kf 15 (by decide)]; simp [mB0, up]
    have k17 : K 8 17 0 = 0 := by rw [kf 17 (by decide)]; simp [mB0, up]
    have k21 : K 8 21 0 = 0 := by rw [kf 21 (by decide)]; simp [mB0, up]
    have ky : yrs K = yrs μ := by
      unfold yrs
      rw [k16, k15, if_neg (by decide), if_pos hoff]
      exact ab.2.2
    have t07 : C.2 0 7 0 = 1 := by rw [fC 0 7 (by decide)]; simp [up]
    have t08 : C.2 0 8 0 = τ 0 8 0 + 1 := by rw [fC 0 8 (by decide)]; simp [up]
    have t09 : C.2 0 9 0 = 0 := by rw [fC 0 9 (by decide)]; simp [up]
    have t58 : C.2 5 8 0 = 0 := by rw [fC 5 8 (by decide)]; simp [up]
    refine ⟨hA.tr ?_ ?_, hB.tr ?_ ?_ ?_ ?_ ?_ ?_, ⟨?_, ?_, hC.2.2.1, ?_, ?_, ?_⟩, hD.tr ?_ ?_ ?_ ?_ ?_ ?_, ⟨?_, ?_, ?_, ?_, ?_, ?_, ?_, ?_⟩, ⟨t58, k21, by omega, ?_⟩, ⟨fun _ => ⟨f2.tr rfl rfl k18, ?_, ?_, ?_⟩, fun z => ?_⟩, ⟨?_, ?_⟩⟩
    · rw [fC 0 5 (by decide)]; funext i; simp [up]
    · rw [fC 0 6 (by decide)]; funext i; simp [up]
    · funext k; rw [fC 1 k (by decide)]; funext i; simp [up]
    · funext k; rw [fC 2 k (by decide)]; funext i; simp [up]
    · exact kk 0 (by decide) (by decide)
    · exact kk 1 (by decide) (by decide)
    · exact kk 8 (by decide) (by decide)
    · exact kk 9 (by decide) (by decide)
    · rw [fC3 7 (by decide)]; exact hC.1
    · rw [kk 10 (by decide) (by decide)]; exact hC.2.1
    · intro x a b
      rw [fC3 0 (by decide), fC3 2 (by decide), kk 11 (by decide) (by decide), kk 13 (by decide) (by decide)]
      exact hC.2.2.2.1 x a b
    · intro x a b
      rw [fC3 1 (by decide), fC3 3 (by decide), kk 12 (by decide) (by decide), kk 14 (by decide) (by decide)]
      exact hC.2.2.2.2.1 x a b
    · intro x a b
      rw [ky, kk 11 (by decide) (by decide), kk 12 (by decide) (by decide)]
      exact hC.2.2.2.2.2 x a b
    · funext k; rw [fC q k hq.1, sq]
    · exact kk 3 (by decide) (by decide)
    · exact kk 4 (by decide) (by decide)
    · exact kk 5 (by decide) (by decide)
    · exact kk 6 (by decide) (by decide)
    · exact kk 7 (by decide) (by decide)
    · rw [t07, k16]
    · rw [t08, k15, hE.2.1]
    · rw [k15]; exact (ab.2.1 h40).1
    · rw [k15]; exact (ab.2.1 h40).2
    · rw [t09, k17]
    · rw [fC 0 10 (by decide), kk 20 (by decide) (by decide), ← hE.2.2.2.2.2.1]; simp [up]
    · rw [ky]; exact hE.2.2.2.2.2.2.1
    · rw [ky]; exact hE.2.2.2.2.2.2.2
    · intro k a b
      rw [nI_0] at b
      exact absurd a (Int32.not_le.mpr b)
    · intro x y a b d e
      have e24 : y < 24 := ar_lt e (nI_le24 hD.2.2.1)
      have g := f2.1 y d e
      rw [Int32.zero_add] at g
      rw [f4 y d e, bits x y a b d e24, ← g.1, hb_bit (g.2.imp id (fun z => ⟨z.1, ar_lt z.2.1 (nI_le12 hC.2.2.1)⟩)) a b]
      exact ⟨fun w z => w z.2, fun w z => w ⟨e, z⟩⟩
    · intro k a b
      rw [nI_0] at b
      exact absurd a (Int32.not_le.mpr b)
    · intro k l a b
      rw [nI_0] at b
      exact absurd a (Int32.not_le.mpr b)
    · rw [k16] at z
      exact absurd z (by decide)
    · intro i a b
      rw [k18]
      exact hr1 i a b
    · intro i hi
      rw [kk 30 (by decide) (by decide)]
      exact hH.2 i hi
  · rw [if_neg hb, if_neg (fun z => hb (hbb.mp z)), if_neg hb, if_neg (fun z => hb (hbb.mp z))]
    exact ⟨rfl, q, p, n, m, c, h1⟩
theorem b_begin {σ : rS} (h : Rl σ) : both mX5_begin mX6_begin [] σ := by
  obtain ⟨q, p, n, m, c, h⟩ := h
  refine both_pure h (c_X5_begin h.sh) (fun μ e hR => c_X6_begin e hR.2.2.1.2.1 hR.2.2.1.2.2.1 hR.2.2.2.1.2.1 hR.2.2.2.1.2.2.1 hR.2.2.2.2.2.2.2.1) ?_ (fun μ hR => p_begin hR) ?_
  · split
    · funext k i
      rw [fiF_fr (fun z => absurd z.1 (by decide)) m]
      simp [up]
    · rfl
  · intro μ o ho
    split
    · funext k i
      rw [br_fr (fun z => ho z.1) m, show mB2 μ n m o k i = (mB1 μ n m).2 o k i from bo0_fr (fun z => ho z.1) 288, f2F_fr (fun z => ho z.1) m]
      exact mB0_fr (fun z => ho z.1)
    · rfl
theorem pg_rng {σ : rS} {c : Nat} {day : Int32} (h : MIr σ) (hg : MIg σ c) (hc : c ≤ 40) : ∀ j, j ≤ c → MIr (itS (pgStep day) j σ) := by
  intro j
  induction j with
  | zero => intro _; exact h
  | succ j ih =>
    intro hj
    have ih := ih (by omega)
    have hgj : rgB (itS (pgStep day) j σ) (nI j) := by
      unfold rgB
      rw [pg_fr (by decide), pg_fr (by decide), pg_fr (by decide)]
      exact hg _ (nI_pos' (by omega)) (nI_lt (by omega) (by omega))
    show MIr (pgStep day j (itS (pgStep day) j σ))
    generalize itS (pgStep day) j σ = s at ih hgj ⊢
    unfold pgStep
    split
    · exact jgM_rng ih hgj
    · exact ih
theorem p_pass {τ μ : rS} {k : Int32} {q p n m c : Nat} (h1 : Rl2 τ μ q p n m c) : (if pasB τ k then τ 0 9 0 + k else -1) = (if mpB μ k then μ 8 17 0 + k else -1) ∧ ∃ q' p' n' m' c', Rl2 (if pasB τ k then itS (jbStep 5 3 (τ 0 9 0 + k)) c (up τ 0 9 0 (τ 0 9 0 + k)) else τ) (if mpB μ k then sPass μ k c else μ) q' p' n' m' c' := by
  obtain ⟨hA, hB, hC, hD, hE, hF, hG, hH⟩ := id h1
  have e9 := hE.2.2.2.2.1
  have hpp : pasB τ k ↔ mpB μ k := by
    show (¬ τ 0 7 0 = 0 ∧ 0 ≤ k ∧ k ≤ 400 ∧ τ 0 9 0 + k ≤ 400) ↔ (¬ μ 8 16 0 = 0 ∧ 0 ≤ k ∧ k ≤ 400 ∧ μ 8 17 0 + k ≤ 400)
    rw [hE.1, e9]
  by_cases hb : mpB μ k
  · rw [if_pos hb, if_pos (hpp.mpr hb), if_pos hb, if_pos (hpp.mpr hb)]
    refine ⟨by rw [e9], q, p, n, m, c, ?_⟩
    have hq : ¬ q = 3 ∧ ¬ q = 0 ∧ ¬ q = 5 := by rcases hA.1 with z | z <;> omega
    unfold sPass
    rw [e9]
    generalize μ 8 17 0 + k = D
    have t0 : ∀ o' k', ¬ (o' = 0 ∧ k' = 9) → up τ 0 9 0 D o' k' = τ o' k' := fun o' k' h => by funext i; simp only [up]; exact if_neg (fun z => h ⟨z.1, z.2.1⟩)
    have u0 : ∀ k', ¬ k' = 17 → up μ 8 17 0 D 8 k' = μ 8 k' := fun k' h => by funext i; exact up_k h
    have J0 : JR (up τ 0 9 0 D) (up μ 8 17 0 D) n m c := by
      obtain ⟨r7, r8, r11, r12⟩ := hG.1 hb.1
      have F0 : RF (up τ 0 9 0 D) (up μ 8 17 0 D) n c := hF.tr (by funext k'; exact t0 5 k' (fun z => absurd z.1 (by decide))) (u0 21 (by decide)) (u0 22 (by decide)) (u0 23 (by decide)) (u0 24 (by decide)) (u0 25 (by decide)) (u0 26 (by decide)) (u0 27 (by decide)) (u0 28 (by decide)) (u0 29 (by decide))
      exact JR_doc ⟨hF, r7, r8, r11, r12⟩ F0 (t0 3 4 (by decide)) (t0 3 5 (by decide)) (t0 3 6 (by decide)) (t0 5 0 (by decide)) (t0 5 1 (by decide)) (t0 5 2 (by decide)) (u0 18 (by decide)) (u0 19 (by decide)) (fun i _ _ o => by unfold opn at o ⊢; rw [t0 5 4 (by decide)] at o; exact o)
    have J := jb_eq (day := D) J0 (fun x a b => by rw [t0 3 0 (by decide), t0 3 2 (by decide), u0 11 (by decide), u0 13 (by decide)]; exact hC.2.2.2.1 x a b) (by rw [t0 3 7 (by decide)]; exact hC.1) hC.2.2.1 hD.2.2.1 c (Nat.le_refl _)
    have hg0 : MIg (up μ 8 17 0 D) c := by
      have := h1.mi.2.2.2.2.2.2.2.2
      intro i a b
      have := this i a b
      unfold rgB at this ⊢
      rw [u0 22 (by decide), u0 23 (by decide), u0 24 (by decide)]
      exact this
    have hr : MIr (itS (pgStep D) c (up μ 8 17 0 D)) := pg_rng (by
      intro i a b
      rw [u0 18 (by decide)]
      exact hH.1 i a b) hg0 hF.2.2.1 c (Nat.le_refl _)
    have fT : ∀ o' k', ¬ (o' = 3 ∧ (k' = 4 ∨ k' = 5 ∨ k' = 6)) → ¬ (o' = 5 ∧ k' = 4) → ¬ (o' = 0 ∧ k' = 9) → itS (jbStep 5 3 D) c (up τ 0 9 0 D) o' k' = τ o' k' := fun o' k' x y z => by
      rw [← t0 o' k' z]; funext i; exact jb_fr x y c
    have fU : ∀ k', ¬ (k' = 18 ∨ k' = 19 ∨ k' = 26) → ¬ k' = 17 → itS (pgStep D) c (up μ 8 17 0 D) 8 k' = μ 8 k' := fun k' x y => by
      rw [← u0 k' y]; funext i; exact pg_fr (fun z => x z.2) c
    have t9 : itS (jbStep 5 3 D) c (up τ 0 9 0 D) 0 9 0 = D := by rw [jb_fr (by decide) (by decide)]; exact up_self
    have u17 : itS (pgStep D) c (up μ 8 17 0 D) 8 17 0 = D := by rw [pg_fr (by decide)]; exact up_self
    generalize itS (jbStep 5 3 D) c (up τ 0 9 0 D) = T at *
    generalize itS (pgStep D) c (up μ 8 17 0 D) = U at *
    have yU : yrs U = yrs μ := by unfold yrs; rw [fU 16 (by decide) (by decide), fU 15 (by decide) (by decide)]
    refine ⟨hA.tr (fT 0 5 (by decide) (by decide) (by decide)) (fT 0 6 (by decide) (by decide) (by decide)), hB.tr (by funext k'; exact fT 1 k' (fun z => absurd z.1 (by decide)) (fun z => absurd z.1 (by decide)) (fun z => absurd z.1 (by decide))) (by funext k'; exact fT 2 k' (fun z => absurd z.1 (by decide)) (fun z => absurd z.1 (by decide)) (fun z => absurd z.1 (by decide))) (fU 0 (by decide) (by decide)) (fU 1 (by decide) (by decide)) (fU 8 (by decide) (by decide)) (fU 9 (by decide) (by decide)), hC.tr (fT 3 0 (by decide) (by decide) (by decide)) (fT 3 1 (by decide) (by decide) (by decide)) (fT 3 2 (by decide) (by decide) (by decide)) (fT 3 3 (by decide) (by decide) (by decide)) (fT 3 7 (by decide) (by decide) (by decide)) (fU 10 (by decide) (by decide)) (fU 11 (by decide) (by decide)) (fU 12 (by decide) (by decide)) (fU 13 (by decide) (by decide)) (fU 14 (by decide) (by decide)) (fU 15 (by decide) (by decide)) (fU 16 (by decide) (by decide)), hD.tr (by funext k'; exact fT q k' (fun z => hq.1 z.1) (fun z => hq.2.2 z.1) (fun z => hq.2.1 z.1)) (fU 3 (by decide) (by decide)) (fU 4 (by decide) (by decide)) (fU 5 (by decide) (by decide)) (fU 6 (by decide) (by decide)) (fU 7 (by decide) (by decide)), ⟨?_, ?_, ?_, ?_, ?_, ?_, ?_, ?_⟩, J.1, ⟨fun _ => J.2, fun z => ?_⟩, ⟨hr, ?_⟩⟩
    · rw [fT 0 7 (by decide) (by decide) (by decide), fU 16 (by decide) (by decide)]; exact hE.1
    · rw [fT 0 8 (by decide) (by decide) (by decide), fU 15 (by decide) (by decide)]; exact hE.2.1
    · rw [fU 15 (by decide) (by decide)]; exact hE.2.2.1
    · rw [fU 15 (by decide) (by decide)]; exact hE.2.2.2.1
    · rw [t9, u17]
    · rw [fT 0 10 (by decide) (by decide) (by decide), fU 20 (by decide) (by decide)]; exact hE.2.2.2.2.2.1
    · rw [yU]; exact hE.2.2.2.2.2.2.1
    · rw [yU]; exact hE.2.2.2.2.2.2.2
    · rw [fU 16 (by decide) (by decide)] at z
      exact absurd z hb.1
    · intro i hi
      rw [fU 30 (by decide) (by decide)]
      exact hH.2 i hi
  · rw [if_neg hb, if_neg (fun z => hb (hpp.mp z)), if_neg hb, if_neg (fun z => hb (hpp.mp z))]
    exact ⟨rfl, q, p, n, m, c, h1⟩
theorem b_pass {σ : rS} {k : Int32} (h : Rl σ) : both mX5_pass mX6_pass [.inl k] σ := by
  obtain ⟨q, p, n, m, c, h⟩ := h
  have hF := h.2.2.2.2.2.1
  refine both_pure h (c_X5_pass hF.1 hF.2.2.1) (fun μ e hR => c_X6_pass e hR.2.2.2.2.2.1.2.1 hR.2.2.2.2.2.1.2.2.1 hR.mi.2.2.2.2.2.2.2.2) ?_ (fun μ hR => p_pass hR) ?_
  · split
    · funext k i
      rw [jb_fr (fun z => absurd z.1 (by decide)) (fun z => absurd z.1 (by decide)) c]
      simp [up]
    · rfl
  · intro μ o ho
    split
    · funext k i
      unfold sPass
      rw [pg_fr (fun z => ho z.1) c]
      exact up_o ho
    · rfl
