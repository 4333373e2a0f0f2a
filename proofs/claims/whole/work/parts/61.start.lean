-- the start: the cells that are made are the picture σ0
def iF (o k : Nat) : Nat → Int32 := if (o = 3 ∨ o = 4) ∧ k = 4 then mF1 12 else if (o = 3 ∨ o = 4) ∧ k = 5 then mF1 24 else if o = 8 ∧ k = 30 then wF 42 else fun _ => 0
def iS (o k : Nat) : Int32 := if o = 0 ∧ k = 5 then 6 else if o = 0 ∧ k = 6 then 7 else if o = 2 ∧ k = 5 then -1 else if o = 8 ∧ k = 9 then -1 else 0
def sig0 : rS := fun o k i => if isA (fk (kls o) k) = true then iF o k i.toNatClampNeg else iS o k
theorem iF_hi (o k j : Nat) (h : 100 ≤ j) : iF o k j = 0 := by
  unfold iF
  split
  · unfold mF1; rw [if_neg (by omega)]
  · split
    · unfold mF1; rw [if_neg (by omega)]
    · split
      · unfold wF; rw [if_neg (by omega)]
      · rfl
theorem rf_0 {o k : Nat} (h : isA (fk (kls o) k) = true) : rf (sig0 o k) = iF o k := by
  funext j
  unfold rf
  by_cases hj : j < 2147483648
  · rw [if_pos hj]
    unfold sig0
    rw [if_pos h, nI_clamp hj]
  · rw [if_neg hj, iF_hi o k j (by omega)]
/-- the same cells, with the rows as they were made -/
def contI (g : rG) (q : Nat × Nat) : va_E := match q.2 with
  | 0 => .inr (kls q.1, (List.range (nfs.getD (kls q.1) 0)).map (fun k => fvk g (fk (kls q.1) k) (iS q.1 k) q.1 k))
  | k + 1 => .inl (g.2.1 (fk (kls q.1) k), (fl (kls q.1) k, .inl (iF q.1 k)))
theorem fvk_0 {g : rG} {o k : Nat} : fvl g sig0 o k = fvk g (fk (kls o) k) (iS o k) o k := by
  unfold fvl
  by_cases h : isA (fk (kls o) k) = true
  · unfold fvk
    rw [if_pos h, if_pos h]
  · unfold sig0
    rw [if_neg h]
theorem contI_eq {g : rG} {q : Nat × Nat} (h : q ∈ cL) : cont g sig0 q = contI g q := by
  obtain ⟨o, k⟩ := q
  cases k with
  | zero =>
    show Sum.inr (kls o, (List.range (nfs.getD (kls o) 0)).map (fvl g sig0 o)) = Sum.inr (kls o, (List.range (nfs.getD (kls o) 0)).map (fun k => fvk g (fk (kls o) k) (iS o k) o k))
    congr 2
    exact List.map_congr_left (fun a _ => fvk_0)
  | succ k =>
    have h2 : isA (fk (kls o) k) = true := (cL_inv _ h).2 (Nat.succ_ne_zero _)
    show Sum.inl (g.2.1 (fk (kls o) k), (fl (kls o) k, Sum.inl (rf (sig0 o k)))) = Sum.inl (g.2.1 (fk (kls o) k), (fl (kls o) k, Sum.inl (iF o k)))
    rw [rf_0 h2]
def adr (hs : Nat → Nat) (qs : Nat → Nat → Nat) : Nat × Nat → Nat := fun q => match q.2 with
  | 0 => hs q.1
  | k + 1 => qs q.1 k
theorem tgt_lt (o k : Nat) : tgt o k < 9 := by
  have h : ∀ r ∈ tgT, ∀ x ∈ r, x < 9 := by decide
  unfold tgt
  rw [List.getD_eq_getElem?_getD, List.getD_eq_getElem?_getD]
  cases h1 : tgT[o]? with
  | none => simp
  | some r =>
    simp only [Option.getD_some]
    cases h2 : r[k]? with
    | none => decide
    | some x => exact h r (List.mem_of_getElem? h1) x (List.mem_of_getElem? h2)
theorem iS_lt (o k : Nat) : (iS o k).toNatClampNeg < 9 := by
  unfold iS
  split
  · decide
  · split
    · decide
    · split
      · decide
      · split <;> decide
set_option maxRecDepth 100000 in
theorem rw_0 {D : va_G} {ca : Nat → ClassId} {hs : Nat → Nat} {qs : Nat → Nat → Nat} {f : Nat × Nat → Nat} (hf : ∀ q, q.1 < 9 → f q = adr hs qs q) : rw_ (D, ca, f) sig0 = wX5 (D, ca, f) hs qs ++ wX6 (D, ca, f) (hs 8) (qs 8) := by
  have h1 : rw_ (D, ca, f) sig0 = cL.map (fun q => (adr hs qs q, contI (D, ca, adr hs qs) q)) := by
    unfold rw_
    refine List.map_congr_left (fun q hq => ?_)
    have hq9 := (cL_inv q hq).1
    rw [contI_eq hq]
    show (f q, contI (D, ca, f) q) = _
    rw [hf q hq9]
    congr 1
    obtain ⟨o, k⟩ := q
    cases k with
    | succ k => rfl
    | zero =>
      show Sum.inr (kls o, (List.range (nfs.getD (kls o) 0)).map (fun k => fvk (D, ca, f) (fk (kls o) k) (iS o k) o k)) = Sum.inr (kls o, (List.range (nfs.getD (kls o) 0)).map (fun k => fvk (D, ca, adr hs qs) (fk (kls o) k) (iS o k) o k))
      congr 2
      refine List.map_congr_left (fun k _ => ?_)
      unfold fvk
      have ht : tgt o k < 9 := tgt_lt o k
      have hi : (iS o k).toNatClampNeg < 9 := iS_lt o k
      rw [show (D, ca, f).2.2 (o, k + 1) = (D, ca, adr hs qs).2.2 (o, k + 1) from hf _ hq9, show (D, ca, f).2.2 (tgt o k, 0) = (D, ca, adr hs qs).2.2 (tgt o k, 0) from hf _ ht, show (D, ca, f).2.2 ((iS o k).toNatClampNeg, 0) = (D, ca, adr hs qs).2.2 ((iS o k).toNatClampNeg, 0) from hf _ hi]
  rw [h1]
  rfl
theorem Rl_0 : Rl sig0 := by
  have z : ∀ o k, isA (fk (kls o) k) = true → iF o k = (fun _ => 0) → ∀ i, sig0 o k i = 0 := fun o k h e i => by
    unfold sig0
    rw [if_pos h, e]
  have s : ∀ o k v, isA (fk (kls o) k) = false → iS o k = v → ∀ i, sig0 o k i = v := fun o k v h e i => by
    unfold sig0
    rw [if_neg (by rw [h]; decide), e]
  have mm : ∀ o k n, isA (fk (kls o) k) = true → iF o k = mF1 n → n < 100 → ∀ i : Nat, i < n → sig0 o k (nI i) = -1 := fun o k n h e hn i hi => by
    unfold sig0
    rw [if_pos h, e, nI_clamp (by omega)]
    unfold mF1
    rw [if_pos hi]
  have yz : yrs sig0 = 0 := by
    unfold yrs
    rw [s 8 16 0 rfl rfl, if_pos rfl, s 8 15 0 rfl rfl]
  refine ⟨6, 7, 0, 0, 0, ⟨Or.inl ⟨rfl, rfl⟩, s 0 5 6 rfl rfl 0, s 0 6 7 rfl rfl 0⟩, ⟨⟨?_, ?_, ?_, fun i => ?_⟩, ?_, ?_⟩, ⟨s 3 7 0 rfl rfl 0, s 8 10 0 rfl rfl 0, by decide, fun x _ _ => ?_, fun x _ _ => ?_, fun x _ _ => ?_⟩, ⟨s 6 4 0 rfl rfl 0, s 8 6 0 rfl rfl 0, by decide, fun x a b => ?_, fun b _ _ => ?_, fun k _ _ => ?_⟩, ⟨?_, ?_, ?_, ?_, ?_, ?_, ?_, ?_⟩, ⟨s 5 8 0 rfl rfl 0, s 8 21 0 rfl rfl 0, by decide, fun k a b => ?_⟩, ⟨fun w => absurd (s 8 16 0 rfl rfl 0) w, fun _ => ⟨⟨fun x a b => ?_, fun x a b => ?_⟩, fun k a b => ?_⟩⟩, ⟨fun x _ _ => ?_, fun k hk => ?_⟩⟩
  · rw [s 1 1 0 rfl rfl, s 8 1 0 rfl rfl]
  · rw [s 8 1 0 rfl rfl]; decide
  · rw [s 8 1 0 rfl rfl]; decide
  · rw [z 1 0 rfl rfl, z 8 0 rfl rfl]; decide
  · rw [s 2 4 0 rfl rfl, s 8 8 0 rfl rfl]
  · rw [s 2 5 (-1) rfl rfl, s 8 9 (-1) rfl rfl]
  · rw [z 3 0 rfl rfl, z 8 11 rfl rfl, z 3 2 rfl rfl, z 8 13 rfl rfl]; exact ⟨rfl, rfl⟩
  · rw [z 3 1 rfl rfl, z 8 12 rfl rfl, z 3 3 rfl rfl, z 8 14 rfl rfl]; exact ⟨rfl, rfl⟩
  · rw [z 8 12 rfl rfl, z 8 11 rfl rfl, yz]; decide
  · exact absurd (Int32.lt_of_le_of_lt a b) (by decide)
  · rw [z 6 1 rfl rfl, z 8 4 rfl rfl]
    exact ⟨rfl, by decide, by decide, fun w => absurd w (by decide)⟩
  · rw [z 6 2 rfl rfl, z 8 5 rfl rfl]
  · rw [s 0 7 0 rfl rfl, s 8 16 0 rfl rfl]
  · rw [s 0 8 0 rfl rfl, s 8 15 0 rfl rfl]
  · rw [s 8 15 0 rfl rfl]; decide
  · rw [s 8 15 0 rfl rfl]; decide
  · rw [s 0 9 0 rfl rfl, s 8 17 0 rfl rfl]
  · rw [s 0 10 0 rfl rfl, s 8 20 0 rfl rfl]
  · rw [yz]; decide
  · rw [yz]; decide
  · exact absurd (Int32.lt_of_le_of_lt a b) (by decide)
  · obtain ⟨i, hi, rfl⟩ := nI12 a b
    exact mm 3 4 12 rfl rfl (by decide) i hi
  · obtain ⟨i, hi, rfl⟩ := nI24 a b
    exact mm 3 5 24 rfl rfl (by decide) i hi
  · exact absurd (Int32.lt_of_le_of_lt a b) (by decide)
  · rw [z 8 18 rfl rfl]; decide
  · show sig0 8 30 (nI k) = _
    unfold sig0
    rw [if_pos (show isA (fk (kls 8) 30) = true from rfl), nI_clamp (by omega), show iF 8 30 = wF 42 from rfl]
    unfold wF
    rw [if_pos hk]
