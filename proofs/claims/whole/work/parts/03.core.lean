def kls (o : Nat) : Nat := ([5, 4, 1, 2, 2, 0, 3, 3, 6] : List Nat).getD o 6
def nfs : List Nat := [9, 6, 8, 5, 2, 11, 37]
def fkT : List (List Nat) := [[1, 1, 1, 1, 1, 1, 3, 3, 0], [4, 3, 0, 0, 0, 0], [1, 1, 1, 1, 1, 1, 1, 0], [1, 1, 1, 1, 0], [2, 0], [4, 4, 4, 4, 4, 5, 5, 0, 0, 0, 0], [1, 0, 0, 1, 1, 1, 0, 1, 0, 0, 0, 1, 1, 1, 1, 0, 0, 0, 1, 3, 0, 0, 1, 1, 1, 1, 1, 1, 3, 3, 1, 0, 0, 0, 0, 0, 0]]
def flT : List (List Nat) := [[40, 40, 40, 40, 40, 40, 40, 40, 0], [0, 4, 0, 0, 0, 0], [12, 12, 12, 12, 12, 24, 24, 0], [6, 6, 4, 24, 0], [600, 0], [0, 0, 0, 0, 0, 0, 0, 0, 0, 0, 0], [600, 0, 0, 12, 12, 8, 0, 24, 0, 0, 0, 24, 24, 24, 12, 0, 0, 0, 48, 288, 0, 0, 40, 40, 40, 40, 40, 40, 40, 40, 42, 0, 0, 0, 0, 0, 0]]
def fk (ci k : Nat) : Nat := (fkT.getD ci []).getD k 0
def fl (ci k : Nat) : Nat := (flT.getD ci []).getD k 0
def tgT : List (List Nat) := [[1, 2, 3, 4, 5, 0, 0, 0, 0, 0, 0], [0, 0], [1, 0, 0, 0, 0, 0], [0, 0, 0, 0, 0, 0, 0, 0], [0, 0, 0, 0, 0, 0, 0, 0], [0, 0, 0, 0, 0, 0, 0, 0, 0], [0, 0, 0, 0, 0], [0, 0, 0, 0, 0], [0, 0, 0, 0, 0, 0, 0, 0, 0, 0, 0, 0, 0, 0, 0, 0, 0, 0, 0, 0, 0, 0, 0, 0, 0, 0, 0, 0, 0, 0, 0, 0, 0, 0, 0, 0, 0]]
def tgt (o k : Nat) : Nat := (tgT.getD o []).getD k 0
/-! THE ABSTRACT STATE: object o, field k, place i (0 where the field is no array) -/
abbrev rS : Type := Nat → Nat → Int32 → Int32
abbrev rV : Type := Int32 ⊕ (Nat × Nat)
/-- what lies where: class ids and slots, the array classes, the addresses of the cells (object, 0) and (object, field + 1) -/
abbrev rG : Type := va_G × (Nat → ClassId) × (Nat × Nat → Nat)
def cv (g : rG) (v : rV) : Value := match v with
  | .inl x => .int x
  | .inr q => .ref (g.2.2 q)
def up (σ : rS) (o k : Nat) (i v : Int32) : rS := fun o' k' i' => if o' = o ∧ k' = k ∧ i' = i then v else σ o' k' i'
def rf (f : Int32 → Int32) : Nat → Int32 := fun j => if j < 2147483648 then f (nI j) else 0
def isA (x : Nat) : Bool := x == 1 || x == 2 || x == 3
def fvk (g : rG) (kd : Nat) (x : Int32) (o k : Nat) : Value := if isA kd = true then .ref (g.2.2 (o, k + 1)) else if kd = 4 then .ref (g.2.2 (tgt o k, 0)) else if kd = 5 then .ref (g.2.2 (x.toNatClampNeg, 0)) else .int x
def fvl (g : rG) (σ : rS) (o k : Nat) : Value := fvk g (fk (kls o) k) (σ o k 0) o k
def cL : List (Nat × Nat) := (List.range 9).flatMap fun o => (o, 0) :: ((List.range (nfs.getD (kls o) 0)).filter (fun k => isA (fk (kls o) k))).map (fun k => (o, k + 1))
def cont (g : rG) (σ : rS) (q : Nat × Nat) : va_E := match q.2 with
  | 0 => .inr (kls q.1, (List.range (nfs.getD (kls q.1) 0)).map (fvl g σ q.1))
  | k + 1 => .inl (g.2.1 (fk (kls q.1) k), (fl (kls q.1) k, .inl (rf (σ q.1 k))))
def rw_ (g : rG) (σ : rS) : va_W := cL.map fun q => (g.2.2 q, cont g σ q)
def rT (g : rG) : List (ClassId × FieldType) := [(g.2.1 0, .int), (g.2.1 1, .int), (g.2.1 2, .byte), (g.2.1 3, .boolean)]
def isO (o ci : Nat) : Prop := o < 9 ∧ kls o = ci
theorem cL_obj : ∀ o, o < 9 → (o, 0) ∈ cL := by decide +kernel
theorem cL_arr0 : ∀ o, o < 9 → ∀ k, k < 37 → (!isA (fk (kls o) k) || decide ((o, k + 1) ∈ cL)) = true := by decide +kernel
theorem cL_arr (o : Nat) (ho : o < 9) (k : Nat) (hk : k < 37) (h : isA (fk (kls o) k) = true) : (o, k + 1) ∈ cL := by
  have h1 := cL_arr0 o ho k hk
  rw [h] at h1
  exact of_decide_eq_true h1
theorem cL_inv : ∀ q ∈ cL, q.1 < 9 ∧ (q.2 ≠ 0 → isA (fk (kls q.1) (q.2 - 1)) = true) := by decide +kernel
theorem cL_nd : cL.Nodup := by decide +kernel
theorem fk_lt : ∀ c, c < 7 → ∀ k, isA (fk c k) = true → k < 37 := by
  intro c hc k h
  by_cases hk : k < 37
  · exact hk
  · exfalso
    have h2 : ∀ c, c < 7 → (fkT.getD c []).length ≤ 37 := by decide +kernel
    have h3 : (fkT.getD c [])[k]? = none := List.getElem?_eq_none (by have := h2 c hc; omega)
    have h4 : fk c k = 0 := by unfold fk; rw [List.getD_eq_getElem?_getD, h3]; rfl
    rw [h4] at h
    cases h
theorem kls_lt : ∀ o, kls o < 7 := by
  intro o
  by_cases h : o < 9
  · exact (by decide +kernel : ∀ o, o < 9 → kls o < 7) o h
  · have h3 : ([5, 4, 1, 2, 2, 0, 3, 3, 6] : List Nat)[o]? = none := List.getElem?_eq_none (by simp; omega)
    simp [kls, List.getD, h3]
theorem rw_at {g : rG} {σ : rS} {q : Nat × Nat} (h : q ∈ cL) : ∃ p : Nat, cL[p]? = some q ∧ (rw_ g σ)[p]? = some (g.2.2 q, cont g σ q) := by
  obtain ⟨p, hp⟩ := List.getElem?_of_mem h
  exact ⟨p, hp, by unfold rw_; rw [List.getElem?_map, hp]; rfl⟩
theorem rw_set {g : rG} {σ σ' : rS} {q : Nat × Nat} {p : Nat} {e : va_E} (hp : cL[p]? = some q) (he : cont g σ' q = e) (hn : ∀ q' ∈ cL, q' ≠ q → cont g σ' q' = cont g σ q') : (rw_ g σ).set p (g.2.2 q, e) = rw_ g σ' := by
  have hlt := (List.getElem?_eq_some_iff.mp hp).1
  apply List.ext_getElem?
  intro j
  by_cases hj : j = p
  · subst hj
    rw [List.getElem?_set_self (by unfold rw_; rw [List.length_map]; exact hlt)]
    unfold rw_
    rw [List.getElem?_map, hp, Option.map_some, he]
  · rw [List.getElem?_set_ne (Ne.symm hj)]
    unfold rw_
    rw [List.getElem?_map, List.getElem?_map]
    cases hq : cL[j]? with
    | none => rfl
    | some q' =>
      have hne : q' ≠ q := by
        intro h
        subst h
        exact hj ((List.getElem?_inj (List.getElem?_eq_some_iff.mp hq).1 cL_nd).mp (hq.trans hp.symm))
      rw [Option.map_some, Option.map_some, hn q' (List.mem_of_getElem? hq) hne]
theorem rw_D {g : rG} {A : Nat → Prop} {σ : rS} (σ' : rS) (h : va_D A (rw_ g σ)) : va_D A (rw_ g σ') := by
  have key : ∀ (k : Nat) (q : Nat × va_E), (rw_ g σ')[k]? = some q → ∃ q0, (rw_ g σ)[k]? = some q0 ∧ q0.1 = q.1 := by
    intro k q hk
    unfold rw_ at hk ⊢
    rw [List.getElem?_map] at hk ⊢
    cases hq : cL[k]? with
    | none => rw [hq] at hk; cases hk
    | some z => rw [hq] at hk; cases hk; exact ⟨_, rfl, rfl⟩
  refine ⟨fun i j x y hi hj hxy => ?_, fun k q hk => ?_⟩
  · obtain ⟨x0, h1, h2⟩ := key i x hi
    obtain ⟨y0, h3, h4⟩ := key j y hj
    exact h.1 i j x0 y0 h1 h3 (h2.trans (hxy.trans h4.symm))
  · obtain ⟨q0, h1, h2⟩ := key k q hk
    rw [← h2]
    exact h.2 k q0 h1
theorem up_self {σ : rS} {o k : Nat} {i v : Int32} : up σ o k i v o k i = v := by simp [up]
theorem up_o {σ : rS} {o k o' k' : Nat} {i i' v : Int32} (h : o' ≠ o) : up σ o k i v o' k' i' = σ o' k' i' := by simp [up, h]
theorem up_k {σ : rS} {o k o' k' : Nat} {i i' v : Int32} (h : k' ≠ k) : up σ o k i v o' k' i' = σ o' k' i' := by simp [up, h]
theorem up_i {σ : rS} {o k o' k' : Nat} {i i' v : Int32} (h : i' ≠ i) : up σ o k i v o' k' i' = σ o' k' i' := by simp [up, h]
theorem nI_cl {i : Int32} (h : ¬ i < 0) : nI i.toNatClampNeg = i := by
  obtain ⟨j, hj, rfl⟩ := nI_of h
  rw [nI_clamp hj]
theorem cl_lt (i : Int32) : i.toNatClampNeg < 2147483648 := by
  have h1 : i.toInt < 2147483648 := Int32.toInt_lt i
  have h2 : i.toNatClampNeg = i.toInt.toNat := rfl
  rw [h2]
  omega
theorem rf_at {f : Int32 → Int32} {i : Int32} (h : ¬ i < 0) : rf f i.toNatClampNeg = f i := by
  unfold rf
  rw [if_pos (cl_lt i), nI_cl h]
theorem rf_up {σ : rS} {o k : Nat} {i v : Int32} (h : ¬ i < 0) : rf (up σ o k i v o k) = upd (rf (σ o k)) i.toNatClampNeg v := by
  funext j
  obtain ⟨n, hn, rfl⟩ := nI_of h
  rw [nI_clamp hn]
  by_cases hj : j < 2147483648
  · by_cases hjn : j = n
    · subst hjn
      simp [rf, hj, up, upd]
    · have h2 : ¬ nI j = nI n := fun h => hjn ((nI_eq hj hn).mp h)
      simp [rf, hj, up, upd, hjn, h2]
  · have hjn : ¬ j = n := by omega
    simp [rf, hj, upd, hjn]
theorem rf_up_ne {σ : rS} {o k o' k' : Nat} {i v : Int32} (h : ¬ (o' = o ∧ k' = k)) : rf (up σ o k i v o' k') = rf (σ o' k') := by
  funext j
  simp only [rf, up]
  split
  · rw [if_neg (fun z => h ⟨z.1, z.2.1⟩)]
  · rfl
theorem fvl_up_ne {g : rG} {σ : rS} {o k o' k' : Nat} {i v : Int32} (h : ¬ (o' = o ∧ k' = k) ∨ isA (fk (kls o) k) = true) : fvl g (up σ o k i v) o' k' = fvl g σ o' k' := by
  unfold fvl
  by_cases h2 : o' = o ∧ k' = k
  · rcases h with h | h
    · exact absurd h2 h
    · rw [h2.1, h2.2]
      unfold fvk
      rw [if_pos h, if_pos h]
  · have e : up σ o k i v o' k' 0 = σ o' k' 0 := by unfold up; rw [if_neg (fun z => h2 ⟨z.1, z.2.1⟩)]
    rw [e]
/-- a field's write, on the cells -/
theorem cont_field {g : rG} {σ : rS} {o k : Nat} {v : Int32} {w : Value} (hk : k < nfs.getD (kls o) 0) (hf : isA (fk (kls o) k) = false) (hw : fvl g (up σ o k 0 v) o k = w) :
    cont g (up σ o k 0 v) (o, 0) = .inr (kls o, ((List.range (nfs.getD (kls o) 0)).map (fvl g σ o)).set k w) ∧ ∀ q ∈ cL, q ≠ (o, 0) → cont g (up σ o k 0 v) q = cont g σ q := by
  refine ⟨?_, ?_⟩
  · show Sum.inr (kls o, (List.range (nfs.getD (kls o) 0)).map (fvl g (up σ o k 0 v) o)) = _
    congr 2
    apply List.ext_getElem?
    intro j
    by_cases hj : j = k
    · subst hj
      rw [List.getElem?_set_self (by simpa using hk), List.getElem?_map, List.getElem?_range hk, Option.map_some, hw]
    · rw [List.getElem?_set_ne (Ne.symm hj), List.getElem?_map, List.getElem?_map]
      by_cases hjn : j < nfs.getD (kls o) 0
      · rw [List.getElem?_range hjn, Option.map_some, Option.map_some, fvl_up_ne (Or.inl (fun z2 => hj z2.2))]
      · rw [List.getElem?_eq_none (by simpa using hjn)]
        rfl
  · intro q hq hne
    obtain ⟨o', k'⟩ := q
    cases k' with
    | zero =>
      have ho : o' ≠ o := fun h => hne (by rw [h])
      show Sum.inr (kls o', (List.range (nfs.getD (kls o') 0)).map (fvl g (up σ o k 0 v) o')) = Sum.inr (kls o', (List.range (nfs.getD (kls o') 0)).map (fvl g σ o'))
      congr 2
      exact List.map_congr_left (fun a _ => fvl_up_ne (Or.inl (fun z => ho z.1)))
    | succ k' =>
      have h2 := (cL_inv _ hq).2 (Nat.succ_ne_zero _)
      have h3 : isA (fk (kls o') k') = true := h2
      show Sum.inl (g.2.1 (fk (kls o') k'), (fl (kls o') k', Sum.inl (rf (up σ o k 0 v o' k')))) = Sum.inl (g.2.1 (fk (kls o') k'), (fl (kls o') k', Sum.inl (rf (σ o' k'))))
      rw [rf_up_ne]
      rintro ⟨rfl, rfl⟩
      rw [hf] at h3
      cases h3
/-- an array's write, on the cells -/
theorem cont_arr {g : rG} {σ : rS} {o k : Nat} {i v : Int32} (hi : ¬ i < 0) (hf : isA (fk (kls o) k) = true) :
    cont g (up σ o k i v) (o, k + 1) = .inl (g.2.1 (fk (kls o) k), (fl (kls o) k, .inl (upd (rf (σ o k)) i.toNatClampNeg v))) ∧ ∀ q ∈ cL, q ≠ (o, k + 1) → cont g (up σ o k i v) q = cont g σ q := by
  refine ⟨?_, ?_⟩
  · show Sum.inl (g.2.1 (fk (kls o) k), (fl (kls o) k, Sum.inl (rf (up σ o k i v o k)))) = _
    rw [rf_up hi]
  · intro q hq hne
    obtain ⟨o', k'⟩ := q
    cases k' with
    | zero =>
      show Sum.inr (kls o', (List.range (nfs.getD (kls o') 0)).map (fvl g (up σ o k i v) o')) = Sum.inr (kls o', (List.range (nfs.getD (kls o') 0)).map (fvl g σ o'))
      congr 2
      exact List.map_congr_left (fun a _ => fvl_up_ne (Or.inr hf))
    | succ k' =>
      show Sum.inl (g.2.1 (fk (kls o') k'), (fl (kls o') k', Sum.inl (rf (up σ o k i v o' k')))) = Sum.inl (g.2.1 (fk (kls o') k'), (fl (kls o') k', Sum.inl (rf (σ o' k'))))
      rw [rf_up_ne]
      rintro ⟨rfl, rfl⟩
      exact hne rfl

