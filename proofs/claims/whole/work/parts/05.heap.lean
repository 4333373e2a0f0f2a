/-! A CLASS: its number, name, fields, how many, their types -/
def rCl (ci : Nat) (C : String) (T : u_T) (N : Nat) (ty : Nat → FieldType) : Prop :=
  vwCl[ci]? = some (C, T, N) ∧ nfs.getD ci 0 = N ∧ (∀ w ∈ u_ws C T N, w ∈ gW) ∧ (∀ k, k < N → parseFieldDescriptor (T k).2.2.1 = some (ty k)) ∧ (∀ a, a < N → ∀ b, b < N → a ≠ b → (T a).2.1 ≠ (T b).2.1)
theorem kX0 : rCl 0 RX0 TX0 9 tyX0 := ⟨rfl, rfl, inG0, tyX0_ok, nmX0⟩
theorem kX1 : rCl 1 RX1 TX1 6 tyX1 := ⟨rfl, rfl, inG1, tyX1_ok, nmX1⟩
theorem kX2 : rCl 2 RX2 TX2 8 tyX2 := ⟨rfl, rfl, inG2, tyX2_ok, nmX2⟩
theorem kX3 : rCl 3 RX3 TX3 5 tyX3 := ⟨rfl, rfl, inG3, tyX3_ok, nmX3⟩
theorem kX4 : rCl 4 RX4 TX4 2 tyX4 := ⟨rfl, rfl, inG4, tyX4_ok, nmX4⟩
theorem kX5 : rCl 5 RX5 TX5 11 tyX5 := ⟨rfl, rfl, inG5, tyX5_ok, nmX5⟩
theorem kX6 : rCl 6 RX6 TX6 37 tyX6 := ⟨rfl, rfl, inG6, tyX6_ok, nmX6⟩
section RH
variable {M : rM} {pc : Nat} {ls st : List rV} {σ σ' : rS} {r : Option rV} {ci N : Nat} {C : String} {T : u_T} {ty : Nat → FieldType}
/-- a field is read: its value as the picture has it -/
theorem e_get {o k idx : Nat} {v : rV} (hc : rCl ci C T N ty) (ho : isO o ci) (hk : k < N) (hf : Cond.fieldLink (mO M) idx (T k).1 (T k).2.1 (T k).2.2.1 ∈ gW) (hd : decode (mC M) pc = .ok (.getfield idx, 3)) (hv : ∀ g : rG, fvl g σ o k = cv g v) (kk : E M (pc + 3) ls (v :: st) σ r σ') : E M pc ls (.inr (o, 0) :: st) σ r σ' := by
  intro p l e s m args below meth c g A H locs lsC X hP hD hS hL
  obtain ⟨h1, h2, h3, h4, h5⟩ := hc
  obtain ⟨q0, -, hq⟩ := rw_at (g := g) (σ := σ) (cL_obj o ho.1)
  have he : (rw_ g σ)[q0]? = some (g.2.2 (o, 0), .inr (ci, (List.range N).map (fvl g σ o))) := by
    rw [hq]
    show some (g.2.2 (o, 0), Sum.inr (kls o, (List.range (nfs.getD (kls o) 0)).map (fvl g σ o))) = _
    rw [ho.2, h2]
  exact va_get (D := g.1) (T := T) (N := N) (ci := ci) X.1 X.2.1 X.2.2.2.2.1 h3 X.2.2.2.1 X.2.2.2.2.2.2.2.1 hP q0 he h1 k hk (X.2.2.2.2.1 _ hf) (fun _ h9 => h9) (v := cv g v) (by rw [List.getElem?_map, List.getElem?_range hk, Option.map_some, hv]) hd (kk p l e s m args below meth c g A H locs lsC X hP hD hS hL)
theorem fv_i {g : rG} {o k : Nat} (ho : isO o ci) (h : fk ci k = 0) : fvl g σ o k = cv g (.inl (σ o k 0)) := by
  unfold fvl
  rw [ho.2, h]
  rfl
theorem fv_a {g : rG} {o k : Nat} (ho : isO o ci) (h : isA (fk ci k) = true) : fvl g σ o k = cv g (.inr (o, k + 1)) := by
  unfold fvl fvk
  rw [ho.2, if_pos h]
  rfl
theorem fv_o {g : rG} {o k t : Nat} (ho : isO o ci) (h : fk ci k = 4) (ht : tgt o k = t) : fvl g σ o k = cv g (.inr (t, 0)) := by
  unfold fvl
  rw [ho.2, h, ← ht]
  rfl
theorem fv_d {g : rG} {o k t : Nat} (ho : isO o ci) (h : fk ci k = 5) (ht : (σ o k 0).toNatClampNeg = t) : fvl g σ o k = cv g (.inr (t, 0)) := by
  unfold fvl
  rw [ho.2, h, ← ht]
  rfl
/-- getfield of a number -/
theorem e_getI {o k idx : Nat} (hc : rCl ci C T N ty) (ho : isO o ci) (hk : k < N) (hf : Cond.fieldLink (mO M) idx (T k).1 (T k).2.1 (T k).2.2.1 ∈ gW) (h0 : fk ci k = 0) (hd : decode (mC M) pc = .ok (.getfield idx, 3)) (kk : E M (pc + 3) ls (.inl (σ o k 0) :: st) σ r σ') : E M pc ls (.inr (o, 0) :: st) σ r σ' :=
  e_get hc ho hk hf hd (fun _ => fv_i ho h0) kk
/-- getfield of an array -/
theorem e_getA {o k idx : Nat} (hc : rCl ci C T N ty) (ho : isO o ci) (hk : k < N) (hf : Cond.fieldLink (mO M) idx (T k).1 (T k).2.1 (T k).2.2.1 ∈ gW) (h0 : isA (fk ci k) = true) (hd : decode (mC M) pc = .ok (.getfield idx, 3)) (kk : E M (pc + 3) ls (.inr (o, k + 1) :: st) σ r σ') : E M pc ls (.inr (o, 0) :: st) σ r σ' :=
  e_get hc ho hk hf hd (fun _ => fv_a ho h0) kk
/-- getfield of an object that stays -/
theorem e_getO {o k idx : Nat} (t : Nat) (hc : rCl ci C T N ty) (ho : isO o ci) (hk : k < N) (hf : Cond.fieldLink (mO M) idx (T k).1 (T k).2.1 (T k).2.2.1 ∈ gW) (h0 : fk ci k = 4) (ht : tgt o k = t) (hd : decode (mC M) pc = .ok (.getfield idx, 3)) (kk : E M (pc + 3) ls (.inr (t, 0) :: st) σ r σ') : E M pc ls (.inr (o, 0) :: st) σ r σ' :=
  e_get hc ho hk hf hd (fun _ => fv_o ho h0 ht) kk
/-- getfield of an object that changes -/
theorem e_getD {o k idx : Nat} (t : Nat) (hc : rCl ci C T N ty) (ho : isO o ci) (hk : k < N) (hf : Cond.fieldLink (mO M) idx (T k).1 (T k).2.1 (T k).2.2.1 ∈ gW) (h0 : fk ci k = 5) (ht : (σ o k 0).toNatClampNeg = t) (hd : decode (mC M) pc = .ok (.getfield idx, 3)) (kk : E M (pc + 3) ls (.inr (t, 0) :: st) σ r σ') : E M pc ls (.inr (o, 0) :: st) σ r σ' :=
  e_get hc ho hk hf hd (fun _ => fv_d ho h0 ht) kk
/-- a field is written -/
theorem e_put {o k idx : Nat} {v : rV} {x : Int32} (hc : rCl ci C T N ty) (ho : isO o ci) (hk : k < N) (hf : Cond.fieldLink (mO M) idx (T k).1 (T k).2.1 (T k).2.2.1 ∈ gW) (hfin : (T k).2.2.2 = false) (h0 : isA (fk ci k) = false) (hv : ∀ g : rG, fvl g (up σ o k 0 x) o k = cv g v) (hn : ∀ g : rG, narrow (ty k) (cv g v) = cv g v ∧ fits (ty k) (cv g v) = true) (hd : decode (mC M) pc = .ok (.putfield idx, 3)) (kk : E M (pc + 3) ls st (up σ o k 0 x) r σ') : E M pc ls (v :: .inr (o, 0) :: st) σ r σ' := by
  intro p l e s m args below meth c g A H locs lsC X hP hD hS hL
  obtain ⟨h1, h2, h3, h4, h5⟩ := hc
  obtain ⟨q0, hq0, hq⟩ := rw_at (g := g) (σ := σ) (cL_obj o ho.1)
  have he : (rw_ g σ)[q0]? = some (g.2.2 (o, 0), .inr (ci, (List.range N).map (fvl g σ o))) := by
    rw [hq]
    show some (g.2.2 (o, 0), Sum.inr (kls o, (List.range (nfs.getD (kls o) 0)).map (fvl g σ o))) = _
    rw [ho.2, h2]
  have hcf := cont_field (g := g) (σ := σ) (o := o) (k := k) (v := x) (w := cv g v) (by rw [ho.2, h2]; exact hk) (by rw [ho.2]; exact h0) (hv g)
  rw [ho.2, h2] at hcf
  have hset := rw_set hq0 hcf.1 hcf.2
  refine va_put (D := g.1) (T := T) (N := N) (ci := ci) X.1 X.2.1 X.2.2.2.2.1 h3 ty h4 h5 X.2.2.2.1 X.2.2.2.2.2.2.2.1 hP hD hS q0 he h1 k hk (X.2.2.2.2.1 _ hf) (fun _ h9 => h9) hfin (h4 k hk) (hn g).1 (hn g).2 (by simpa using hk) hd (fun H1 locs1 hP1 hD1 hS1 => ?_)
  rw [hset] at hP1 hD1
  exact kk p l e s m args below meth c g A H1 locs1 lsC X hP1 hD1 hS1 hL
/-- putfield of an int -/
theorem e_putI {o k idx : Nat} {x : Int32} (hc : rCl ci C T N ty) (ho : isO o ci) (hk : k < N) (hf : Cond.fieldLink (mO M) idx (T k).1 (T k).2.1 (T k).2.2.1 ∈ gW) (hfin : (T k).2.2.2 = false) (h0 : fk ci k = 0) (hty : ty k = .int) (hd : decode (mC M) pc = .ok (.putfield idx, 3)) (kk : E M (pc + 3) ls st (up σ o k 0 x) r σ') : E M pc ls (.inl x :: .inr (o, 0) :: st) σ r σ' :=
  e_put hc ho hk hf hfin (by rw [h0]; rfl) (fun g => by rw [fv_i ho h0, up_self]) (fun g => by rw [hty]; exact ⟨rfl, rfl⟩) hd kk
/-- putfield of a boolean -/
theorem e_putZ {o k idx : Nat} {x : Int32} (hc : rCl ci C T N ty) (ho : isO o ci) (hk : k < N) (hf : Cond.fieldLink (mO M) idx (T k).1 (T k).2.1 (T k).2.2.1 ∈ gW) (hfin : (T k).2.2.2 = false) (h0 : fk ci k = 0) (hty : ty k = .boolean) (hx : x = 0 ∨ x = 1) (hd : decode (mC M) pc = .ok (.putfield idx, 3)) (kk : E M (pc + 3) ls st (up σ o k 0 x) r σ') : E M pc ls (.inl x :: .inr (o, 0) :: st) σ r σ' :=
  e_put hc ho hk hf hfin (by rw [h0]; rfl) (fun g => by rw [fv_i ho h0, up_self]) (fun g => by rw [hty]; rcases hx with rfl | rfl <;> exact ⟨rfl, rfl⟩) hd kk
/-- putfield of an object that changes -/
theorem e_putD {o k idx t : Nat} {nm : String} (hc : rCl ci C T N ty) (ho : isO o ci) (hk : k < N) (hf : Cond.fieldLink (mO M) idx (T k).1 (T k).2.1 (T k).2.2.1 ∈ gW) (hfin : (T k).2.2.2 = false) (h0 : fk ci k = 5) (hty : ty k = .object nm) (ht : t < 2 ^ 31) (hd : decode (mC M) pc = .ok (.putfield idx, 3)) (kk : E M (pc + 3) ls st (up σ o k 0 (nI t)) r σ') : E M pc ls (.inr (t, 0) :: .inr (o, 0) :: st) σ r σ' :=
  e_put hc ho hk hf hfin (by rw [h0]; rfl) (fun g => by rw [fv_d (t := t) ho h0 (by rw [up_self, nI_clamp ht])]) (fun g => by rw [hty]; exact ⟨rfl, rfl⟩) hd kk
theorem arr_at {g : rG} {o k : Nat} (ho : isO o ci) (h0 : isA (fk ci k) = true) : ∃ p : Nat, cL[p]? = some (o, k + 1) ∧ (rw_ g σ)[p]? = some (g.2.2 (o, k + 1), .inl (g.2.1 (fk ci k), (fl ci k, .inl (rf (σ o k))))) := by
  have h1 : isA (fk (kls o) k) = true := by rw [ho.2]; exact h0
  obtain ⟨p, hp, h⟩ := rw_at (g := g) (σ := σ) (cL_arr o ho.1 k (fk_lt _ (kls_lt o) k h1) h1)
  refine ⟨p, hp, ?_⟩
  rw [h]
  show some (g.2.2 (o, k + 1), Sum.inl (g.2.1 (fk (kls o) k), (fl (kls o) k, Sum.inl (rf (σ o k))))) = _
  rw [ho.2]
theorem e_alen {o k : Nat} {n : Int32} (ho : isO o ci) (h0 : isA (fk ci k) = true) (hn : nI (fl ci k) = n) (hd : decode (mC M) pc = .ok (.arraylength, 1)) (kk : E M (pc + 1) ls (.inl n :: st) σ r σ') : E M pc ls (.inr (o, k + 1) :: st) σ r σ' := by
  intro p l e s m args below meth c g A H locs lsC X hP hD hS hL
  obtain ⟨q0, -, hq⟩ := arr_at (g := g) (σ := σ) ho h0
  have kk2 := kk p l e s m args below meth c g A H locs lsC X hP hD hS hL
  have ht : ∃ t : FieldType, (rT g)[fk ci k]? = some (g.2.1 (fk ci k), t) := by
    generalize fk ci k = x at h0 ⊢
    match x, h0 with
    | 1, _ => exact ⟨_, rfl⟩
    | 2, _ => exact ⟨_, rfl⟩
    | 3, _ => exact ⟨_, rfl⟩
  obtain ⟨t, ht⟩ := ht
  exact va_alen (D := g.1) X.1 X.2.1 X.2.2.2.2.2.2.2.1 hP q0 _ hq ht hn hd kk2
theorem vin_nn {i : Int32} {n : Nat} (h : vp_in i n) : ¬ i < 0 := fun z => h (Or.inl z)
theorem e_iald {o k : Nat} {i : Int32} (ho : isO o ci) (h0 : fk ci k = 1) (hi : vp_in i (fl ci k)) (hd : decode (mC M) pc = .ok (.iaload, 1)) (kk : E M (pc + 1) ls (.inl (σ o k i) :: st) σ r σ') : E M pc ls (.inl i :: .inr (o, k + 1) :: st) σ r σ' := by
  intro p l e s m args below meth c g A H locs lsC X hP hD hS hL
  obtain ⟨q0, -, hq⟩ := arr_at (g := g) (σ := σ) ho (by rw [h0]; rfl)
  have kk2 := kk p l e s m args below meth c g A H locs lsC X hP hD hS hL
  refine va_iald (D := g.1) (tys := rT g) X.1 X.2.1 X.2.2.2.2.2.2.2.1 hP q0 1 hq (by rw [h0]; rfl) hi hd ?_
  rw [rf_at (vin_nn hi)]
  exact kk2
theorem e_bald {o k : Nat} {i : Int32} (ho : isO o ci) (h0 : fk ci k = 2) (hi : vp_in i (fl ci k)) (hd : decode (mC M) pc = .ok (.baload, 1)) (kk : E M (pc + 1) ls (.inl (σ o k i) :: st) σ r σ') : E M pc ls (.inl i :: .inr (o, k + 1) :: st) σ r σ' := by
  intro p l e s m args below meth c g A H locs lsC X hP hD hS hL
  obtain ⟨q0, -, hq⟩ := arr_at (g := g) (σ := σ) ho (by rw [h0]; rfl)
  have kk2 := kk p l e s m args below meth c g A H locs lsC X hP hD hS hL
  refine va_bald (D := g.1) (tys := rT g) X.1 X.2.1 X.2.2.2.2.2.2.2.1 hP q0 2 hq (by rw [h0]; rfl) hi hd ?_
  rw [rf_at (vin_nn hi)]
  exact kk2
theorem e_zald {o k : Nat} {i : Int32} (ho : isO o ci) (h0 : fk ci k = 3) (hi : vp_in i (fl ci k)) (hd : decode (mC M) pc = .ok (.baload, 1)) (kk : E M (pc + 1) ls (.inl (σ o k i) :: st) σ r σ') : E M pc ls (.inl i :: .inr (o, k + 1) :: st) σ r σ' := by
  intro p l e s m args below meth c g A H locs lsC X hP hD hS hL
  obtain ⟨q0, -, hq⟩ := arr_at (g := g) (σ := σ) ho (by rw [h0]; rfl)
  have kk2 := kk p l e s m args below meth c g A H locs lsC X hP hD hS hL
  refine va_zald (D := g.1) (tys := rT g) X.1 X.2.1 X.2.2.2.2.2.2.2.1 hP q0 3 hq (by rw [h0]; rfl) hi hd ?_
  rw [rf_at (vin_nn hi)]
  exact kk2
theorem e_iast {o k : Nat} {i x : Int32} (ho : isO o ci) (h0 : fk ci k = 1) (hi : vp_in i (fl ci k)) (hd : decode (mC M) pc = .ok (.iastore, 1)) (kk : E M (pc + 1) ls st (up σ o k i x) r σ') : E M pc ls (.inl x :: .inl i :: .inr (o, k + 1) :: st) σ r σ' := by
  intro p l e s m args below meth c g A H locs lsC X hP hD hS hL
  obtain ⟨q0, hq0, hq⟩ := arr_at (g := g) (σ := σ) ho (by rw [h0]; rfl)
  have hcf := cont_arr (g := g) (σ := σ) (o := o) (k := k) (i := i) (v := x) (vin_nn hi) (by rw [ho.2, h0]; rfl)
  rw [ho.2] at hcf
  have hset := rw_set hq0 hcf.1 hcf.2
  refine va_iast (D := g.1) (tys := rT g) X.1 X.2.1 X.2.2.2.2.2.2.2.1 hP hD hS q0 1 hq (by rw [h0]; rfl) hi hd (fun H1 locs1 hP1 hD1 hS1 => ?_)
  rw [hset] at hP1 hD1
  exact kk p l e s m args below meth c g A H1 locs1 lsC X hP1 hD1 hS1 hL
theorem e_bast {o k : Nat} {i x : Int32} (ho : isO o ci) (h0 : fk ci k = 2) (hi : vp_in i (fl ci k)) (hd : decode (mC M) pc = .ok (.bastore, 1)) (kk : E M (pc + 1) ls st (up σ o k i x.toInt8.toInt32) r σ') : E M pc ls (.inl x :: .inl i :: .inr (o, k + 1) :: st) σ r σ' := by
  intro p l e s m args below meth c g A H locs lsC X hP hD hS hL
  obtain ⟨q0, hq0, hq⟩ := arr_at (g := g) (σ := σ) ho (by rw [h0]; rfl)
  have hcf := cont_arr (g := g) (σ := σ) (o := o) (k := k) (i := i) (v := x.toInt8.toInt32) (vin_nn hi) (by rw [ho.2, h0]; rfl)
  rw [ho.2] at hcf
  have hset := rw_set hq0 hcf.1 hcf.2
  refine va_bast (D := g.1) (tys := rT g) X.1 X.2.1 X.2.2.2.2.2.2.2.1 hP hD hS q0 2 hq (by rw [h0]; rfl) hi hd (fun H1 locs1 hP1 hD1 hS1 => ?_)
  rw [vp_nar_byte, hset] at hP1 hD1
  exact kk p l e s m args below meth c g A H1 locs1 lsC X hP1 hD1 hS1 hL
theorem e_zast {o k : Nat} {i x : Int32} (ho : isO o ci) (h0 : fk ci k = 3) (hi : vp_in i (fl ci k)) (hx : x = 0 ∨ x = 1) (hd : decode (mC M) pc = .ok (.bastore, 1)) (kk : E M (pc + 1) ls st (up σ o k i x) r σ') : E M pc ls (.inl x :: .inl i :: .inr (o, k + 1) :: st) σ r σ' := by
  intro p l e s m args below meth c g A H locs lsC X hP hD hS hL
  obtain ⟨q0, hq0, hq⟩ := arr_at (g := g) (σ := σ) ho (by rw [h0]; rfl)
  have hcf := cont_arr (g := g) (σ := σ) (o := o) (k := k) (i := i) (v := x) (vin_nn hi) (by rw [ho.2, h0]; rfl)
  rw [ho.2] at hcf
  have hset := rw_set hq0 hcf.1 hcf.2
  have hx2 : vp_nar .boolean x = x := by rcases hx with rfl | rfl <;> rfl
  refine va_zast (D := g.1) (tys := rT g) X.1 X.2.1 X.2.2.2.2.2.2.2.1 hP hD hS q0 3 hq (by rw [h0]; rfl) hi hd (fun H1 locs1 hP1 hD1 hS1 => ?_)
  rw [hx2, hset] at hP1 hD1
  exact kk p l e s m args below meth c g A H1 locs1 lsC X hP1 hD1 hS1 hL
/-! answers -/
theorem e_iret {x : Int32} {t : FieldType} (hr : mR M = some t) (hn : narrow t (.int x) = .int x) (hd : decode (mC M) pc = .ok (.ireturn, 1)) : E M pc ls [.inl x] σ (some (.inl x)) σ := by
  intro p l e s m args below meth c g A H locs lsC X hP hD hS hL
  exact W.zret X.1 X.2.1 (X.2.2.2.2.2.1.trans hr) hn (fun t ht hW => ⟨rfl, by rw [ht]; exact hP, hS.F ht⟩) hS.2.2 hd X.2.2.2.2.2.2.1
theorem e_vret (hr : mR M = none) (hd : decode (mC M) pc = .ok (.return_, 1)) : E M pc ls [] σ none σ := by
  intro p l e s m args below meth c g A H locs lsC X hP hD hS hL
  exact W.vret X.1 X.2.1 (X.2.2.2.2.2.1.trans hr) (fun t ht hW => ⟨rfl, by rw [ht]; exact hP, hS.F ht⟩) hS.2.2 hd X.2.2.2.2.2.2.1
theorem e_aret {q : Nat × Nat} {nm : String} (hr : mR M = some (.object nm)) (hd : decode (mC M) pc = .ok (.areturn, 1)) : E M pc ls [.inr q] σ (some (.inr q)) σ := by
  intro p l e s m args below meth c g A H locs lsC X hP hD hS hL
  exact W.aret X.1 X.2.1 (X.2.2.2.2.2.1.trans hr) (Or.inl ⟨_, rfl⟩) (Or.inr ⟨_, rfl⟩) (fun t ht hW => ⟨rfl, by rw [ht]; exact hP, hS.F ht⟩) hS.2.2 hd X.2.2.2.2.2.2.1
/-- an answer by its value -/
theorem e_ireq {x y : Int32} {σ2 : rS} {t : FieldType} (hr : mR M = some t) (hn : narrow t (.int x) = .int x) (hd : decode (mC M) pc = .ok (.ireturn, 1)) (hxy : x = y) (hs : σ = σ2) : E M pc ls [.inl x] σ (some (.inl y)) σ2 := by
  subst hxy; subst hs
  exact e_iret hr hn hd
/-! calls -/
/-- what a method's name, code and class need, for a call of it -/
def okM (N : rM) (n : Nat) : Prop := Cond.code (mY N) (mC N) (mN N) (mR N) ∈ gW ∧ Cond.initialized (mY N).cls ∈ gW ∧ ((mY N).cls ≠ "java/lang/invoke/MethodHandle" ∧ (mY N).cls ≠ "java/lang/invoke/VarHandle") ∧ (parseMethodDescriptor (mY N).desc).map (fun d => d.parameters.length) = some n
theorem rWd_good {Mc N : rM} {n : Nat} (h : okM N n) {args : Array Value} {s : State} (ht : ∀ w ∈ gW, w.before args s = true) : ∀ w ∈ rWd N, ∀ (a' : Array Value) (U : State), s.WarmedH U.vm → w.before a' U = true := by
  intro w hw a' U hW
  have hg : w ∈ gW := by
    rcases List.mem_cons.mp hw with rfl | h1
    · exact h.1
    · exact h1
  exact word_at hW (good_of_word (List.mem_filter.mp hg).2) (ht w hg)
theorem rPc_blind (g : rG) (A : Nat → Prop) (as : List rV) (σ : rS) : FrameBlind (rPc g A as σ) := by
  intro a U f mk q
  obtain ⟨q0, qP, qD, qK⟩ := q
  exact ⟨q0, qP, qD, qK.same rfl⟩
theorem callB_ok {N : rM} {n idx : Nat} (h : okM N n) {args : Array Value} {s : State} (ht : ∀ w ∈ gW, w.before args s = true) (hl : Cond.methodLink (mO M) idx (mY N) ∈ gW) (hR : mF N + 1 ≤ mF M ∧ 8 + (mN N + 11) + mL N ≤ mL M) : CallB (rRm M) s args (mO M) idx (mY N) (mC N) (mN N) (mR N) (rWd N) (rRm N) 0 0 n := by
  refine ⟨rfl, rfl, hR.1, hR.2, rWd_good (Mc := M) h ht, List.mem_cons_self, ht _ h.1, ht _ h.2.1, h.2.2.1, fun sig hs => ?_, ht _ hl⟩
  have h2 := h.2.2.2
  rw [hs] at h2
  exact (Option.some.inj h2).symm
theorem cats_sum (g : rG) : ∀ st : List rV, ((st.map (cv g)).map fun v => v.category).sum = st.length
  | [] => rfl
  | a :: t => by rw [List.map_cons, List.map_cons, List.sum_cons, cats_sum g t, cv_cat, List.length_cons]; omega
/-- behind a call -/
theorem e_back {N : rM} {as : List rV} {v : Option rV} {σ1 : rS} {stk : List rV} (kk : E M (pc + 3) ls (v.toList ++ st) σ1 r σ')
    {p : Program} {l : Launch} {e : Env} {s : State} {m : MethodId} {args : Array Value} {below : List Frame} {meth : Method} {c : Code} {g : rG} {A : Nat → Prop} {H : Heap} {locs : List Loc} {lsC : Array Slot}
    (X : rX g M A p s m args meth c) (hD : va_D A (rw_ g σ)) (hS : va_S A s.heap H locs) (hL : Lh g lsC (mN M) ls) {a : Array Value}
    (hr : va_Run p l e (rRm M) s m args below meth c H locs 0 0 0 0 (F0 m pc lsC (stk.map (cv g))) (st.map (cv g)) (rQc g A v σ1 a) A) :
    W p l e (rRm M) s m args below meth c H locs 0 0 (MQ below (rQc g A r σ') args s 0 0 A) (F0 m pc lsC (stk.map (cv g))) := by
  intro T hT X9
  obtain ⟨v9, st₀, t, T', L, h0, X', hL9, e1, e2, ⟨hv, hP1, hz, hk⟩, stp⟩ := hr T hT X9
  have hv9 : v9 = v.map (cv g) := by cases hv; rfl
  subst hv9
  rw [h0] at hz hk
  have hS1 : va_S A s.heap T'.heap (locs ++ L) := by
    refine ⟨Nat.le_trans hS.1 (by rw [e1]; exact hz), fun q h1 h2 => ?_, fun q hq => ?_⟩
    · rw [e1, hk q (Nat.lt_of_lt_of_le h1 hS.1) h2]
      exact hS.2.1 q h1 h2
    · rcases List.mem_append.mp hq with h | h
      · exact hS.2.2 q h
      · exact hL9 q h
  have k2 := kk p l e s m args below meth c g A T'.heap (locs ++ L) lsC X (by rw [e1]; exact hP1) (rw_D σ1 hD) hS1 hL
  have e9 : (v.toList ++ st).map (cv g) = (v.map (cv g)).toList ++ st.map (cv g) := by
    rw [List.map_append]
    cases v <;> rfl
  rw [e9] at k2
  obtain ⟨t2, a1, b1⟩ := k2 T' rfl X'
  exact ⟨t2, stp t2 a1, b1⟩
/-- what a call of an object's method needs beside -/
def okV (N : rM) (n ci : Nat) : Prop := okM N n ∧ Cond.instanceMethod (mY N) ∈ gW ∧ Cond.selects (mY N).cls (mY N) (mY N) ∈ gW ∧ ∃ q : vw_C, vwCl[ci]? = some q ∧ q.1 = (mY N).cls
theorem e_callV {N : rM} {n idx o : Nat} {as : List rV} {v : Option rV} {σ1 : rS} (hC : Ct N (.inr (o, 0) :: as) σ v σ1) (hN : okV N n ci) (hl : Cond.methodLink (mO M) idx (mY N) ∈ gW) (ho : isO o ci) (hn : as.length = n) (hst : st.length ≤ 8) (hR : mF N + 1 ≤ mF M ∧ 8 + (mN N + 11) + mL N ≤ mL M) (hd : decode (mC M) pc = .ok (.invokevirtual idx, 3)) (kk : E M (pc + 3) ls (v.toList ++ st) σ1 r σ') : E M pc ls (as.reverse ++ .inr (o, 0) :: st) σ r σ' := by
  intro p l e s m args below meth c g A H locs lsC X hP hD hS hL
  obtain ⟨hok, hin, hse, q, hq, hqc⟩ := hN
  have ht := X.2.2.2.2.1
  obtain ⟨q0, -, hq0⟩ := rw_at (g := g) (σ := σ) (cL_obj o ho.1)
  have hrecv := va_recv (ci := kls o) X.2.2.2.2.2.2.2.1 hP (by rw [ho.2]; exact hq) hq0
  rw [hqc] at hrecv
  refine e_back (N := N) (as := .inr (o, 0) :: as) (st := st) kk X hD hS hL (a := ((Sum.inr (o, 0) :: as : List rV).map (cv g)).toArray) ?_
  have hstk : (as.reverse ++ .inr (o, 0) :: st).map (cv g) = (as.map (cv g)).reverse ++ .ref (g.2.2 (o, 0)) :: st.map (cv g) := by
    rw [List.map_append, List.map_reverse]
    rfl
  refine va_runV (As := as.map (cv g)) (rest := st.map (cv g)) (C := (mY N).cls) ⟨X.1, X.2.1, X.2.2.1, X.2.2.2.1, ht⟩ (hC l g A) ⟨callB_ok hok ht hl hR, ht _ hin, ht _ hse⟩ ⟨rPc_blind g A _ σ, hrecv, fun U hU hW => ?_⟩ rfl (by rw [List.length_map]; exact hn) hL.1 hstk (by show 2 * 0 + _ ≤ 8; rw [cats_sum]; omega) hd ⟨Nat.le_refl _, Nat.le_refl _⟩
  exact ⟨rfl, by rw [hU]; exact hP, hD, by rw [hU]; exact X.2.2.2.2.2.2.2.to hS hW⟩
theorem e_callS {N : rM} {n idx : Nat} {as : List rV} {v : Option rV} {σ1 : rS} (hC : Ct N as σ v σ1) (hN : okM N n) (hs : Cond.static (mY N) ∈ gW) (hl : Cond.methodLink (mO M) idx (mY N) ∈ gW) (hn : as.length = n) (hst : st.length ≤ 8) (hR : mF N + 1 ≤ mF M ∧ 8 + (mN N + 11) + mL N ≤ mL M) (hd : decode (mC M) pc = .ok (.invokestatic idx, 3)) (kk : E M (pc + 3) ls (v.toList ++ st) σ1 r σ') : E M pc ls (as.reverse ++ st) σ r σ' := by
  intro p l e s m args below meth c g A H locs lsC X hP hD hS hL
  have ht := X.2.2.2.2.1
  refine e_back (N := N) (as := as) (st := st) kk X hD hS hL (a := (as.map (cv g)).toArray) ?_
  have hstk : (as.reverse ++ st).map (cv g) = (as.map (cv g)).reverse ++ st.map (cv g) := by
    rw [List.map_append, List.map_reverse]
  refine va_runS (As := as.map (cv g)) (rest := st.map (cv g)) ⟨X.1, X.2.1, X.2.2.1, X.2.2.2.1, ht⟩ (hC l g A) ⟨callB_ok hN ht hl hR, ht _ hs⟩ ⟨rPc_blind g A _ σ, fun U hU hW => ?_⟩ rfl (by rw [List.length_map]; exact hn) hL.1 hstk (by show 2 * 0 + _ ≤ 8; rw [cats_sum]; omega) hd ⟨Nat.le_refl _, Nat.le_refl _⟩
  exact ⟨rfl, by rw [hU]; exact hP, hD, by rw [hU]; exact X.2.2.2.2.2.2.2.to hS hW⟩
end RH
