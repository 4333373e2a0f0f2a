/-- a truth as an int -/
def bI (p : Prop) [Decidable p] : Int32 := if p then 1 else 0
theorem bI_t {p : Prop} [Decidable p] (h : p) : bI p = 1 := if_pos h
theorem bI_f {p : Prop} [Decidable p] (h : ¬ p) : bI p = 0 := if_neg h
theorem bI_0 {p : Prop} [Decidable p] : bI p = 0 ↔ ¬ p := by unfold bI; split <;> simp_all
theorem bI_n0 {p : Prop} [Decidable p] : ¬ bI p = 0 ↔ p := by unfold bI; split <;> simp_all
theorem bI_or {p : Prop} [Decidable p] : bI p = 0 ∨ bI p = 1 := by unfold bI; split <;> simp
theorem bI_eq {p q : Prop} [Decidable p] [Decidable q] (h : p ↔ q) : bI p = bI q := by unfold bI; simp [h]
theorem nar_b {x : Int32} (h : x = 0 ∨ x = 1) : narrow .boolean (.int x) = .int x := by rcases h with rfl | rfl <;> rfl
theorem nar_bI {p : Prop} [Decidable p] : narrow .boolean (.int (bI p)) = .int (bI p) := nar_b bI_or
theorem vin {i : Int32} {n : Nat} (N : Int32) (hN : N.toInt = n) (h : 0 ≤ i ∧ i < N) : vp_in i n := by
  rw [vp_in_iff, ← hN]
  exact ⟨Int32.le_iff_toInt_le.mp h.1, Int32.lt_iff_toInt_lt.mp h.2⟩
theorem dn_ind (n : Nat) (P : Nat → Prop) (hb : P n) (hs : ∀ j, j < n → P (j + 1) → P j) : ∀ j, j ≤ n → P j := by
  intro j hj
  induction h : n - j generalizing j with
  | zero =>
    have : j = n := by omega
    rw [this]
    exact hb
  | succ k ih => exact hs j (by omega) (ih (j + 1) (by omega) (by omega))
theorem nI_int {n : Nat} (h : n < 2 ^ 31) : (nI n).toInt = (n : Int) := nI_toInt h
section RM
variable {M : rM} {pc : Nat} {ls st : List rV} {σ σ' : rS} {r : Option rV}
theorem e_inc {n : Nat} {d : Int} {x : Int32} (dv : Int32) (hdv : Int32.ofInt d = dv) (hd : decode (mC M) pc = .ok (.iinc n d, 3)) (hx0 : ls[n]? = some (.inl x)) (hn : n < mN M) (hl : n ≤ ls.length) (k : E M (pc + 3) (lset ls n (.inl (x + dv))) st σ r σ') : E M pc ls st σ r σ' := by
  subst hdv
  exact e_iinc hd hx0 hn hl k
theorem e_if_eqB {p : Prop} [Decidable p] {off : Int} {tgt : Nat} (hd : decode (mC M) pc = .ok (.ifCond .eq off, 3)) (ht : (pc : Int) + off = (tgt : Int)) (kt : ¬ p → E M tgt ls st σ r σ') (kf : p → E M (pc + 3) ls st σ r σ') : E M pc ls (.inl (bI p) :: st) σ r σ' :=
  e_if_eq hd ht (fun h => kt (bI_0.mp h)) (fun h => kf (bI_n0.mp h))
theorem e_if_neB {p : Prop} [Decidable p] {off : Int} {tgt : Nat} (hd : decode (mC M) pc = .ok (.ifCond .ne off, 3)) (ht : (pc : Int) + off = (tgt : Int)) (kt : p → E M tgt ls st σ r σ') (kf : ¬ p → E M (pc + 3) ls st σ r σ') : E M pc ls (.inl (bI p) :: st) σ r σ' :=
  e_if_ne hd ht (fun h => kt (bI_n0.mp h)) (fun h => kf (bI_0.mp h))
theorem e_ireB {p q : Prop} [Decidable p] [Decidable q] {x : Int32} {σ2 : rS} (hr : mR M = some .boolean) (hd : decode (mC M) pc = .ok (.ireturn, 1)) (hx : x = bI p) (hpq : p ↔ q) (hs : σ = σ2) : E M pc ls [.inl x] σ (some (.inl (bI q))) σ2 := by
  subst hx
  exact e_ireq hr nar_bI hd (bI_eq hpq) hs
/-- true, false as constants -/
theorem e_ret1 {q : Prop} [Decidable q] {σ2 : rS} (hr : mR M = some .boolean) (hd : decode (mC M) pc = .ok (.ireturn, 1)) (hq : q) (hs : σ = σ2) : E M pc ls [.inl 1] σ (some (.inl (bI q))) σ2 := by
  rw [bI_t hq, ← hs]
  exact e_iret hr rfl hd
theorem e_ret0 {q : Prop} [Decidable q] {σ2 : rS} (hr : mR M = some .boolean) (hd : decode (mC M) pc = .ok (.ireturn, 1)) (hq : ¬ q) (hs : σ = σ2) : E M pc ls [.inl 0] σ (some (.inl (bI q))) σ2 := by
  rw [bI_f hq, ← hs]
  exact e_iret hr rfl hd
theorem e_vreq {σ2 : rS} (hr : mR M = none) (hd : decode (mC M) pc = .ok (.return_, 1)) (hs : σ = σ2) : E M pc ls [] σ none σ2 := by
  subst hs
  exact e_vret hr hd
theorem e_tab6 {x : Int32} {dflt o0 o1 o2 o3 o4 o5 : Int} {len : Nat} (t0 t1 t2 t3 t4 t5 td : Nat) (hd : decode (mC M) pc = .ok (.tableswitch dflt 0 5 #[o0, o1, o2, o3, o4, o5], len)) (h0 : (pc : Int) + o0 = (t0 : Int)) (h1 : (pc : Int) + o1 = (t1 : Int)) (h2 : (pc : Int) + o2 = (t2 : Int)) (h3 : (pc : Int) + o3 = (t3 : Int)) (h4 : (pc : Int) + o4 = (t4 : Int)) (h5 : (pc : Int) + o5 = (t5 : Int)) (h6 : (pc : Int) + dflt = (td : Int))
    (k0 : x = 0 → E M t0 ls st σ r σ') (k1 : x = 1 → E M t1 ls st σ r σ') (k2 : x = 2 → E M t2 ls st σ r σ') (k3 : x = 3 → E M t3 ls st σ r σ') (k4 : x = 4 → E M t4 ls st σ r σ') (k5 : x = 5 → E M t5 ls st σ r σ') (kd : x ≠ 0 ∧ x ≠ 1 ∧ x ≠ 2 ∧ x ≠ 3 ∧ x ≠ 4 ∧ x ≠ 5 → E M td ls st σ r σ') : E M pc ls (.inl x :: st) σ r σ' := by
  intro p l e s m args below meth c g A H locs lsC X hP hD hS hL
  by_cases e0 : x = 0
  · subst e0; exact lv_tableIn X.1 X.2.1 hd (by decide) (by decide) rfl h0 (k0 rfl p l e s m args below meth c g A H locs lsC X hP hD hS hL)
  by_cases e1 : x = 1
  · subst e1; exact lv_tableIn X.1 X.2.1 hd (by decide) (by decide) rfl h1 (k1 rfl p l e s m args below meth c g A H locs lsC X hP hD hS hL)
  by_cases e2 : x = 2
  · subst e2; exact lv_tableIn X.1 X.2.1 hd (by decide) (by decide) rfl h2 (k2 rfl p l e s m args below meth c g A H locs lsC X hP hD hS hL)
  by_cases e3 : x = 3
  · subst e3; exact lv_tableIn X.1 X.2.1 hd (by decide) (by decide) rfl h3 (k3 rfl p l e s m args below meth c g A H locs lsC X hP hD hS hL)
  by_cases e4 : x = 4
  · subst e4; exact lv_tableIn X.1 X.2.1 hd (by decide) (by decide) rfl h4 (k4 rfl p l e s m args below meth c g A H locs lsC X hP hD hS hL)
  by_cases e5 : x = 5
  · subst e5; exact lv_tableIn X.1 X.2.1 hd (by decide) (by decide) rfl h5 (k5 rfl p l e s m args below meth c g A H locs lsC X hP hD hS hL)
  have hne : x < 0 ∨ 5 < x := by grind
  refine lv_tableOut X.1 X.2.1 hd ?_ h6 (kd ⟨e0, e1, e2, e3, e4, e5⟩ p l e s m args below meth c g A H locs lsC X hP hD hS hL)
  rcases hne with h | h
  · exact Or.inl (Int32.lt_iff_toInt_lt.mp h)
  · exact Or.inr (Int32.lt_iff_toInt_lt.mp h)
theorem e_tab3 {x : Int32} {dflt o0 o1 o2 : Int} {len : Nat} (t0 t1 t2 td : Nat) (hd : decode (mC M) pc = .ok (.tableswitch dflt 0 2 #[o0, o1, o2], len)) (h0 : (pc : Int) + o0 = (t0 : Int)) (h1 : (pc : Int) + o1 = (t1 : Int)) (h2 : (pc : Int) + o2 = (t2 : Int)) (h6 : (pc : Int) + dflt = (td : Int))
    (k0 : x = 0 → E M t0 ls st σ r σ') (k1 : x = 1 → E M t1 ls st σ r σ') (k2 : x = 2 → E M t2 ls st σ r σ') (kd : x ≠ 0 ∧ x ≠ 1 ∧ x ≠ 2 → E M td ls st σ r σ') : E M pc ls (.inl x :: st) σ r σ' := by
  intro p l e s m args below meth c g A H locs lsC X hP hD hS hL
  by_cases e0 : x = 0
  · subst e0; exact lv_tableIn X.1 X.2.1 hd (by decide) (by decide) rfl h0 (k0 rfl p l e s m args below meth c g A H locs lsC X hP hD hS hL)
  by_cases e1 : x = 1
  · subst e1; exact lv_tableIn X.1 X.2.1 hd (by decide) (by decide) rfl h1 (k1 rfl p l e s m args below meth c g A H locs lsC X hP hD hS hL)
  by_cases e2 : x = 2
  · subst e2; exact lv_tableIn X.1 X.2.1 hd (by decide) (by decide) rfl h2 (k2 rfl p l e s m args below meth c g A H locs lsC X hP hD hS hL)
  have hne : x < 0 ∨ 2 < x := by grind
  refine lv_tableOut X.1 X.2.1 hd ?_ h6 (kd ⟨e0, e1, e2⟩ p l e s m args below meth c g A H locs lsC X hP hD hS hL)
  rcases hne with h | h
  · exact Or.inl (Int32.lt_iff_toInt_lt.mp h)
  · exact Or.inr (Int32.lt_iff_toInt_lt.mp h)
theorem e_look2 {x : Int32} {dflt o0 o1 : Int} {len : Nat} (t0 t1 td : Nat) (hd : decode (mC M) pc = .ok (.lookupswitch dflt #[(0, o0), (1, o1)], len)) (h0 : (pc : Int) + o0 = (t0 : Int)) (h1 : (pc : Int) + o1 = (t1 : Int)) (h6 : (pc : Int) + dflt = (td : Int))
    (k0 : x = 0 → E M t0 ls st σ r σ') (k1 : x = 1 → E M t1 ls st σ r σ') (kd : x ≠ 0 ∧ x ≠ 1 → E M td ls st σ r σ') : E M pc ls (.inl x :: st) σ r σ' := by
  intro p l e s m args below meth c g A H locs lsC X hP hD hS hL
  by_cases e0 : x = 0
  · subst e0; exact lv_lookup X.1 X.2.1 hd rfl rfl h0 (k0 rfl p l e s m args below meth c g A H locs lsC X hP hD hS hL)
  by_cases e1 : x = 1
  · subst e1; exact lv_lookup X.1 X.2.1 hd rfl rfl h1 (k1 rfl p l e s m args below meth c g A H locs lsC X hP hD hS hL)
  refine lv_lookup X.1 X.2.1 hd rfl ?_ h6 (kd ⟨e0, e1⟩ p l e s m args below meth c g A H locs lsC X hP hD hS hL)
  show Op.lookupswitch.offset [(0, o0), (1, o1)] dflt x.toInt = dflt
  rw [lv_osw (k := 0) e0 (by decide), lv_osw (k := 1) e1 (by decide)]
  rfl
end RM
section RC
variable {M N : rM} {pc idx o ci : Nat} {ls st : List rV} {σ σ1 σ' : rS} {r : Option rV} {v : rV}
theorem e_V0v (hN : okV N 0 ci) (hl : Cond.methodLink (mO M) idx (mY N) ∈ gW) (hR : mF N + 1 ≤ mF M ∧ 8 + (mN N + 11) + mL N ≤ mL M) (hd : decode (mC M) pc = .ok (.invokevirtual idx, 3)) (ho : isO o ci) (hst : st.length ≤ 8) (hC : Ct N [.inr (o, 0)] σ none σ1) (kk : E M (pc + 3) ls st σ1 r σ') : E M pc ls (.inr (o, 0) :: st) σ r σ' :=
  e_callV (as := []) (v := none) hC hN hl ho rfl hst hR hd kk
theorem e_V0 (hN : okV N 0 ci) (hl : Cond.methodLink (mO M) idx (mY N) ∈ gW) (hR : mF N + 1 ≤ mF M ∧ 8 + (mN N + 11) + mL N ≤ mL M) (hd : decode (mC M) pc = .ok (.invokevirtual idx, 3)) (ho : isO o ci) (hst : st.length ≤ 8) (hC : Ct N [.inr (o, 0)] σ (some v) σ1) (kk : E M (pc + 3) ls (v :: st) σ1 r σ') : E M pc ls (.inr (o, 0) :: st) σ r σ' :=
  e_callV (as := []) (v := (some v)) hC hN hl ho rfl hst hR hd kk
theorem e_V1v {a0 : rV} (hN : okV N 1 ci) (hl : Cond.methodLink (mO M) idx (mY N) ∈ gW) (hR : mF N + 1 ≤ mF M ∧ 8 + (mN N + 11) + mL N ≤ mL M) (hd : decode (mC M) pc = .ok (.invokevirtual idx, 3)) (ho : isO o ci) (hst : st.length ≤ 8) (hC : Ct N [.inr (o, 0), a0] σ none σ1) (kk : E M (pc + 3) ls st σ1 r σ') : E M pc ls (a0 :: .inr (o, 0) :: st) σ r σ' :=
  e_callV (as := [a0]) (v := none) hC hN hl ho rfl hst hR hd kk
theorem e_V1 {a0 : rV} (hN : okV N 1 ci) (hl : Cond.methodLink (mO M) idx (mY N) ∈ gW) (hR : mF N + 1 ≤ mF M ∧ 8 + (mN N + 11) + mL N ≤ mL M) (hd : decode (mC M) pc = .ok (.invokevirtual idx, 3)) (ho : isO o ci) (hst : st.length ≤ 8) (hC : Ct N [.inr (o, 0), a0] σ (some v) σ1) (kk : E M (pc + 3) ls (v :: st) σ1 r σ') : E M pc ls (a0 :: .inr (o, 0) :: st) σ r σ' :=
  e_callV (as := [a0]) (v := (some v)) hC hN hl ho rfl hst hR hd kk
theorem e_V2v {a0 a1 : rV} (hN : okV N 2 ci) (hl : Cond.methodLink (mO M) idx (mY N) ∈ gW) (hR : mF N + 1 ≤ mF M ∧ 8 + (mN N + 11) + mL N ≤ mL M) (hd : decode (mC M) pc = .ok (.invokevirtual idx, 3)) (ho : isO o ci) (hst : st.length ≤ 8) (hC : Ct N [.inr (o, 0), a0, a1] σ none σ1) (kk : E M (pc + 3) ls st σ1 r σ') : E M pc ls (a1 :: a0 :: .inr (o, 0) :: st) σ r σ' :=
  e_callV (as := [a0, a1]) (v := none) hC hN hl ho rfl hst hR hd kk
theorem e_V2 {a0 a1 : rV} (hN : okV N 2 ci) (hl : Cond.methodLink (mO M) idx (mY N) ∈ gW) (hR : mF N + 1 ≤ mF M ∧ 8 + (mN N + 11) + mL N ≤ mL M) (hd : decode (mC M) pc = .ok (.invokevirtual idx, 3)) (ho : isO o ci) (hst : st.length ≤ 8) (hC : Ct N [.inr (o, 0), a0, a1] σ (some v) σ1) (kk : E M (pc + 3) ls (v :: st) σ1 r σ') : E M pc ls (a1 :: a0 :: .inr (o, 0) :: st) σ r σ' :=
  e_callV (as := [a0, a1]) (v := (some v)) hC hN hl ho rfl hst hR hd kk
theorem e_V3v {a0 a1 a2 : rV} (hN : okV N 3 ci) (hl : Cond.methodLink (mO M) idx (mY N) ∈ gW) (hR : mF N + 1 ≤ mF M ∧ 8 + (mN N + 11) + mL N ≤ mL M) (hd : decode (mC M) pc = .ok (.invokevirtual idx, 3)) (ho : isO o ci) (hst : st.length ≤ 8) (hC : Ct N [.inr (o, 0), a0, a1, a2] σ none σ1) (kk : E M (pc + 3) ls st σ1 r σ') : E M pc ls (a2 :: a1 :: a0 :: .inr (o, 0) :: st) σ r σ' :=
  e_callV (as := [a0, a1, a2]) (v := none) hC hN hl ho rfl hst hR hd kk
theorem e_V3 {a0 a1 a2 : rV} (hN : okV N 3 ci) (hl : Cond.methodLink (mO M) idx (mY N) ∈ gW) (hR : mF N + 1 ≤ mF M ∧ 8 + (mN N + 11) + mL N ≤ mL M) (hd : decode (mC M) pc = .ok (.invokevirtual idx, 3)) (ho : isO o ci) (hst : st.length ≤ 8) (hC : Ct N [.inr (o, 0), a0, a1, a2] σ (some v) σ1) (kk : E M (pc + 3) ls (v :: st) σ1 r σ') : E M pc ls (a2 :: a1 :: a0 :: .inr (o, 0) :: st) σ r σ' :=
  e_callV (as := [a0, a1, a2]) (v := (some v)) hC hN hl ho rfl hst hR hd kk
theorem e_V4v {a0 a1 a2 a3 : rV} (hN : okV N 4 ci) (hl : Cond.methodLink (mO M) idx (mY N) ∈ gW) (hR : mF N + 1 ≤ mF M ∧ 8 + (mN N + 11) + mL N ≤ mL M) (hd : decode (mC M) pc = .ok (.invokevirtual idx, 3)) (ho : isO o ci) (hst : st.length ≤ 8) (hC : Ct N [.inr (o, 0), a0, a1, a2, a3] σ none σ1) (kk : E M (pc + 3) ls st σ1 r σ') : E M pc ls (a3 :: a2 :: a1 :: a0 :: .inr (o, 0) :: st) σ r σ' :=
  e_callV (as := [a0, a1, a2, a3]) (v := none) hC hN hl ho rfl hst hR hd kk
theorem e_V4 {a0 a1 a2 a3 : rV} (hN : okV N 4 ci) (hl : Cond.methodLink (mO M) idx (mY N) ∈ gW) (hR : mF N + 1 ≤ mF M ∧ 8 + (mN N + 11) + mL N ≤ mL M) (hd : decode (mC M) pc = .ok (.invokevirtual idx, 3)) (ho : isO o ci) (hst : st.length ≤ 8) (hC : Ct N [.inr (o, 0), a0, a1, a2, a3] σ (some v) σ1) (kk : E M (pc + 3) ls (v :: st) σ1 r σ') : E M pc ls (a3 :: a2 :: a1 :: a0 :: .inr (o, 0) :: st) σ r σ' :=
  e_callV (as := [a0, a1, a2, a3]) (v := (some v)) hC hN hl ho rfl hst hR hd kk
theorem e_V5v {a0 a1 a2 a3 a4 : rV} (hN : okV N 5 ci) (hl : Cond.methodLink (mO M) idx (mY N) ∈ gW) (hR : mF N + 1 ≤ mF M ∧ 8 + (mN N + 11) + mL N ≤ mL M) (hd : decode (mC M) pc = .ok (.invokevirtual idx, 3)) (ho : isO o ci) (hst : st.length ≤ 8) (hC : Ct N [.inr (o, 0), a0, a1, a2, a3, a4] σ none σ1) (kk : E M (pc + 3) ls st σ1 r σ') : E M pc ls (a4 :: a3 :: a2 :: a1 :: a0 :: .inr (o, 0) :: st) σ r σ' :=
  e_callV (as := [a0, a1, a2, a3, a4]) (v := none) hC hN hl ho rfl hst hR hd kk
theorem e_V5 {a0 a1 a2 a3 a4 : rV} (hN : okV N 5 ci) (hl : Cond.methodLink (mO M) idx (mY N) ∈ gW) (hR : mF N + 1 ≤ mF M ∧ 8 + (mN N + 11) + mL N ≤ mL M) (hd : decode (mC M) pc = .ok (.invokevirtual idx, 3)) (ho : isO o ci) (hst : st.length ≤ 8) (hC : Ct N [.inr (o, 0), a0, a1, a2, a3, a4] σ (some v) σ1) (kk : E M (pc + 3) ls (v :: st) σ1 r σ') : E M pc ls (a4 :: a3 :: a2 :: a1 :: a0 :: .inr (o, 0) :: st) σ r σ' :=
  e_callV (as := [a0, a1, a2, a3, a4]) (v := (some v)) hC hN hl ho rfl hst hR hd kk
theorem e_S1 {a0 : rV} (hN : okM N 1) (hs : Cond.static (mY N) ∈ gW) (hl : Cond.methodLink (mO M) idx (mY N) ∈ gW) (hR : mF N + 1 ≤ mF M ∧ 8 + (mN N + 11) + mL N ≤ mL M) (hd : decode (mC M) pc = .ok (.invokestatic idx, 3)) (hst : st.length ≤ 8) (hC : Ct N [a0] σ (some v) σ1) (kk : E M (pc + 3) ls (v :: st) σ1 r σ') : E M pc ls (a0 :: st) σ r σ' :=
  e_callS (as := [a0]) (v := some v) hC hN hs hl rfl hst hR hd kk
theorem e_S2 {a0 a1 : rV} (hN : okM N 2) (hs : Cond.static (mY N) ∈ gW) (hl : Cond.methodLink (mO M) idx (mY N) ∈ gW) (hR : mF N + 1 ≤ mF M ∧ 8 + (mN N + 11) + mL N ≤ mL M) (hd : decode (mC M) pc = .ok (.invokestatic idx, 3)) (hst : st.length ≤ 8) (hC : Ct N [a0, a1] σ (some v) σ1) (kk : E M (pc + 3) ls (v :: st) σ1 r σ') : E M pc ls (a1 :: a0 :: st) σ r σ' :=
  e_callS (as := [a0, a1]) (v := some v) hC hN hs hl rfl hst hR hd kk
end RC
theorem e_to {M : rM} {pc : Nat} {ls ls2 st : List rV} {σ σ2 σ' : rS} {r : Option rV} (ih : E M pc ls2 st σ2 r σ') (h1 : ls.take ls2.length = ls2) (h2 : σ = σ2) : E M pc ls st σ r σ' := by
  subst h2
  exact e_drop ls2.length (by rw [h1]; exact ih)
theorem nI_facts {j n N : Nat} (L : Int32) (hj : j < n) (hn : n ≤ N) (hN : N < 2 ^ 31) (hL : nI N = L) : 0 ≤ nI j ∧ nI j < nI n ∧ nI n ≤ L ∧ nI (j + 1) = nI j + 1 := by
  subst hL
  exact ⟨nI_pos' (by omega), nI_lt hj (by omega), nI_le hn (by omega), nI_succ j⟩
