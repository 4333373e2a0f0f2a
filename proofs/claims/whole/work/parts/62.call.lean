/-! calls from methods with other ends, other rooms, other cells beside -/
theorem rK.at {g : rG} {A A0 : Nat → Prop} {s U : State} {H : Heap} {locs : List Loc} (h : rK g A s s.heap) (hS : va_S A0 s.heap H locs) (hA : ∀ q, A0 q → ¬ q < s.heap.size ∨ A q) (hW : s.WarmedH U.vm) : rK g A U H :=
  have hk : ∀ a : Nat, a < s.heap.size → ¬ A a → H[a]? = s.heap[a]? := fun a h1 h2 => hS.2.1 a h1 (fun z => (hA a z).elim (fun y => y h1) h2)
  ⟨va_K.moved hW.alike h.1, (h.2.1.kept hk).moved hW.alike, fun i hi => (h.2.2.1 i hi).warm hW, (h.2.2.2.1.kept hk).moved hW.alike, (h.2.2.2.2.1.kept hk).moved hW.alike, (h.2.2.2.2.2.1.kept hk).moved hW.alike, (h.2.2.2.2.2.2.kept hk).moved hW.alike⟩
theorem w_callV {p : Program} {l : Launch} {e : Env} {R : Room} {s : State} {m : MethodId} {args : Array Value} {below : List Frame} {meth : Method} {c : Code} {H : Heap} {locs : List Loc} {cells slots : Nat} {Q : State → Prop} {cc : ByteArray} {nL pc : Nat} {own : String} {lsC : Array Slot} {st : List Value} {g : rG} {A A0 : Nat → Prop}
    {N : rM} {n idx o ci : Nat} {as : List rV} {v : Option rV} {σ σ1 : rS} (S : CallFix p m c cc nL s args gW own) (hC : Ct N (.inr (o, 0) :: as) σ v σ1) (hN : okV N n ci) (hl : Cond.methodLink own idx (mY N) ∈ gW) (ho : isO o ci) (hn : as.length = n) (hst : (st.map fun v => v.category).sum ≤ 8) (hR : mF N + 1 ≤ R.frames ∧ 8 + (mN N + 11) + mL N ≤ R.locals)
    (hcs : cells ≤ R.cells ∧ slots ≤ R.slots) (hP : va_P g.1 vwCl (rw_ g σ) H) (hD : va_D A (rw_ g σ)) (hKs : va_K g.1 vwCl (rT g) s) (hK : ∀ U : State, s.WarmedH U.vm → rK g A U H) (hS : va_S A0 s.heap H locs) (hA : ∀ q, A q → A0 q) (hsz : lsC.size = nL) (hd : decode cc pc = .ok (.invokevirtual idx, 3))
    (kk : ∀ (H1 : Heap) (locs1 : List Loc), va_P g.1 vwCl (rw_ g σ1) H1 → H.size ≤ H1.size → (∀ q : Nat, q < H.size → ¬ A q → H1[q]? = H[q]?) → va_S A0 s.heap H1 locs1 → W p l e R s m args below meth c H1 locs1 cells slots Q (F0 m (pc + 3) lsC ((v.map (cv g)).toList ++ st))) :
    W p l e R s m args below meth c H locs cells slots Q (F0 m pc lsC ((as.map (cv g)).reverse ++ .ref (g.2.2 (o, 0)) :: st)) := by
  obtain ⟨hok, hin, hse, q, hq, hqc⟩ := hN
  obtain ⟨hx, hb, hml, hown, ht⟩ := S
  obtain ⟨q0, -, hq0⟩ := rw_at (g := g) (σ := σ) (cL_obj o ho.1)
  have hrecv := va_recv (ci := kls o) hKs hP (by rw [ho.2]; exact hq) hq0
  rw [hqc] at hrecv
  have cb : CallB R s args own idx (mY N) (mC N) (mN N) (mR N) (rWd N) (rRm N) 0 0 n := by
    refine ⟨rfl, rfl, hR.1, hR.2, rWd_good (Mc := N) hok ht, List.mem_cons_self, ht _ hok.1, ht _ hok.2.1, hok.2.2.1, fun sig hs => ?_, ht _ hl⟩
    have h2 := hok.2.2.2
    rw [hs] at h2
    exact (Option.some.inj h2).symm
  have hr := va_runV (p := p) (l := l) (e := e) (R := R) (s := s) (m := m) (args := args) (below := below) (meth := meth) (c := c) (H := H) (locs := locs) (cells := cells) (slots := slots) (g := F0 m pc lsC ((as.map (cv g)).reverse ++ .ref (g.2.2 (o, 0)) :: st)) (As := as.map (cv g)) (rest := st) (C := (mY N).cls) ⟨hx, hb, hml, hown, ht⟩ (hC l g A) ⟨cb, ht _ hin, ht _ hse⟩ ⟨rPc_blind g A _ σ, hrecv, fun U hU hW => ⟨rfl, by rw [hU]; exact hP, hD, by rw [hU]; exact hK U hW⟩⟩ rfl (by rw [List.length_map]; exact hn) hsz rfl (lv_room hst) hd ⟨hcs.1, hcs.2⟩
  intro T hT X9
  obtain ⟨v9, st₀, t, T', L, h0, X', hL9, e1, e2, ⟨hv, hP1, hz, hk⟩, stp⟩ := hr T hT X9
  have hv9 : v9 = v.map (cv g) := by cases hv; rfl
  subst hv9
  rw [h0] at hz hk
  have hS1 : va_S A0 s.heap T'.heap (locs ++ L) := by
    refine ⟨Nat.le_trans hS.1 (by rw [e1]; exact hz), fun q h1 h2 => ?_, fun q hq => ?_⟩
    · rw [e1, hk q (Nat.lt_of_lt_of_le h1 hS.1) (fun z => h2 (hA q z))]
      exact hS.2.1 q h1 h2
    · rcases List.mem_append.mp hq with h | h
      · exact hS.2.2 q h
      · exact hA _ (hL9 q h)
  obtain ⟨t2, a1, b1⟩ := kk T'.heap (locs ++ L) (by rw [e1]; exact hP1) (by rw [e1]; exact hz) (fun q h1 h2 => by rw [e1]; exact hk q h1 h2) hS1 T' rfl X'
  exact ⟨t2, stp t2 a1, b1⟩
