/-! BurdenCourt.look: it throws -/
abbrev nIO : String := "java/lang/IndexOutOfBoundsException"
abbrev nNS : String := "java/util/NoSuchElementException"
abbrev nRT : String := "java/lang/RuntimeException"
def xbw : List Cond := [.castable nIO nIO, .castable nNS nNS, .declares (Bundle.initS nRT), .declares (Bundle.initS "java/lang/Exception"), .declares (Bundle.initS Bundle.tN)]
theorem xbw_at {s U : State} {a a' : Array Value} (hv : s.vm.Alike U.vm) {w : Cond} (hw : w ∈ xbw) (h : w.before a s = true) : w.before a' U = true := by
  have ot : w.onTables = true := by
    simp only [xbw, List.mem_cons, List.not_mem_nil, or_false] at hw
    rcases hw with rfl | rfl | rfl | rfl | rfl <;> rfl
  have e : w.before a' U = w.before a (s.setVm U.vm) := by
    have := Cond.onTables_vm (A := a') (A' := a) (U := U) (U' := s) U.vm w ot
    rwa [State.setVm_self] at this
  rw [e]
  simp only [xbw, List.mem_cons, List.not_mem_nil, or_false] at hw
  rcases hw with rfl | rfl | rfl | rfl | rfl
  · rw [Cond.castable_setVm hv]; exact h
  · rw [Cond.castable_setVm hv]; exact h
  · rw [Cond.declares_setVm hv]; exact h
  · rw [Cond.declares_setVm hv]; exact h
  · rw [Cond.declares_setVm hv]; exact h
def xw (A : Nat → Prop) (U : State) (H : Heap) : Prop := (∀ w ∈ xbw, w.before #[] U = true) ∧ vx_L Bundle.tN "UNASSIGNED_STACK" Bundle.steD A U H ∧ vx_L Bundle.tN "SUPPRESSED_SENTINEL" Bundle.listD A U H
theorem xw.to {A : Nat → Prop} {s U : State} {H0 H : Heap} (h : xw A s H0) (hv : s.vm.Alike U.vm) (hq : ∀ a : Nat, a < H0.size → ¬ A a → H[a]? = H0[a]?) : xw A U H :=
  ⟨fun w hw => xbw_at hv hw (h.1 w hw), vx_L.moved hv (h.2.1.kept hq), vx_L.moved hv (h.2.2.kept hq)⟩
abbrev lIO : List Cond := Cond.classLink RX5 112 nIO :: Cond.initialized nIO :: nsAtoms RX5 116 nIO nRT 7 prog_10_method_2_code ["java/lang/Exception"]
abbrev lNS : List Cond := Cond.classLink RX5 134 nNS :: Cond.initialized nNS :: nsAtoms RX5 138 nNS nRT 13 prog_17_method_4_code ["java/lang/Exception"]
def xout (w : Cond) : Bool := !decide (w ∈ nsHeap) && !decide (w ∈ xbw)
set_option maxRecDepth 100000 in
theorem lIO_f : lIO.filter xout = [710, 59, 56, 732, 741, 744, 747, 749, 733, 734, 67, 68, 735, 740, 745, 765, 722, 766, 724, 767, 726, 736, 738, 728, 761, 762, 764, 728, 752, 753, 754, 755, 755, 756, 757, 758, 758, 759, 760, 761, 751, 711, 719, 720, 721, 723, 725, 727, 731, 730, 729].filterMap (fun i => lw_tbl[i]?) := by decide +kernel
set_option maxRecDepth 100000 in
theorem lNS_f : lNS.filter xout = [785, 60, 56, 732, 741, 744, 747, 749, 733, 734, 67, 68, 735, 740, 745, 765, 722, 766, 724, 767, 726, 736, 738, 728, 761, 762, 764, 728, 796, 797, 798, 755, 755, 756, 757, 758, 758, 759, 760, 761, 795, 786, 788, 743, 789, 790, 791, 792, 731, 730, 793].filterMap (fun i => lw_tbl[i]?) := by decide +kernel
theorem lIO_g : (lIO.filter xout).all (fun w => goodWord w && w.onTables) = true := by decide +kernel
theorem lNS_g : (lNS.filter xout).all (fun w => goodWord w && w.onTables) = true := by decide +kernel
theorem l_split {L : List Cond} {is : List Nat} (hf : L.filter xout = is.filterMap (fun i => lw_tbl[i]?)) (hg : (L.filter xout).all (fun w => goodWord w && w.onTables) = true) {args : Array Value} {s : State} (ht : ∀ w ∈ gW, w.before args s = true) (hx : ∀ w ∈ xbw, w.before #[] s = true) : ∀ w ∈ L, w ∈ nsHeap ∨ (w.onTables = true ∧ w.before args s = true) := by
  intro w hw
  by_cases h1 : w ∈ nsHeap
  · exact Or.inl h1
  · by_cases h2 : w ∈ xbw
    · refine Or.inr ⟨?_, xbw_at (Vm.Alike.refl s.vm) h2 (hx w h2)⟩
      simp only [xbw, List.mem_cons, List.not_mem_nil, or_false] at h2
      rcases h2 with rfl | rfl | rfl | rfl | rfl <;> rfl
    · have h3 : w ∈ L.filter xout := List.mem_filter.mpr ⟨hw, by unfold xout; simp [h1, h2]⟩
      have h4 := List.all_eq_true.mp hg w h3
      simp only [Bool.and_eq_true] at h4
      rw [hf] at h3
      obtain ⟨i, -, hi⟩ := List.mem_filterMap.mp h3
      exact Or.inr ⟨h4.2, ht w (gW_in (List.mem_of_getElem? hi) h4.1)⟩
abbrev rmLk : Room := { frames := 6, cells := 1, slots := 6, locals := 90 }
def lkPc (g : rG) (A : Nat → Prop) (man w : Int32) (σ : rS) : Array Value → State → Prop := fun a U => rPc g A [.inr (0, 0), .inl man, .inl w] σ a U ∧ xw A U U.heap
theorem lkPc_blind (g : rG) (A : Nat → Prop) (man w : Int32) (σ : rS) : FrameBlind (lkPc g A man w σ) := fun a U gg mk q => ⟨rPc_blind g A _ σ a U gg mk q.1, q.2.to (U := U.calling gg mk a) (Vm.Alike.refl U.vm) (fun _ _ _ => rfl)⟩
def xcl (g : rG) (A : Nat → Prop) (σ : rS) (cls : String) : String → State → State → Prop := fun E st t => E = cls ∧ va_P g.1 vwCl (rw_ g σ) t.heap ∧ va_F A st t
section LK
variable {p : Program} {l : Launch} {e : Env} {R : Room} {s : State} {m : MethodId} {args : Array Value} {below : List Frame} {meth : Method} {c : Code} {H : Heap} {locs : List Loc} {cells slots : Nat} {Q : State → Prop} {g : rG} {A : Nat → Prop} {M : rM} {pc : Nat} {lsC : Array Slot} {st : List Value} {σ : rS}
theorem w_get {ci N o k idx : Nat} {C : String} {T : u_T} {ty : Nat → FieldType} {v : rV} (X : rX g M A p s m args meth c) (hP : va_P g.1 vwCl (rw_ g σ) H) (hc : rCl ci C T N ty) (ho : isO o ci) (hk : k < N) (hf : Cond.fieldLink (mO M) idx (T k).1 (T k).2.1 (T k).2.2.1 ∈ gW) (hd : decode (mC M) pc = .ok (.getfield idx, 3)) (hv : fvl g σ o k = cv g v) (kk : W p l e R s m args below meth c H locs cells slots Q (F0 m (pc + 3) lsC (cv g v :: st))) : W p l e R s m args below meth c H locs cells slots Q (F0 m pc lsC (.ref (g.2.2 (o, 0)) :: st)) := by
  obtain ⟨h1, h2, h3, h4, h5⟩ := hc
  obtain ⟨q0, -, hq⟩ := rw_at (g := g) (σ := σ) (cL_obj o ho.1)
  have he : (rw_ g σ)[q0]? = some (g.2.2 (o, 0), .inr (ci, (List.range N).map (fvl g σ o))) := by
    rw [hq]
    show some (g.2.2 (o, 0), Sum.inr (kls o, (List.range (nfs.getD (kls o) 0)).map (fvl g σ o))) = _
    rw [ho.2, h2]
  exact va_get (D := g.1) (T := T) (N := N) (ci := ci) X.1 X.2.1 X.2.2.2.2.1 h3 X.2.2.2.1 X.2.2.2.2.2.2.2.1 hP q0 he h1 k hk (X.2.2.2.2.1 _ hf) (fun _ h9 => h9) (v := cv g v) (by rw [List.getElem?_map, List.getElem?_range hk, Option.map_some, hv]) hd kk
end LK
set_option maxHeartbeats 4000000 in
theorem xlook {l : Launch} (hl : l.stackTraces = false) {g : rG} {A : Nat → Prop} {σ : rS} {man w : Int32} {cls : String} (hcase : (¬ hasM σ 3 man ∧ cls = nIO) ∨ (hasM σ 3 man ∧ (w < 0 ∨ 5 < w) ∧ cls = nNS)) : vx_Met l (mY mX5_look) (rWd mX5_look) rmLk (lkPc g A man w σ) (fun _ _ _ _ => False) (xcl g A σ cls) 1 6 A := by
  refine vx_ofW (cc := mC mX5_look) (maxL := mN mX5_look) (ret := mR mX5_look) (by decide) rfl ?_
  intro p e s m args below meth c s₁ B hml htab hv
  obtain ⟨⟨rfl, hP, hD, hK⟩, hxw⟩ := hv
  have hts := atoms_spec (ws := rWd mX5_look) B.pre
  have hown : s.vm.findClass (mY mX5_look).cls = some m.cls := findClass_of_methodNamed B.named
  rw [lg_entry_eq]
  have X : rX g mX5_look A p s m _ meth c := ⟨B.exec, B.bytes, hml, hown, fun w hw => hts w (List.mem_cons_of_mem _ hw), B.returns, B.notSynchronized, hK⟩
  have hL := Lh.entry g [.inr (0, 0), .inl man, .inl w] (n := mN mX5_look) (Nat.le_of_ble_eq_true rfl)
  have hS : va_S A s.heap s.heap [] := va_S.rf
  generalize (lg_sl (([.inr (0, 0), .inl man, .inl w] : List rV).map (cv g)) ++ List.replicate (mN mX5_look - (lg_sl (([.inr (0, 0), .inl man, .inl w] : List rV).map (cv g))).length) Slot.unset).toArray = lsC at hL ⊢
  have ht := X.2.2.2.2.1
  refine lv_aload_n X.1 X.2.1 dX5_look_0 rfl (hL.2.2 0 (.inr (0, 0)) rfl) ?_
  refine w_get (ci := 5) (o := 0) (k := 2) (v := .inr (3, 0)) X hP kX5 ⟨by decide, rfl⟩ (by decide) fX5_28 dX5_look_1 (fv_o (ci := 5) ⟨by decide, rfl⟩ rfl rfl) ?_
  refine lv_iload_n X.1 X.2.1 dX5_look_4 rfl (hL.2.2 1 (.inl man) rfl) ?_
  refine w_callV (as := [.inl man]) (o := 3) (st := []) (A0 := A) (g := g) ⟨X.1, X.2.1, X.2.2.1, X.2.2.2.1, ht⟩ (c_X2_has (o := 3) (man := man) (σ := σ) ⟨by decide, rfl⟩) oX2_has lX5_101 ⟨by decide, rfl⟩ rfl (by decide) ⟨by decide, by decide⟩ ⟨by decide, by decide⟩ hP hD hK.1 (fun U hW => hK.to hS hW) hS (fun _ h => h) hL.1 dX5_look_5 (fun H1 locs1 hP1 hz1 hk1 hS1 => ?_)
  have hx : ∀ t : State, s.vm.Alike t.vm → H1.size ≤ t.heap.size → (∀ q : Nat, q < H1.size → t.heap[q]? = H1[q]?) → xcl g A σ cls cls s t := by
    intro t hv hsz hq
    refine ⟨rfl, hP1.kept (fun k x hx => hq _ (hP1 k x hx).lt), Nat.le_trans hS1.1 hsz, fun q h1 h2 => ?_⟩
    rw [hq q (Nat.lt_of_lt_of_le h1 hS1.1)]
    exact hS1.2.1 q h1 h2
  have zU : vx_Zq Bundle.tN "UNASSIGNED_STACK" Bundle.steD A s s.heap := ⟨hK.2.2.2.2.2.1, hxw.2.1⟩
  have zN : vx_Zq Bundle.tN "SUPPRESSED_SENTINEL" Bundle.listD A s s.heap := ⟨hK.2.2.2.2.2.2, hxw.2.2⟩
  refine lv_if_ne (x := bI (hasM σ 3 man)) (tgt := 21) X.1 X.2.1 dX5_look_8 (by decide) (fun z => ?_) (fun z => ?_)
  · rcases hcase with hc | ⟨h1, h2, h3⟩
    · exact absurd (bI_n0.mp z) hc.1
    · subst h3
      refine lv_iload_n X.1 X.2.1 dX5_look_21 rfl (hL.2.2 2 (.inl w) rfl) ?_
      refine lv_tableOut (tgt := 119) X.1 X.2.1 dX5_look_22 (h2.imp (fun z => (Int32.lt_iff_toInt_lt (x := w) (y := 0)).mp z) (fun z => (Int32.lt_iff_toInt_lt (x := 5) (y := w)).mp z)) (by decide) ?_
      exact w_throwN (A := A) (Yc := nRT) (names := ["java/lang/Exception"]) (b1 := prog_17_method_4_code) (text := "no such what") (sa := g.2.2 (108, 0)) X.1 X.2.1 hl X.2.2.2.1 (by decide +kernel) (by decide +kernel) (by decide +kernel) (by decide +kernel) (by decide +kernel) (by decide +kernel) (by decide +kernel) (hK.2.2.1 8 (by decide)) (l_split lNS_f lNS_g ht hxw.1) zU zN hS1 (hL.1.trans X.2.2.1.symm) dX5_look_119 dX5_look_122 dX5_look_123 dX5_look_125 dX5_look_128 (fun x hx9 => (htab x hx9).elim) (by decide) (by decide) (by decide) (by decide) X.2.2.2.2.2.2.1 hx hS1.2.2 (by decide) (by decide)
  · rcases hcase with ⟨h1, h2⟩ | hc
    · subst h2
      exact w_throwN (A := A) (Yc := nRT) (names := ["java/lang/Exception"]) (b1 := prog_10_method_2_code) (text := "no such man") (sa := g.2.2 (107, 0)) X.1 X.2.1 hl X.2.2.2.1 (by decide +kernel) (by decide +kernel) (by decide +kernel) (by decide +kernel) (by decide +kernel) (by decide +kernel) (by decide +kernel) (hK.2.2.1 7 (by decide)) (l_split lIO_f lIO_g ht hxw.1) zU zN hS1 (hL.1.trans X.2.2.1.symm) dX5_look_11 dX5_look_14 dX5_look_15 dX5_look_17 dX5_look_20 (fun x hx9 => (htab x hx9).elim) (by decide) (by decide) (by decide) (by decide) X.2.2.2.2.2.2.1 hx hS1.2.2 (by decide) (by decide)
    · exact absurd hc.1 (bI_0.mp z)
