/-! BurdenCourtLaw.look: it catches what BurdenCourt.look throws -/
abbrev lkHh : List (Nat × Nat × Nat × Nat) := [(0, 10, 13, 13), (0, 10, 17, 15)]
abbrev lkW : List Cond := Cond.codeWith yL_look cL_look 5 (some .int) lkHh :: gW
abbrev rmLR : Room := { frames := 9, cells := 0, slots := 0, locals := 200 }
abbrev rmLT : Room := { frames := 9, cells := 1, slots := 6, locals := 200 }
set_option maxRecDepth 100000 in
theorem lkW_in : Cond.codeWith yL_look cL_look 5 (some .int) lkHh ∈ gW := gW_in (List.mem_of_getElem? (i := 703) (by rfl)) rfl
theorem lL_7 : Cond.methodLink RL 7 (mY mX5_look) ∈ gW := gW_in (List.mem_of_getElem? (i := 706) (by decide +kernel)) rfl
theorem cL_13 : Cond.classLink RL 13 nIO ∈ gW := gW_in (List.mem_of_getElem? (i := 704) (by decide +kernel)) rfl
theorem cL_15 : Cond.classLink RL 15 nNS ∈ gW := gW_in (List.mem_of_getElem? (i := 705) (by decide +kernel)) rfl
abbrev cellJ (cj : ClassId) (f : Nat → Int64) : Cell := vp_cell cj (1, .inr (.inl f))
def lkP (g : rG) (A : Nat → Prop) (man w : Int32) (σ : rS) (ob : Nat) (cj : ClassId) (f : Nat → Int64) : Array Value → State → Prop :=
  va_Pc [.ref (g.2.2 (0, 0)), .int man, .int w, .ref ob] (fun U => va_P g.1 vwCl (rw_ g σ) U.heap ∧ va_D A (rw_ g σ) ∧ rK g A U U.heap ∧ xw A U U.heap ∧ ¬ A ob ∧ U.heap[ob]? = some (cellJ cj f) ∧ va_K g.1 vwCl [(cj, .long)] U ∧ va_Nc nNS nIO U)
abbrev lkA (A : Nat → Prop) (ob : Nat) : Nat → Prop := fun q => A q ∨ q = ob
def lkQ (g : rG) (A : Nat → Prop) (σ : rS) (ob : Nat) (cj : ClassId) (f : Nat → Int64) (k : Int32) : Array Value → State → Outcome → State → Prop :=
  fun _ st oc t => oc = .returned (some (.int k)) ∧ va_P g.1 vwCl (rw_ g σ) t.heap ∧ t.heap[ob]? = some (cellJ cj f) ∧ va_F (lkA A ob) st t
theorem lkP_blind (g : rG) (A : Nat → Prop) (man w : Int32) (σ : rS) (ob : Nat) (cj : ClassId) (f : Nat → Int64) : FrameBlind (lkP g A man w σ ob cj f) := fun a U gg mk q => by
  obtain ⟨q0, q1, q2, q3, q4, q5, q6, q7, q8⟩ := q
  have b := rPc_blind g A [] σ #[] U gg mk ⟨rfl, q1, q2, q3⟩
  exact ⟨q0, q1, q2, b.2.2.2, q4.to (U := U.calling gg mk a) (Vm.Alike.refl U.vm) (fun _ _ _ => rfl), q5, q6, q7.moved (Vm.Alike.refl U.vm), q8.moved (Vm.Alike.refl U.vm)⟩
section LL
variable {l : Launch} {g : rG} {A : Nat → Prop} {σ : rS} {man w r : Int32} {ob : Nat} {cj : ClassId} {f : Nat → Int64}
set_option maxHeartbeats 4000000 in
theorem mLookR (hC : Ct mX5_look [.inr (0, 0), .inl man, .inl w] σ (some (.inl r)) σ) : Met l yL_look lkW rmLR (lkP g A man w σ ob cj f) (lkQ g A σ ob cj (vp_updL f (0 : Int32).toNatClampNeg r.toInt64) 0) 0 0 (lkA A ob) := by
  refine va_MetW (cc := cL_look) (maxL := 5) (ret := some .int) (hh := lkHh) (by decide) rfl ?_
  intro p e s m args below meth c s₁ B hml hv
  obtain ⟨rfl, hP, hD, hK, hxw, hob, hJ, hKJ, hNc⟩ := hv
  have hts := atoms_spec (ws := lkW) B.pre
  have ht : ∀ w ∈ gW, w.before _ s = true := fun w hw => hts w (List.mem_cons_of_mem _ hw)
  have hown : s.vm.findClass RL = some m.cls := findClass_of_methodNamed B.named
  rw [lg_entry_eq]
  have hL := lv_entry [.ref (g.2.2 (0, 0)), .int man, .int w, .ref ob] (n := 5) (Nat.le_of_ble_eq_true rfl)
  have hS : va_S (lkA A ob) s.heap s.heap [] := va_S.rf
  have hSA : va_S A s.heap s.heap [] := va_S.rf
  generalize (lg_sl ([.ref (g.2.2 (0, 0)), .int man, .int w, .ref ob] : List Value) ++ List.replicate (5 - (lg_sl ([.ref (g.2.2 (0, 0)), .int man, .int w, .ref ob] : List Value)).length) Slot.unset).toArray = lsC at hL ⊢
  refine lv_aload_n B.exec B.bytes dL_look_0 rfl (lv_at hL 3 rfl) ?_
  refine lv_iconst (v := 0) B.exec B.bytes dL_look_1 (by decide) ?_
  refine lv_aload_n B.exec B.bytes dL_look_2 rfl (lv_at hL 0 rfl) ?_
  refine lv_iload_n B.exec B.bytes dL_look_3 rfl (lv_at hL 1 rfl) ?_
  refine lv_iload_n B.exec B.bytes dL_look_4 rfl (lv_at hL 2 rfl) ?_
  refine w_callV (as := [.inl man, .inl w]) (o := 0) (ci := 5) (st := [.int 0, .ref ob]) (A := A) (A0 := lkA A ob) (g := g) ⟨B.exec, B.bytes, hml, hown, ht⟩ hC oX5_look lL_7 ⟨by decide, rfl⟩ rfl (Nat.le_of_ble_eq_true rfl) ⟨by decide, by decide⟩ ⟨by decide, by decide⟩ hP hD hK.1 (fun U hW => hK.to hSA hW) hS (fun q h => Or.inl h) hL.1 dL_look_5 (fun H1 locs1 hP1 hz1 hk1 hS1 => ?_)
  have hlt := (Array.getElem?_eq_some_iff.mp hJ).1
  have hb1 : H1[ob]? = some (cellJ cj f) := by rw [hk1 ob hlt hob]; exact hJ
  refine lv_i2l B.exec B.bytes dL_look_8 rfl ?_
  refine W.last B.exec B.bytes hb1 ((hKJ.2 0 _ rfl).1 1 (fun j => .long (f j))) (fun q => by cases q) (by show ¬ ((0 : Int32) < 0 ∨ (arrV _ _ _).slots.size ≤ _); rw [arrV_size]; show ¬ ((0 : Int32) < 0 ∨ 1 ≤ 0); decide) rfl rfl dL_look_9 fun H2 e2 z2 oq => ?_
  refine lv_goto (tgt := 21) (pc := 10) (ls := lsC) (rest := []) B.exec B.bytes dL_look_10 (by decide) ?_
  refine lv_iconst (v := 0) B.exec B.bytes dL_look_21 (by decide) ?_
  have hS2 := hS1.put (k := (0 : Int32).toNatClampNeg) z2 oq (Or.inr rfl)
  refine W.zret B.exec B.bytes B.returns rfl (fun t htt hW => ⟨rfl, ?_, ?_, hS2.F htt⟩) hS2.2.2 dL_look_22 B.notSynchronized
  · rw [htt]
    exact hP1.kept (fun k x hx => oq _ (fun z => hob (z ▸ hD.2 k x hx)))
  · rw [htt, e2]
    show some ((vp_cell cj (1, .inr (.inl f))).setSlot _ _) = some (vp_cell cj (1, .inr (.inl _)))
    rw [vp_cell_l, vp_cell_l, arrV_store]
    congr 2
    funext q
    by_cases hq : q = 0 <;> simp [updV, vp_updL, hq]
set_option maxHeartbeats 4000000 in
theorem mLookT (hl : l.stackTraces = false) {k : Int32} (hc0 : (¬ hasM σ 3 man ∧ k = 1) ∨ (hasM σ 3 man ∧ (w < 0 ∨ 5 < w) ∧ k = 2)) : Met l yL_look lkW rmLT (lkP g A man w σ ob cj f) (lkQ g A σ ob cj f k) 1 6 (lkA A ob) := by
  obtain ⟨cls, hcase, hk⟩ : ∃ cls, ((¬ hasM σ 3 man ∧ cls = nIO) ∨ (hasM σ 3 man ∧ (w < 0 ∨ 5 < w) ∧ cls = nNS)) ∧ ((cls = nIO ∧ k = 1) ∨ (cls = nNS ∧ k = 2)) := by
    rcases hc0 with h | h
    · exact ⟨nIO, Or.inl ⟨h.1, rfl⟩, Or.inl ⟨rfl, h.2⟩⟩
    · exact ⟨nNS, Or.inr ⟨h.1, h.2.1, rfl⟩, Or.inr ⟨rfl, h.2.2⟩⟩
  refine va_MetW (cc := cL_look) (maxL := 5) (ret := some .int) (hh := lkHh) (by decide) rfl ?_
  intro p e s m args below meth c s₁ B hml hv
  obtain ⟨rfl, hP, hD, hK, hxw, hob, hJ, hKJ, hNc⟩ := hv
  have hts := atoms_spec (ws := lkW) B.pre
  have ht : ∀ w ∈ gW, w.before _ s = true := fun w hw => hts w (List.mem_cons_of_mem _ hw)
  have hown : s.vm.findClass RL = some m.cls := findClass_of_methodNamed B.named
  have htab : c.exceptionTable.toList = tableOf lkHh := vx_table (x := yL_look) B (hts _ List.mem_cons_self)
  rw [lg_entry_eq]
  have hL := lv_entry [.ref (g.2.2 (0, 0)), .int man, .int w, .ref ob] (n := 5) (Nat.le_of_ble_eq_true rfl)
  have hS : va_S (lkA A ob) s.heap s.heap [] := va_S.rf
  have hSA : va_S A s.heap s.heap [] := va_S.rf
  generalize (lg_sl ([.ref (g.2.2 (0, 0)), .int man, .int w, .ref ob] : List Value) ++ List.replicate (5 - (lg_sl ([.ref (g.2.2 (0, 0)), .int man, .int w, .ref ob] : List Value)).length) Slot.unset).toArray = lsC at hL ⊢
  refine lv_aload_n B.exec B.bytes dL_look_0 rfl (lv_at hL 3 rfl) ?_
  refine lv_iconst (v := 0) B.exec B.bytes dL_look_1 (by decide) ?_
  refine lv_aload_n B.exec B.bytes dL_look_2 rfl (lv_at hL 0 rfl) ?_
  refine lv_iload_n B.exec B.bytes dL_look_3 rfl (lv_at hL 1 rfl) ?_
  refine lv_iload_n B.exec B.bytes dL_look_4 rfl (lv_at hL 2 rfl) ?_
  obtain ⟨hok, hin, hse, q, hq, hqc⟩ := oX5_look
  obtain ⟨q0, -, hq0⟩ := rw_at (g := g) (σ := σ) (cL_obj 0 (by decide))
  have hrecv := va_recv (ci := kls 0) hK.1 hP hq hq0
  rw [hqc] at hrecv
  have cb : CallB rmLT s #[.ref (g.2.2 (0, 0)), .int man, .int w, .ref ob] RL 7 (mY mX5_look) (mC mX5_look) (mN mX5_look) (mR mX5_look) (rWd mX5_look) rmLk 1 6 2 := by
    refine ⟨rfl, rfl, by decide, by decide, rWd_good (Mc := mX5_look) hok ht, List.mem_cons_self, ht _ hok.1, ht _ hok.2.1, hok.2.2.1, fun sig hs => ?_, ht _ lL_7⟩
    have h2 := hok.2.2.2
    rw [hs] at h2
    exact (Option.some.inj h2).symm
  have hr := vx_runV (p := p) (l := l) (e := e) (R := rmLT) (s := s) (m := m) (below := below) (meth := meth) (c := c) (H := s.heap) (locs := []) (cells := 0) (slots := 0) (g := F0 m 5 lsC ([.int w, .int man] ++ .ref (g.2.2 (0, 0)) :: [.int 0, .ref ob])) (As := [.int man, .int w]) (rest := [.int 0, .ref ob]) (C := (mY mX5_look).cls) ⟨B.exec, B.bytes, hml, hown, ht⟩ (xlook (g := g) (A := A) hl hcase) ⟨cb, ht _ hin, ht _ hse⟩ ⟨lkPc_blind g A man w σ, hrecv, fun U hU hW => ⟨⟨rfl, by rw [hU]; exact hP, hD, by rw [hU]; exact hK.to hSA hW⟩, by rw [hU]; exact hxw.to hW.alike (fun _ _ _ => rfl)⟩⟩ rfl rfl hL.1 rfl (lv_room (Nat.le_of_ble_eq_true rfl)) dL_look_5 ⟨by decide, by decide⟩
  intro T hT X9
  rcases hr T hT X9 with ⟨v, st₀, t, T', L, h0, X', hLf, e1, e2, hq, stp⟩ | ⟨q, st₀, t, T', L, E, ce, h0, X', hLf, e1, e2, ⟨hE, hPx, hFx⟩, hce, hcv, hcl, stp⟩
  · exact hq.elim
  subst hE
  have hlt := (Array.getElem?_eq_some_iff.mp hJ).1
  have hb1 : T'.heap[ob]? = some (cellJ cj f) := by rw [e1, hFx.2 ob (by rw [h0]; exact hlt) hob, h0]; exact hJ
  have hS1 : va_S (lkA A ob) s.heap T'.heap ([] ++ L) := by
    refine ⟨by rw [e1, ← h0]; exact hFx.1, fun q h1 h2 => ?_, fun q hq => ?_⟩
    · rw [e1, hFx.2 q (by rw [h0]; exact h1) (fun z => h2 (Or.inl z)), h0]
    · rcases List.mem_append.mp hq with h | h
      · exact absurd h List.not_mem_nil
      · exact Or.inl (hLf q h)
  have hP1 : va_P g.1 vwCl (rw_ g σ) T'.heap := by rw [e1]; exact hPx
  have kk : vx_W p l e rmLT s m #[.ref (g.2.2 (0, 0)), .int man, .int w, .ref ob] below meth c T'.heap ([] ++ L) (0 + 1) (0 + 6) (MQ below (lkQ g A σ ob cj f k) #[.ref (g.2.2 (0, 0)), .int man, .int w, .ref ob] s 1 6 (lkA A ob)) (F0 m 5 lsC [.int 0, .ref ob]) q := by
    rcases hk with ⟨rfl, rfl⟩ | ⟨rfl, rfl⟩
    · refine vx_catch (own := RL) (name := nIO) hown [] ⟨0, 10, 13, 13⟩ [⟨0, 10, 17, 15⟩] htab (fun z hz => absurd hz List.not_mem_nil) (by decide) (by decide) (ht _ cL_13) (xbw_at (Vm.Alike.refl s.vm) (by decide) (hxw.1 _ (by decide))) (by rw [e1]; exact hce) hcv hcl ?_
      refine lv_astore B.exec B.bytes dL_look_13 hL (by decide) rfl (fun ls' hL' => ?_)
      refine lv_iconst (v := 1) B.exec B.bytes dL_look_15 (by decide) ?_
      exact W.zret B.exec B.bytes B.returns rfl (fun t htt hW => ⟨rfl, by rw [htt]; exact hP1, by rw [htt]; exact hb1, hS1.F htt⟩) hS1.2.2 dL_look_16 B.notSynchronized
    · refine vx_catch (own := RL) (name := nNS) hown [⟨0, 10, 13, 13⟩] ⟨0, 10, 17, 15⟩ [] htab (fun z hz => ?_) (by decide) (by decide) (ht _ cL_15) (xbw_at (Vm.Alike.refl s.vm) (by decide) (hxw.1 _ (by decide))) (by rw [e1]; exact hce) hcv hcl ?_
      · cases List.mem_singleton.mp hz
        exact Or.inr ⟨by decide, nIO, ht _ cL_13, hNc⟩
      refine lv_astore B.exec B.bytes dL_look_17 hL (by decide) rfl (fun ls' hL' => ?_)
      refine lv_iconst (v := 2) B.exec B.bytes dL_look_19 (by decide) ?_
      exact W.zret B.exec B.bytes B.returns rfl (fun t htt hW => ⟨rfl, by rw [htt]; exact hP1, by rw [htt]; exact hb1, hS1.F htt⟩) hS1.2.2 dL_look_20 B.notSynchronized
  obtain ⟨t2, a, b⟩ := kk T' rfl X'
  exact ⟨t2, stp.trans a, b⟩
end LL
