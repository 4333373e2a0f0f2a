/-! the start: what the statement gives of the strings and statics; making the two objects -/
abbrev fl1 : List Cond := flatC (Jvm.Cond.and given_1 narrow_1)
abbrev tmS (i : Nat) : Term := Term.string (sOw.getD i "") (sIx.getD i 0)
theorem fS_ex : ∀ i : Nat, i < 9 → Cond.exactly (tmS i) "java/lang/String" ∈ fl1 := by decide +kernel
theorem fS_co : ∀ i : Nat, i < 9 → Cond.eq (.field (tmS i) "java/lang/String" "coder" "B") (.int 0) ∈ fl1 := by decide +kernel
theorem fS_ar : ∀ i : Nat, i < 9 → Cond.arrayOf (.field (tmS i) "java/lang/String" "value" "[B") .byte ∈ fl1 := by decide +kernel
theorem fS_le : ∀ i : Nat, i < 9 → Cond.eq (.length (.field (tmS i) "java/lang/String" "value" "[B")) (.int (Int32.ofNat (sLn.getD i 0))) ∈ fl1 := by decide +kernel
theorem fS_el : ∀ i : Nat, i < 9 → ∀ j : Nat, j < sLn.getD i 0 → Cond.eq (.elem (.field (tmS i) "java/lang/String" "value" "[B") (.int (Int32.ofNat j))) (.int ((sBy.getD i []).getD j 0)) ∈ fl1 := by decide +kernel
theorem fS_ne : ∀ i : Nat, i < 9 → ∀ j : Nat, j < 9 → i ≠ j → Cond.not (Cond.eq (tmS i) (tmS j)) ∈ fl1 ∨ Cond.not (Cond.eq (tmS j) (tmS i)) ∈ fl1 := by decide +kernel
theorem fS_st : ∀ i : Nat, i < 9 → Cond.stringRef (sOw.getD i "") (sIx.getD i 0) (sTx.getD i "") ∈ lw_tbl := by
  intro i hi
  rcases (show i = 0 ∨ i = 1 ∨ i = 2 ∨ i = 3 ∨ i = 4 ∨ i = 5 ∨ i = 6 ∨ i = 7 ∨ i = 8 by omega) with rfl | rfl | rfl | rfl | rfl | rfl | rfl | rfl | rfl
  · exact List.mem_of_getElem? (i := 285) (by decide +kernel)
  · exact List.mem_of_getElem? (i := 286) (by decide +kernel)
  · exact List.mem_of_getElem? (i := 287) (by decide +kernel)
  · exact List.mem_of_getElem? (i := 288) (by decide +kernel)
  · exact List.mem_of_getElem? (i := 348) (by decide +kernel)
  · exact List.mem_of_getElem? (i := 369) (by decide +kernel)
  · exact List.mem_of_getElem? (i := 381) (by decide +kernel)
  · exact List.mem_of_getElem? (i := 750) (by decide +kernel)
  · exact List.mem_of_getElem? (i := 794) (by decide +kernel)
theorem fZ_cs : Cond.eq (.static "java/lang/String" "COMPACT_STRINGS" "Z") (.int 1) ∈ fl1 := by decide +kernel
theorem fZ_si : Cond.isRef (.static "jdk/internal/util/Preconditions" "SIOOBE_FORMATTER" "Ljava/util/function/BiFunction;") ∈ fl1 := by decide +kernel
theorem fZ_us : Cond.isRef (.static "java/lang/Throwable" "UNASSIGNED_STACK" "[Ljava/lang/StackTraceElement;") ∈ fl1 := by decide +kernel
theorem fZ_ss : Cond.isRef (.static "java/lang/Throwable" "SUPPRESSED_SENTINEL" "Ljava/util/List;") ∈ fl1 := by decide +kernel
theorem fZ_nc : Cond.not (.castable nNS nIO) ∈ fl1 := by decide +kernel
theorem tZ_cs : Cond.laysStatic "java/lang/String" "COMPACT_STRINGS" "Z" ∈ lw_tbl := List.mem_of_getElem? (i := 305) (by decide +kernel)
theorem tZ_si : Cond.laysStatic "jdk/internal/util/Preconditions" "SIOOBE_FORMATTER" "Ljava/util/function/BiFunction;" ∈ lw_tbl := List.mem_of_getElem? (i := 321) (by decide +kernel)
theorem tZ_us : Cond.laysStatic "java/lang/Throwable" "UNASSIGNED_STACK" "[Ljava/lang/StackTraceElement;" ∈ lw_tbl := List.mem_of_getElem? (i := 737) (by decide +kernel)
theorem tZ_ss : Cond.laysStatic "java/lang/Throwable" "SUPPRESSED_SENTINEL" "Ljava/util/List;" ∈ lw_tbl := List.mem_of_getElem? (i := 739) (by decide +kernel)
theorem tI_s : Cond.initialized "java/lang/String" ∈ lw_tbl := List.mem_of_getElem? (i := 51) (by decide +kernel)
theorem tI_p : Cond.initialized "jdk/internal/util/Preconditions" ∈ lw_tbl := List.mem_of_getElem? (i := 53) (by decide +kernel)
theorem tI_t : Cond.initialized "java/lang/Throwable" ∈ lw_tbl := List.mem_of_getElem? (i := 56) (by decide +kernel)
theorem rk_start {s : State} {b : Nat} {A : Nat → Prop} (hts : ∀ w ∈ lw_tbl, w.before #[Value.ref b] s = true) (hgv : (Jvm.Cond.and given_1 narrow_1).before #[Value.ref b] s = true) (hA : ∀ a : Nat, a < s.heap.size → ¬ A a) :
    ∃ adK adV : Nat → Nat, vk_S 9 sLn sBy adK adV A s s.heap ∧ (∀ i : Nat, i < 9 → vk_R (sOw.getD i "") (sIx.getD i 0) (sTx.getD i "") (adK i) s) ∧ va_Z "java/lang/String" "COMPACT_STRINGS" "Z" (.int 1) A s s.heap ∧ va_Zq "jdk/internal/util/Preconditions" "SIOOBE_FORMATTER" "Ljava/util/function/BiFunction;" A s s.heap ∧ vx_Zq "java/lang/Throwable" "UNASSIGNED_STACK" "[Ljava/lang/StackTraceElement;" A s s.heap ∧ vx_Zq "java/lang/Throwable" "SUPPRESSED_SENTINEL" "Ljava/util/List;" A s s.heap := by
  have hs := flat_of_before _ hgv
  obtain ⟨adK, adV, h1, h2⟩ := vk_Sof (args := #[Value.ref b]) (s := s) (N := 9) (tm := tmS) (len := sLn) (byt := sBy) (A := A) (by decide) (fun i hi => hs _ (fS_ex i hi)) (fun i hi => hs _ (fS_co i hi)) (fun i hi => hs _ (fS_ar i hi)) (fun i hi => hs _ (fS_le i hi)) (fun i hi j hj => hs _ (fS_el i hi j hj)) (fun i j hi hj hn => (fS_ne i hi j hj hn).imp (fun z => hs _ z) (fun z => hs _ z)) hA
  exact ⟨adK, adV, h1, fun i hi => vk_R.of (hts _ (fS_st i hi)) (h2 i hi), va_Zof (hts _ tZ_cs) (hts _ tI_s) (va_eqi (hs _ fZ_cs)) hA, va_Zqof (hts _ tZ_si) (hts _ tI_p) (hs _ fZ_si) hA, vx_Zqof (hts _ tZ_us) (hts _ tI_t) (hs _ fZ_us) hA, vx_Zqof (hts _ tZ_ss) (hts _ tI_t) (hs _ fZ_ss) hA⟩
theorem arr_is {args : Array Value} {s : State} {ty : FieldType} (h : (Cond.arrayClass ty).before args s = true) (hra : ∀ x : ClassId, s.vm.findClass ("[" ++ ty.toString) = some x → va_RA s x ty) : ∃ x : ClassId, ArrOfT s x ty ∧ va_RA s x ty := by
  obtain ⟨c, k, comp, h1, h2, h3⟩ := Cond.arrayClass_spec h
  exact ⟨c, fun n z => ⟨fun k h => (by cases h), k, h2, comp, h3⟩, hra c h1⟩
theorem w_callI {p : Program} {l : Launch} {e : Env} {R : Room} {s : State} {m : MethodId} {args : Array Value} {below : List Frame} {meth : Method} {c : Code} {H : Heap} {locs : List Loc} {cells slots : Nat} {Q : State → Prop} {cc : ByteArray} {nL pc : Nat} {own : String} {lsC : Array Slot} {st : List Value} {g : rG} {A : Nat → Prop}
    {N : rM} {rmN : Room} {n idx b ci : Nat} {fs as : List Value} {wr : va_W} {WpN : va_W → Prop} (S : CallFix p m c cc nL s args gW own) (hKs : va_K g.1 vwCl (rT g) s) (hA : ∀ q, s.heap.size ≤ q → A q) (hK : Kt N rmN g (.ref b :: as) [(b, .inr (ci, fs))] WpN) (hN : okM N n) (hin : Cond.instanceMethod (mY N) ∈ gW) (hnm : (mY N).name = "<init>") (hrt : mR N = none) (hl : Cond.methodLink own idx (mY N) ∈ gW) (hR : rmN.frames + 1 ≤ R.frames ∧ 8 + (mN N + 11) + rmN.locals ≤ R.locals) (hc : cells + rmN.cells ≤ R.cells ∧ slots + rmN.slots ≤ R.slots) (hn : as.length = n) (hst : (st.map fun v => v.category).sum ≤ 8)
    (hP : va_P g.1 vwCl (wr ++ [(b, .inr (ci, fs))]) H) (hD : va_D A (wr ++ [(b, .inr (ci, fs))])) (hS : va_S A s.heap H locs) (hsz : lsC.size = nL) (hd : decode cc pc = .ok (.invokespecial idx, 3))
    (kk : ∀ (w1 : va_W) (H1 : Heap) (locs1 : List Loc), WpN w1 → va_P g.1 vwCl (wr ++ w1) H1 → va_D A (wr ++ w1) → va_S A s.heap H1 locs1 → W p l e R s m args below meth c H1 locs1 (cells + rmN.cells) (slots + rmN.slots) Q (F0 m (pc + 3) lsC st)) :
    W p l e R s m args below meth c H locs cells slots Q (F0 m pc lsC (as.reverse ++ .ref b :: st)) := by
  obtain ⟨hx, hbb, hml, hown, ht⟩ := S
  have hb : (wr ++ [(b, (.inr (ci, fs) : va_E))])[wr.length]? = some (b, .inr (ci, fs)) := by
    rw [List.getElem?_append_right (Nat.le_refl _), Nat.sub_self]; rfl
  have hF : ∀ q, va_A [(b, (.inr (ci, fs) : va_E))] H.size q → A q := by
    intro q h
    rcases h with ⟨k, e1, h⟩ | h
    · have hk : k = 0 := by
        have := (List.getElem?_eq_some_iff.mp h).1
        simp at this
        exact this
      subst hk
      cases h
      exact hD.2 _ _ hb
    · exact hA q (Nat.le_trans hS.1 h)
  have cb : CallB R s args own idx (mY N) (mC N) (mN N) none (rWd N) rmN rmN.cells rmN.slots n := by
    refine ⟨rfl, rfl, hR.1, hR.2, rWd_good (Mc := N) hN ht, ?_, ?_, ht _ hN.2.1, hN.2.2.1, fun sig hs => ?_, ht _ hl⟩
    · rw [← hrt]; exact List.mem_cons_self
    · rw [← hrt]; exact ht _ hN.1
    · have h2 := hN.2.2.2
      rw [hs] at h2
      exact (Option.some.inj h2).symm
  have one : ∀ (k : Nat) (x : Nat × va_E), [(b, (.inr (ci, fs) : va_E))][k]? = some x → k = 0 ∧ x = (b, .inr (ci, fs)) := by
    intro k x hx
    have hk : k = 0 := by
      have := (List.getElem?_eq_some_iff.mp hx).1
      simp at this
      exact this
    subst hk
    cases hx
    exact ⟨rfl, rfl⟩
  have hPb : va_P g.1 vwCl [(b, (.inr (ci, fs) : va_E))] H := fun k x hx => by
    rw [(one k x hx).2]
    exact hP _ _ hb
  have hDb : va_D (fun _ => True) [(b, (.inr (ci, fs) : va_E))] := ⟨fun i j x y h1 h2 _ => by rw [(one i x h1).1, (one j y h2).1], fun _ _ _ => trivial⟩
  have hr := va_runI (p := p) (l := l) (e := e) (R := R) (s := s) (m := m) (args := args) (below := below) (meth := meth) (c := c) (H := H) (locs := locs) (cells := cells) (slots := slots) (g := F0 m pc lsC (as.reverse ++ .ref b :: st)) (As := as) (b := b) (rest := st) ⟨hx, hbb, hml, hown, ht⟩ (hK l H.size) ⟨cb, hnm, ht _ hin⟩ ⟨kPc_blind g _ _ _, fun U hU hW => ⟨rfl, by rw [hU], by rw [hU]; exact hPb, hDb, va_K.moved hW.alike hKs⟩⟩ rfl hn hsz rfl (lv_room hst) hd hc
  intro T hT X9
  obtain ⟨v9, st₀, t, T', L, h0, X', hL9, e1, e2, ⟨hv, ⟨w1, hw1, hP1, hD1⟩, hz, hk⟩, stp⟩ := hr T hT X9
  have hv9 : v9 = none := by cases hv; rfl
  subst hv9
  rw [h0] at hz hk
  have hS1 : va_S A s.heap T'.heap (locs ++ L) := by
    refine ⟨Nat.le_trans hS.1 (by rw [e1]; exact hz), fun q h1 h2 => ?_, fun q hq => ?_⟩
    · rw [e1, hk q (Nat.lt_of_lt_of_le h1 hS.1) (fun z => h2 (hF q z))]
      exact hS.2.1 q h1 h2
    · rcases List.mem_append.mp hq with h | h
      · exact hS.2.2 q h
      · exact hF _ (hL9 q h)
  obtain ⟨hP2, hD2⟩ := k_join hP hD hF (H1 := T'.heap) (fun q h1 h2 => by rw [e1]; exact hk q h1 h2) (by rw [e1]; exact hP1) hD1
  obtain ⟨t2, a1, b1⟩ := kk w1 T'.heap (locs ++ L) hw1 hP2 hD2 hS1 T' rfl X'
  exact ⟨t2, stp t2 a1, b1⟩
