/-! A METHOD: its class, name, code, locals, answer's type, and its room (frames, words of locals) -/
abbrev rM : Type := String × MethodName × ByteArray × Nat × Option FieldType × Nat × Nat
abbrev mO (M : rM) : String := M.1
abbrev mY (M : rM) : MethodName := M.2.1
abbrev mC (M : rM) : ByteArray := M.2.2.1
abbrev mN (M : rM) : Nat := M.2.2.2.1
abbrev mR (M : rM) : Option FieldType := M.2.2.2.2.1
abbrev mF (M : rM) : Nat := M.2.2.2.2.2.1
abbrev mL (M : rM) : Nat := M.2.2.2.2.2.2
def rRm (M : rM) : Room := { frames := mF M, cells := 0, slots := 0, locals := mL M }
def rWd (M : rM) : List Cond := .code (mY M) (mC M) (mN M) (mR M) :: gW
/-- the literals: their classes, entries, texts, lengths, bytes -/
def sOw : List String := ["BurdenCourt$Reader", "BurdenCourt$Reader", "BurdenCourt$Reader", "BurdenCourt$Reader", "BurdenCourt$Reader", "BurdenCourt$Reader", "BurdenCourt$Reader", "BurdenCourt", "BurdenCourt"]
def sIx : List Nat := [135, 137, 139, 141, 76, 86, 88, 114, 136]
def sTx : List String := ["free", "floor", "answer", "swear", "burden", "cost", "share", "no such man", "no such what"]
def sLn : List Nat := [4, 5, 6, 5, 6, 4, 5, 11, 12]
def sBy : List (List Int32) := [[102, 114, 101, 101], [102, 108, 111, 111, 114], [97, 110, 115, 119, 101, 114], [115, 119, 101, 97, 114], [98, 117, 114, 100, 101, 110], [99, 111, 115, 116], [115, 104, 97, 114, 101], [110, 111, 32, 115, 117, 99, 104, 32, 109, 97, 110], [110, 111, 32, 115, 117, 99, 104, 32, 119, 104, 97, 116]]
def rK (g : rG) (A : Nat → Prop) (U : State) (H : Heap) : Prop := va_K g.1 vwCl (rT g) U ∧ vk_S 9 sLn sBy (fun i => g.2.2 (100 + i, 0)) (fun i => g.2.2 (100 + i, 1)) A U H ∧ (∀ i : Nat, i < 9 → vk_R (sOw.getD i "") (sIx.getD i 0) (sTx.getD i "") (g.2.2 (100 + i, 0)) U) ∧ va_Z "java/lang/String" "COMPACT_STRINGS" "Z" (.int 1) A U H ∧ va_Zq "jdk/internal/util/Preconditions" "SIOOBE_FORMATTER" "Ljava/util/function/BiFunction;" A U H ∧ va_Zq "java/lang/Throwable" "UNASSIGNED_STACK" "[Ljava/lang/StackTraceElement;" A U H ∧ va_Zq "java/lang/Throwable" "SUPPRESSED_SENTINEL" "Ljava/util/List;" A U H
theorem rK.to {g : rG} {A : Nat → Prop} {s U : State} {H0 H : Heap} {locs : List Loc} (h : rK g A s H0) (hS : va_S A H0 H locs) (hW : s.WarmedH U.vm) : rK g A U H :=
  ⟨va_K.moved hW.alike h.1, (h.2.1.kept (fun a h1 h2 => hS.2.1 a h1 h2)).moved hW.alike, fun i hi => (h.2.2.1 i hi).warm hW, (h.2.2.2.1.kept (fun a h1 h2 => hS.2.1 a h1 h2)).moved hW.alike, (h.2.2.2.2.1.kept (fun a h1 h2 => hS.2.1 a h1 h2)).moved hW.alike, (h.2.2.2.2.2.1.kept (fun a h1 h2 => hS.2.1 a h1 h2)).moved hW.alike, (h.2.2.2.2.2.2.kept (fun a h1 h2 => hS.2.1 a h1 h2)).moved hW.alike⟩
theorem rK.same {g : rG} {A : Nat → Prop} {s U : State} {H : Heap} (h : rK g A s H) (hv : U.vm = s.vm) : rK g A U H := by
  have ha : s.vm.Alike U.vm := by rw [hv]; exact Vm.Alike.refl _
  exact ⟨va_K.moved ha h.1, h.2.1.moved ha, fun i hi => (h.2.2.1 i hi).same hv, h.2.2.2.1.moved ha, h.2.2.2.2.1.moved ha, h.2.2.2.2.2.1.moved ha, h.2.2.2.2.2.2.moved ha⟩
/-- what a method's body stands on -/
def rX (g : rG) (M : rM) (A : Nat → Prop) (p : Program) (s : State) (m : MethodId) (args : Array Value) (meth : Method) (c : Code) : Prop :=
  p.tables.exec = Jvm.exec ∧ c.code = mC M ∧ c.maxLocals = mN M ∧ s.vm.findClass (mO M) = some m.cls ∧ (∀ w ∈ gW, w.before args s = true) ∧ meth.sig.returnType = mR M ∧ meth.locks = false ∧ rK g A s s.heap
def rPc (g : rG) (A : Nat → Prop) (as : List rV) (σ : rS) : Array Value → State → Prop := va_Pc (as.map (cv g)) (fun U => va_P g.1 vwCl (rw_ g σ) U.heap ∧ va_D A (rw_ g σ) ∧ rK g A U U.heap)
def rQc (g : rG) (A : Nat → Prop) (r : Option rV) (σ' : rS) : Array Value → State → Outcome → State → Prop := fun _ st oc t => oc = .returned (r.map (cv g)) ∧ va_P g.1 vwCl (rw_ g σ') t.heap ∧ va_F A st t
/-- THE CONTRACT: called with as in the state σ, the method returns r and leaves σ' -/
def Ct (M : rM) (as : List rV) (σ : rS) (r : Option rV) (σ' : rS) : Prop :=
  ∀ (l : Launch) (g : rG) (A : Nat → Prop), Met l (mY M) (rWd M) (rRm M) (rPc g A as σ) (rQc g A r σ') 0 0 A
/-- the locals: the first ones, as listed -/
def Lh (g : rG) (lsC : Array Slot) (n : Nat) (ls : List rV) : Prop := lsC.size = n ∧ lv_wf lsC ∧ ∀ (i : Nat) (v : rV), ls[i]? = some v → lsC[i]? = some (.val (cv g v))
/-- THE JUDGEMENT: from here the body returns r and leaves σ' -/
def E (M : rM) (pc : Nat) (ls st : List rV) (σ : rS) (r : Option rV) (σ' : rS) : Prop :=
  ∀ (p : Program) (l : Launch) (e : Env) (s : State) (m : MethodId) (args : Array Value) (below : List Frame) (meth : Method) (c : Code) (g : rG) (A : Nat → Prop) (H : Heap) (locs : List Loc) (lsC : Array Slot),
    rX g M A p s m args meth c → va_P g.1 vwCl (rw_ g σ) H → va_D A (rw_ g σ) → va_S A s.heap H locs → Lh g lsC (mN M) ls →
    W p l e (rRm M) s m args below meth c H locs 0 0 (MQ below (rQc g A r σ') args s 0 0 A) (F0 m pc lsC (st.map (cv g)))
theorem cv_cat (g : rG) (v : rV) : (cv g v).category = 1 := by cases v <;> rfl
theorem Lh.entry (g : rG) (as : List rV) {n : Nat} (h : as.length ≤ n) : Lh g ((lg_sl (as.map (cv g)) ++ List.replicate (n - (lg_sl (as.map (cv g))).length) Slot.unset).toArray) n as := by
  have e : ∀ as : List rV, lg_sl (as.map (cv g)) = as.map (fun v => Slot.val (cv g v)) := by
    intro as
    induction as with
    | nil => rfl
    | cons a t ih =>
      have h9 : lg_sl ((a :: t).map (cv g)) = [Slot.val (cv g a)] ++ lg_sl (t.map (cv g)) := by
        unfold lg_sl
        rw [List.map_cons, List.flatMap_cons, cv_cat]
        rfl
      rw [h9, ih]
      rfl
  have hl := lv_entry (as.map (cv g)) (n := n) (by rw [e, List.length_map]; exact h)
  refine ⟨hl.1, hl.2.1, fun i v hi => ?_⟩
  rw [e]
  have hlt : i < as.length := (List.getElem?_eq_some_iff.mp hi).1
  simp only [List.getElem?_toArray]
  rw [List.getElem?_append_left (by rw [List.length_map]; exact hlt), List.getElem?_map, hi]
  rfl
theorem C_of_E {M : rM} {as : List rV} {σ σ' : rS} {r : Option rV} (hy : plainName (mO M) = true) (hc : (mY M).cls = mO M) (hn : as.length ≤ mN M) (h : E M 0 as [] σ r σ') : Ct M as σ r σ' := by
  intro l g A
  refine Met.ofW (cc := mC M) (maxL := mN M) (ret := mR M) (by rw [hc]; exact hy) rfl ?_
  intro p e s m args below meth c s₁ B hml hv
  obtain ⟨rfl, hP, hD, hK⟩ := hv
  have hts := atoms_spec (ws := rWd M) B.pre
  have hown : s.vm.findClass (mY M).cls = some m.cls := findClass_of_methodNamed B.named
  rw [hc] at hown
  rw [lg_entry_eq]
  exact h p l e s m _ below meth c g A s.heap [] _ ⟨B.exec, B.bytes, hml, hown, fun w hw => hts w (List.mem_cons_of_mem _ hw), B.returns, B.notSynchronized, hK⟩ hP hD va_S.rf (Lh.entry g as hn)
/-! THE RULES -/
section RR
variable {M : rM} {pc : Nat} {ls st : List rV} {σ σ' : rS} {r : Option rV}
theorem e_iconst {n : Int} {v : Int32} (hd : decode (mC M) pc = .ok (.iconst n, 1)) (hv : Int32.ofInt n = v) (k : E M (pc + 1) ls (.inl v :: st) σ r σ') : E M pc ls st σ r σ' :=
  fun p l e s m args below meth c g A H locs lsC X hP hD hS hL => lv_iconst X.1 X.2.1 hd hv (k p l e s m args below meth c g A H locs lsC X hP hD hS hL)
theorem e_bipush {n : Int} {v : Int32} (hd : decode (mC M) pc = .ok (.bipush n, 2)) (hv : (Int8.ofInt n).toInt32 = v) (k : E M (pc + 2) ls (.inl v :: st) σ r σ') : E M pc ls st σ r σ' :=
  fun p l e s m args below meth c g A H locs lsC X hP hD hS hL => lv_bipush X.1 X.2.1 hd hv (k p l e s m args below meth c g A H locs lsC X hP hD hS hL)
theorem e_sipush {n : Int} {v : Int32} (hd : decode (mC M) pc = .ok (.sipush n, 3)) (hv : (Int16.ofInt n).toInt32 = v) (k : E M (pc + 3) ls (.inl v :: st) σ r σ') : E M pc ls st σ r σ' :=
  fun p l e s m args below meth c g A H locs lsC X hP hD hS hL => lv_sipush X.1 X.2.1 hd hv (k p l e s m args below meth c g A H locs lsC X hP hD hS hL)
theorem e_ldc {index : Nat} {v : Int32} (hd : decode (mC M) pc = .ok (.ldc index, 2)) (hw : Cond.constant (mO M) index v ∈ gW) (k : E M (pc + 2) ls (.inl v :: st) σ r σ') : E M pc ls st σ r σ' :=
  fun p l e s m args below meth c g A H locs lsC X hP hD hS hL => lv_ldc X.1 X.2.1 X.2.2.2.1 (X.2.2.2.2.1 _ hw) hd (k p l e s m args below meth c g A H locs lsC X hP hD hS hL)
theorem e_ldcS {index : Nat} (i : Nat) (hi : i < 9) (ho : sOw.getD i "" = mO M) (hx : sIx.getD i 0 = index) (hd : decode (mC M) pc = .ok (.ldc index, 2)) (k : E M (pc + 2) ls (.inr (100 + i, 0) :: st) σ r σ') : E M pc ls st σ r σ' := by
  intro p l e s m args below meth c g A H locs lsC X hP hD hS hL
  have h := X.2.2.2.2.2.2.2.2.2.1 i hi
  rw [ho, hx] at h
  exact va_ldcS X.1 X.2.1 X.2.2.2.1 h hd (k p l e s m args below meth c g A H locs lsC X hP hD hS hL)
theorem e_iload_n {n : Fin 4} {x : Int32} (hd : decode (mC M) pc = .ok (.iload_n n, 1)) (hl : ls[n.val]? = some (.inl x)) (k : E M (pc + 1) ls (.inl x :: st) σ r σ') : E M pc ls st σ r σ' :=
  fun p l e s m args below meth c g A H locs lsC X hP hD hS hL => lv_iload_n X.1 X.2.1 hd rfl (hL.2.2 _ _ hl) (k p l e s m args below meth c g A H locs lsC X hP hD hS hL)
theorem e_iload {n : Nat} {x : Int32} (hd : decode (mC M) pc = .ok (.iload n, 2)) (hl : ls[n]? = some (.inl x)) (k : E M (pc + 2) ls (.inl x :: st) σ r σ') : E M pc ls st σ r σ' :=
  fun p l e s m args below meth c g A H locs lsC X hP hD hS hL => lv_iload X.1 X.2.1 hd (hL.2.2 _ _ hl) (k p l e s m args below meth c g A H locs lsC X hP hD hS hL)
theorem e_aload_n {n : Fin 4} {q : Nat × Nat} (hd : decode (mC M) pc = .ok (.aload_n n, 1)) (hl : ls[n.val]? = some (.inr q)) (k : E M (pc + 1) ls (.inr q :: st) σ r σ') : E M pc ls st σ r σ' :=
  fun p l e s m args below meth c g A H locs lsC X hP hD hS hL => lv_aload_n X.1 X.2.1 hd rfl (hL.2.2 _ _ hl) (k p l e s m args below meth c g A H locs lsC X hP hD hS hL)
theorem e_aload {n : Nat} {q : Nat × Nat} (hd : decode (mC M) pc = .ok (.aload n, 2)) (hl : ls[n]? = some (.inr q)) (k : E M (pc + 2) ls (.inr q :: st) σ r σ') : E M pc ls st σ r σ' :=
  fun p l e s m args below meth c g A H locs lsC X hP hD hS hL => lv_aload X.1 X.2.1 hd (hL.2.2 _ _ hl) (k p l e s m args below meth c g A H locs lsC X hP hD hS hL)
/-- the locals behind a store -/
def lset : List rV → Nat → rV → List rV
  | [], _, v => [v]
  | _ :: t, 0, v => v :: t
  | a :: t, n + 1, v => a :: lset t n v
theorem lset_at : ∀ (ls : List rV) (i : Nat) (v : rV), i ≤ ls.length → ∀ j : Nat, (lset ls i v)[j]? = if j = i then some v else ls[j]?
  | [], i, v, h, j => by
    have hi : i = 0 := by simpa using h
    subst hi
    cases j with
    | zero => rfl
    | succ j => rfl
  | a :: t, 0, v, h, j => by
    cases j with
    | zero => rfl
    | succ j => rfl
  | a :: t, n + 1, v, h, j => by
    cases j with
    | zero => rfl
    | succ j =>
      show (lset t n v)[j]? = _
      rw [lset_at t n v (by simpa using h) j]
      by_cases hj : j = n
      · subst hj
        rw [if_pos rfl, if_pos rfl]
      · rw [if_neg hj, if_neg (by omega)]
        rfl
theorem Lh.store {g : rG} {lsC : Array Slot} {n i : Nat} {v : rV} (h : Lh g lsC n ls) (hi : i < n) (hl : i ≤ ls.length) : ∃ ls', storeLocals lsC i (cv g v) = some ls' ∧ Lh g ls' n (lset ls i v) := by
  have h1 : lv_has lsC n ((List.range ls.length).filterMap (fun j => ls[j]?.map (fun w => (j, cv g w)))) := by
    refine ⟨h.1, h.2.1, fun q hq => ?_⟩
    obtain ⟨j, -, hj⟩ := List.mem_filterMap.mp hq
    cases hw : ls[j]? with
    | none => rw [hw] at hj; cases hj
    | some w => rw [hw] at hj; cases hj; exact h.2.2 j w hw
  obtain ⟨ls', e, h2⟩ := lv_store1 h1 hi (cv_cat g v)
  refine ⟨ls', e, h2.1, h2.2.1, fun j w hj => ?_⟩
  rw [lset_at ls i v hl j] at hj
  by_cases hji : j = i
  · rw [if_pos hji] at hj
    cases hj
    subst hji
    exact h2.2.2 (j, cv g v) List.mem_cons_self
  · rw [if_neg hji] at hj
    refine h2.2.2 (j, cv g w) (List.mem_cons_of_mem _ (List.mem_filter.mpr ⟨List.mem_filterMap.mpr ⟨j, List.mem_range.mpr (List.getElem?_eq_some_iff.mp hj).1, by rw [hj]; rfl⟩, ?_⟩))
    have h3 : (j == i) = false := by simpa using hji
    have h4 : ((cv g w).category == 2) = false := by rw [cv_cat]; rfl
    simp [hji, h4]
theorem e_istore_n {n : Fin 4} {x : Int32} (hd : decode (mC M) pc = .ok (.istore_n n, 1)) (hn : (n : Nat) < mN M) (hl : (n : Nat) ≤ ls.length) (k : E M (pc + 1) (lset ls n (.inl x)) st σ r σ') : E M pc ls (.inl x :: st) σ r σ' := by
  intro p l e s m args below meth c g A H locs lsC X hP hD hS hL
  obtain ⟨ls', e', h'⟩ := hL.store (v := .inl x) hn hl
  obtain ⟨hx, hb, -⟩ := id X
  have kk := k p l e s m args below meth c g A H locs ls' X hP hD hS h'
  intro T hT X9
  obtain ⟨t, a, b⟩ := kk T hT X9
  refine ⟨t, ?_, b⟩
  have e2 : storeLocals lsC n (.int x) = some ls' := e'
  jvm_step X9.here [X9.here.top, ↓top_set X9.here.top, hx, hb, hd, e2, List.map, cv]
  exact a
theorem e_istore {n : Nat} {x : Int32} (hd : decode (mC M) pc = .ok (.istore n, 2)) (hn : n < mN M) (hl : n ≤ ls.length) (k : E M (pc + 2) (lset ls n (.inl x)) st σ r σ') : E M pc ls (.inl x :: st) σ r σ' := by
  intro p l e s m args below meth c g A H locs lsC X hP hD hS hL
  obtain ⟨ls', e', h'⟩ := hL.store (v := .inl x) hn hl
  obtain ⟨hx, hb, -⟩ := id X
  have kk := k p l e s m args below meth c g A H locs ls' X hP hD hS h'
  intro T hT X9
  obtain ⟨t, a, b⟩ := kk T hT X9
  refine ⟨t, ?_, b⟩
  have e2 : storeLocals lsC n (.int x) = some ls' := e'
  jvm_step X9.here [X9.here.top, ↓top_set X9.here.top, hx, hb, hd, e2, List.map, cv]
  exact a
theorem e_astore_n {n : Fin 4} {q : Nat × Nat} (hd : decode (mC M) pc = .ok (.astore_n n, 1)) (hn : (n : Nat) < mN M) (hl : (n : Nat) ≤ ls.length) (k : E M (pc + 1) (lset ls n (.inr q)) st σ r σ') : E M pc ls (.inr q :: st) σ r σ' := by
  intro p l e s m args below meth c g A H locs lsC X hP hD hS hL
  obtain ⟨ls', e', h'⟩ := hL.store (v := .inr q) hn hl
  obtain ⟨hx, hb, -⟩ := id X
  have kk := k p l e s m args below meth c g A H locs ls' X hP hD hS h'
  intro T hT X9
  obtain ⟨t, a, b⟩ := kk T hT X9
  refine ⟨t, ?_, b⟩
  have e2 : storeLocals lsC n (.ref (g.2.2 q)) = some ls' := e'
  jvm_step X9.here [X9.here.top, ↓top_set X9.here.top, hx, hb, hd, e2, List.map, cv]
  exact ⟨rfl, a⟩
theorem e_iinc {n : Nat} {d : Int} {x : Int32} (hd : decode (mC M) pc = .ok (.iinc n d, 3)) (hx0 : ls[n]? = some (.inl x)) (hn : n < mN M) (hl : n ≤ ls.length) (k : E M (pc + 3) (lset ls n (.inl (x + Int32.ofInt d))) st σ r σ') : E M pc ls st σ r σ' := by
  intro p l e s m args below meth c g A H locs lsC X hP hD hS hL
  obtain ⟨ls', e', h'⟩ := hL.store (v := .inl (x + Int32.ofInt d)) hn hl
  obtain ⟨hx, hb, -⟩ := id X
  have kk := k p l e s m args below meth c g A H locs ls' X hP hD hS h'
  have hg : lsC[n]? = some (.val (.int x)) := hL.2.2 _ _ hx0
  intro T hT X9
  obtain ⟨t, a, b⟩ := kk T hT X9
  refine ⟨t, ?_, b⟩
  have e2 : storeLocals lsC n (.int (x + Int32.ofInt d)) = some ls' := e'
  jvm_step X9.here [X9.here.top, ↓top_set X9.here.top, hx, hb, hd, hg, e2]
  exact a
/-- fewer locals -/
theorem e_drop (n : Nat) (k : E M pc (ls.take n) st σ r σ') : E M pc ls st σ r σ' := by
  intro p l e s m args below meth c g A H locs lsC X hP hD hS hL
  refine k p l e s m args below meth c g A H locs lsC X hP hD hS ⟨hL.1, hL.2.1, fun i v hi => hL.2.2 i v ?_⟩
  rw [List.getElem?_take] at hi
  split at hi
  · exact hi
  · cases hi
theorem e_iadd {x y : Int32} (hd : decode (mC M) pc = .ok (.iadd, 1)) (k : E M (pc + 1) ls (.inl (x + y) :: st) σ r σ') : E M pc ls (.inl y :: .inl x :: st) σ r σ' :=
  fun p l e s m args below meth c g A H locs lsC X hP hD hS hL => lv_iadd X.1 X.2.1 hd (k p l e s m args below meth c g A H locs lsC X hP hD hS hL)
theorem e_isub {x y : Int32} (hd : decode (mC M) pc = .ok (.isub, 1)) (k : E M (pc + 1) ls (.inl (x - y) :: st) σ r σ') : E M pc ls (.inl y :: .inl x :: st) σ r σ' :=
  fun p l e s m args below meth c g A H locs lsC X hP hD hS hL => lv_isub X.1 X.2.1 hd (k p l e s m args below meth c g A H locs lsC X hP hD hS hL)
theorem e_imul {x y : Int32} (hd : decode (mC M) pc = .ok (.imul, 1)) (k : E M (pc + 1) ls (.inl (x * y) :: st) σ r σ') : E M pc ls (.inl y :: .inl x :: st) σ r σ' :=
  fun p l e s m args below meth c g A H locs lsC X hP hD hS hL => lv_imul X.1 X.2.1 hd (k p l e s m args below meth c g A H locs lsC X hP hD hS hL)
theorem e_iand {x y : Int32} (hd : decode (mC M) pc = .ok (.iand, 1)) (k : E M (pc + 1) ls (.inl (x &&& y) :: st) σ r σ') : E M pc ls (.inl y :: .inl x :: st) σ r σ' :=
  fun p l e s m args below meth c g A H locs lsC X hP hD hS hL => lv_iand X.1 X.2.1 hd (k p l e s m args below meth c g A H locs lsC X hP hD hS hL)
theorem e_ior {x y : Int32} (hd : decode (mC M) pc = .ok (.ior, 1)) (k : E M (pc + 1) ls (.inl (x ||| y) :: st) σ r σ') : E M pc ls (.inl y :: .inl x :: st) σ r σ' :=
  fun p l e s m args below meth c g A H locs lsC X hP hD hS hL => lv_ior X.1 X.2.1 hd (k p l e s m args below meth c g A H locs lsC X hP hD hS hL)
theorem e_ishl {x y : Int32} (hd : decode (mC M) pc = .ok (.ishl, 1)) (k : E M (pc + 1) ls (.inl (x <<< (y &&& 31)) :: st) σ r σ') : E M pc ls (.inl y :: .inl x :: st) σ r σ' :=
  fun p l e s m args below meth c g A H locs lsC X hP hD hS hL => lv_ishl X.1 X.2.1 hd (k p l e s m args below meth c g A H locs lsC X hP hD hS hL)
theorem e_ishr {x y : Int32} (hd : decode (mC M) pc = .ok (.ishr, 1)) (k : E M (pc + 1) ls (.inl (x >>> (y &&& 31)) :: st) σ r σ') : E M pc ls (.inl y :: .inl x :: st) σ r σ' :=
  fun p l e s m args below meth c g A H locs lsC X hP hD hS hL => lv_ishr X.1 X.2.1 hd (k p l e s m args below meth c g A H locs lsC X hP hD hS hL)
theorem e_idiv {x y : Int32} (hd : decode (mC M) pc = .ok (.idiv, 1)) (hy : ¬ y = 0) (k : E M (pc + 1) ls (.inl (x / y) :: st) σ r σ') : E M pc ls (.inl y :: .inl x :: st) σ r σ' :=
  fun p l e s m args below meth c g A H locs lsC X hP hD hS hL => lv_idiv X.1 X.2.1 hd hy (k p l e s m args below meth c g A H locs lsC X hP hD hS hL)
theorem e_irem {x y : Int32} (hd : decode (mC M) pc = .ok (.irem, 1)) (hy : ¬ y = 0) (k : E M (pc + 1) ls (.inl (x - x / y * y) :: st) σ r σ') : E M pc ls (.inl y :: .inl x :: st) σ r σ' :=
  fun p l e s m args below meth c g A H locs lsC X hP hD hS hL => lv_irem X.1 X.2.1 hd hy (k p l e s m args below meth c g A H locs lsC X hP hD hS hL)
theorem e_i2b {x : Int32} (hd : decode (mC M) pc = .ok (.i2b, 1)) (k : E M (pc + 1) ls (.inl x.toInt8.toInt32 :: st) σ r σ') : E M pc ls (.inl x :: st) σ r σ' :=
  fun p l e s m args below meth c g A H locs lsC X hP hD hS hL => lv_i2b X.1 X.2.1 hd rfl (k p l e s m args below meth c g A H locs lsC X hP hD hS hL)
theorem e_i2c {x : Int32} (hd : decode (mC M) pc = .ok (.i2c, 1)) {v : Int32} (hv : (x.toUInt32 % 65536).toInt32 = v) (k : E M (pc + 1) ls (.inl v :: st) σ r σ') : E M pc ls (.inl x :: st) σ r σ' :=
  fun p l e s m args below meth c g A H locs lsC X hP hD hS hL => lv_i2c X.1 X.2.1 hd hv (k p l e s m args below meth c g A H locs lsC X hP hD hS hL)
theorem e_dup {v : rV} (hd : decode (mC M) pc = .ok (.dup, 1)) (k : E M (pc + 1) ls (v :: v :: st) σ r σ') : E M pc ls (v :: st) σ r σ' :=
  fun p l e s m args below meth c g A H locs lsC X hP hD hS hL => lv_dup X.1 X.2.1 hd (cv_cat g v) (k p l e s m args below meth c g A H locs lsC X hP hD hS hL)
theorem e_pop {v : rV} (hd : decode (mC M) pc = .ok (.pop, 1)) (k : E M (pc + 1) ls st σ r σ') : E M pc ls (v :: st) σ r σ' :=
  fun p l e s m args below meth c g A H locs lsC X hP hD hS hL => lv_pop X.1 X.2.1 hd (cv_cat g v) (k p l e s m args below meth c g A H locs lsC X hP hD hS hL)
theorem e_dup2 {v w : rV} (hd : decode (mC M) pc = .ok (.dup2, 1)) (k : E M (pc + 1) ls (v :: w :: v :: w :: st) σ r σ') : E M pc ls (v :: w :: st) σ r σ' :=
  fun p l e s m args below meth c g A H locs lsC X hP hD hS hL => lv_dup2_11 X.1 X.2.1 hd (cv_cat g v) (cv_cat g w) (k p l e s m args below meth c g A H locs lsC X hP hD hS hL)
theorem e_goto {off : Int} {tgt : Nat} (hd : decode (mC M) pc = .ok (.goto off, 3)) (ht : (pc : Int) + off = (tgt : Int)) (k : E M tgt ls st σ r σ') : E M pc ls st σ r σ' :=
  fun p l e s m args below meth c g A H locs lsC X hP hD hS hL => lv_goto X.1 X.2.1 hd ht (k p l e s m args below meth c g A H locs lsC X hP hD hS hL)
theorem e_if_eq {x : Int32} {off : Int} {tgt : Nat} (hd : decode (mC M) pc = .ok (.ifCond .eq off, 3)) (ht : (pc : Int) + off = (tgt : Int)) (kt : x = 0 → E M tgt ls st σ r σ') (kf : ¬ x = 0 → E M (pc + 3) ls st σ r σ') : E M pc ls (.inl x :: st) σ r σ' :=
  fun p l e s m args below meth c g A H locs lsC X hP hD hS hL => lv_if_eq X.1 X.2.1 hd ht (fun h => kt h p l e s m args below meth c g A H locs lsC X hP hD hS hL) (fun h => kf h p l e s m args below meth c g A H locs lsC X hP hD hS hL)
theorem e_icmp_eq {x y : Int32} {off : Int} {tgt : Nat} (hd : decode (mC M) pc = .ok (.if_icmp .eq off, 3)) (ht : (pc : Int) + off = (tgt : Int)) (kt : x = y → E M tgt ls st σ r σ') (kf : ¬ x = y → E M (pc + 3) ls st σ r σ') : E M pc ls (.inl y :: .inl x :: st) σ r σ' :=
  fun p l e s m args below meth c g A H locs lsC X hP hD hS hL => lv_icmp_eq X.1 X.2.1 hd ht (fun h => kt h p l e s m args below meth c g A H locs lsC X hP hD hS hL) (fun h => kf h p l e s m args below meth c g A H locs lsC X hP hD hS hL)
theorem e_if_ne {x : Int32} {off : Int} {tgt : Nat} (hd : decode (mC M) pc = .ok (.ifCond .ne off, 3)) (ht : (pc : Int) + off = (tgt : Int)) (kt : ¬ x = 0 → E M tgt ls st σ r σ') (kf : x = 0 → E M (pc + 3) ls st σ r σ') : E M pc ls (.inl x :: st) σ r σ' :=
  fun p l e s m args below meth c g A H locs lsC X hP hD hS hL => lv_if_ne X.1 X.2.1 hd ht (fun h => kt h p l e s m args below meth c g A H locs lsC X hP hD hS hL) (fun h => kf h p l e s m args below meth c g A H locs lsC X hP hD hS hL)
theorem e_icmp_ne {x y : Int32} {off : Int} {tgt : Nat} (hd : decode (mC M) pc = .ok (.if_icmp .ne off, 3)) (ht : (pc : Int) + off = (tgt : Int)) (kt : ¬ x = y → E M tgt ls st σ r σ') (kf : x = y → E M (pc + 3) ls st σ r σ') : E M pc ls (.inl y :: .inl x :: st) σ r σ' :=
  fun p l e s m args below meth c g A H locs lsC X hP hD hS hL => lv_icmp_ne X.1 X.2.1 hd ht (fun h => kt h p l e s m args below meth c g A H locs lsC X hP hD hS hL) (fun h => kf h p l e s m args below meth c g A H locs lsC X hP hD hS hL)
theorem e_if_lt {x : Int32} {off : Int} {tgt : Nat} (hd : decode (mC M) pc = .ok (.ifCond .lt off, 3)) (ht : (pc : Int) + off = (tgt : Int)) (kt : x < 0 → E M tgt ls st σ r σ') (kf : ¬ x < 0 → E M (pc + 3) ls st σ r σ') : E M pc ls (.inl x :: st) σ r σ' :=
  fun p l e s m args below meth c g A H locs lsC X hP hD hS hL => lv_if_lt X.1 X.2.1 hd ht (fun h => kt h p l e s m args below meth c g A H locs lsC X hP hD hS hL) (fun h => kf h p l e s m args below meth c g A H locs lsC X hP hD hS hL)
theorem e_icmp_lt {x y : Int32} {off : Int} {tgt : Nat} (hd : decode (mC M) pc = .ok (.if_icmp .lt off, 3)) (ht : (pc : Int) + off = (tgt : Int)) (kt : x < y → E M tgt ls st σ r σ') (kf : ¬ x < y → E M (pc + 3) ls st σ r σ') : E M pc ls (.inl y :: .inl x :: st) σ r σ' :=
  fun p l e s m args below meth c g A H locs lsC X hP hD hS hL => lv_icmp_lt X.1 X.2.1 hd ht (fun h => kt h p l e s m args below meth c g A H locs lsC X hP hD hS hL) (fun h => kf h p l e s m args below meth c g A H locs lsC X hP hD hS hL)
theorem e_if_ge {x : Int32} {off : Int} {tgt : Nat} (hd : decode (mC M) pc = .ok (.ifCond .ge off, 3)) (ht : (pc : Int) + off = (tgt : Int)) (kt : 0 ≤ x → E M tgt ls st σ r σ') (kf : ¬ 0 ≤ x → E M (pc + 3) ls st σ r σ') : E M pc ls (.inl x :: st) σ r σ' :=
  fun p l e s m args below meth c g A H locs lsC X hP hD hS hL => lv_if_ge X.1 X.2.1 hd ht (fun h => kt h p l e s m args below meth c g A H locs lsC X hP hD hS hL) (fun h => kf h p l e s m args below meth c g A H locs lsC X hP hD hS hL)
theorem e_icmp_ge {x y : Int32} {off : Int} {tgt : Nat} (hd : decode (mC M) pc = .ok (.if_icmp .ge off, 3)) (ht : (pc : Int) + off = (tgt : Int)) (kt : y ≤ x → E M tgt ls st σ r σ') (kf : ¬ y ≤ x → E M (pc + 3) ls st σ r σ') : E M pc ls (.inl y :: .inl x :: st) σ r σ' :=
  fun p l e s m args below meth c g A H locs lsC X hP hD hS hL => lv_icmp_ge X.1 X.2.1 hd ht (fun h => kt h p l e s m args below meth c g A H locs lsC X hP hD hS hL) (fun h => kf h p l e s m args below meth c g A H locs lsC X hP hD hS hL)
theorem e_if_gt {x : Int32} {off : Int} {tgt : Nat} (hd : decode (mC M) pc = .ok (.ifCond .gt off, 3)) (ht : (pc : Int) + off = (tgt : Int)) (kt : 0 < x → E M tgt ls st σ r σ') (kf : ¬ 0 < x → E M (pc + 3) ls st σ r σ') : E M pc ls (.inl x :: st) σ r σ' :=
  fun p l e s m args below meth c g A H locs lsC X hP hD hS hL => lv_if_gt X.1 X.2.1 hd ht (fun h => kt h p l e s m args below meth c g A H locs lsC X hP hD hS hL) (fun h => kf h p l e s m args below meth c g A H locs lsC X hP hD hS hL)
theorem e_icmp_gt {x y : Int32} {off : Int} {tgt : Nat} (hd : decode (mC M) pc = .ok (.if_icmp .gt off, 3)) (ht : (pc : Int) + off = (tgt : Int)) (kt : y < x → E M tgt ls st σ r σ') (kf : ¬ y < x → E M (pc + 3) ls st σ r σ') : E M pc ls (.inl y :: .inl x :: st) σ r σ' :=
  fun p l e s m args below meth c g A H locs lsC X hP hD hS hL => lv_icmp_gt X.1 X.2.1 hd ht (fun h => kt h p l e s m args below meth c g A H locs lsC X hP hD hS hL) (fun h => kf h p l e s m args below meth c g A H locs lsC X hP hD hS hL)
theorem e_if_le {x : Int32} {off : Int} {tgt : Nat} (hd : decode (mC M) pc = .ok (.ifCond .le off, 3)) (ht : (pc : Int) + off = (tgt : Int)) (kt : x ≤ 0 → E M tgt ls st σ r σ') (kf : ¬ x ≤ 0 → E M (pc + 3) ls st σ r σ') : E M pc ls (.inl x :: st) σ r σ' :=
  fun p l e s m args below meth c g A H locs lsC X hP hD hS hL => lv_if_le X.1 X.2.1 hd ht (fun h => kt h p l e s m args below meth c g A H locs lsC X hP hD hS hL) (fun h => kf h p l e s m args below meth c g A H locs lsC X hP hD hS hL)
theorem e_icmp_le {x y : Int32} {off : Int} {tgt : Nat} (hd : decode (mC M) pc = .ok (.if_icmp .le off, 3)) (ht : (pc : Int) + off = (tgt : Int)) (kt : x ≤ y → E M tgt ls st σ r σ') (kf : ¬ x ≤ y → E M (pc + 3) ls st σ r σ') : E M pc ls (.inl y :: .inl x :: st) σ r σ' :=
  fun p l e s m args below meth c g A H locs lsC X hP hD hS hL => lv_icmp_le X.1 X.2.1 hd ht (fun h => kt h p l e s m args below meth c g A H locs lsC X hP hD hS hL) (fun h => kf h p l e s m args below meth c g A H locs lsC X hP hD hS hL)
end RR
