/-! MAKING OBJECTS: the world is a list that grows -/
def rXc (g : rG) (M : rM) (p : Program) (s : State) (m : MethodId) (args : Array Value) (meth : Method) (c : Code) : Prop :=
  p.tables.exec = Jvm.exec ∧ c.code = mC M ∧ c.maxLocals = mN M ∧ s.vm.findClass (mO M) = some m.cls ∧ (∀ w ∈ gW, w.before args s = true) ∧ meth.sig.returnType = mR M ∧ meth.locks = false ∧ meth.name = "<init>" ∧ va_K g.1 vwCl (rT g) s
/-- the end of a constructor: one of the worlds Wp -/
def kQc (g : rG) (A : Nat → Prop) (Wp : va_W → Prop) : Array Value → State → Outcome → State → Prop := fun _ st oc t => oc = .returned none ∧ (∃ w1, Wp w1 ∧ va_P g.1 vwCl w1 t.heap ∧ va_D A w1) ∧ va_F A st t
def EK (M : rM) (rm : Room) (g : rG) (sz : Nat) (A : Nat → Prop) (Wp : va_W → Prop) (pc : Nat) (ls : List (Nat × Value)) (st : List Value) (ws : va_W) (cells slots : Nat) : Prop :=
  ∀ (p : Program) (l : Launch) (e : Env) (s : State) (m : MethodId) (args : Array Value) (below : List Frame) (meth : Method) (c : Code) (H : Heap) (locs : List Loc) (lsC : Array Slot),
    rXc g M p s m args meth c → (∀ q, s.heap.size ≤ q → A q) → va_P g.1 vwCl ws H → va_D A ws → va_S A s.heap H locs → lv_has lsC (mN M) ls →
    W p l e rm s m args below meth c H locs cells slots (MQ below (kQc g A Wp) args s rm.cells rm.slots A) (F0 m pc lsC st)
def kPc (g : rG) (as : List Value) (ws : va_W) (sz : Nat) : Array Value → State → Prop := va_Pc as (fun U => U.heap.size = sz ∧ va_P g.1 vwCl ws U.heap ∧ va_D (fun _ => True) ws ∧ va_K g.1 vwCl (rT g) U)
/-- THE CONTRACT of a constructor -/
def Kt (M : rM) (rm : Room) (g : rG) (as : List Value) (ws : va_W) (Wp : va_W → Prop) : Prop :=
  ∀ (l : Launch) (sz : Nat), Met l (mY M) (rWd M) rm (kPc g as ws sz) (kQc g (va_A ws sz) Wp) rm.cells rm.slots (va_A ws sz)
theorem kPc_blind (g : rG) (as : List Value) (ws : va_W) (sz : Nat) : FrameBlind (kPc g as ws sz) := fun a U gg mk q => by
  obtain ⟨q0, q1, qP, qD, qK⟩ := q
  exact ⟨q0, q1, qP, qD, va_K.moved (u := U) (U := U.calling gg mk a) (Vm.Alike.refl U.vm) qK⟩
theorem K_of_EK {M : rM} {rm : Room} {g : rG} {as : List Value} {ws : va_W} {Wp : va_W → Prop} (hy : plainName (mO M) = true) (hc : (mY M).cls = mO M) (hnm : (mY M).name = "<init>") (hn : (lg_sl as).length ≤ mN M) (h : ∀ sz, EK M rm g sz (va_A ws sz) Wp 0 (lv_args 0 as) [] ws 0 0) : Kt M rm g as ws Wp := by
  intro l sz
  refine Met.ofW (cc := mC M) (maxL := mN M) (ret := mR M) (by rw [hc]; exact hy) rfl ?_
  intro p e s m args below meth c s₁ B hml hv
  obtain ⟨rfl, hsz, hP, hD, hK⟩ := hv
  have hts := atoms_spec (ws := rWd M) B.pre
  have hown : s.vm.findClass (mY M).cls = some m.cls := findClass_of_methodNamed B.named
  rw [hc] at hown
  rw [lg_entry_eq]
  have hin : meth.name = (mY M).name := (name_of_methodNamed B.named B.method).1
  rw [hnm] at hin
  subst hsz
  exact h s.heap.size p l e s m _ below meth c s.heap [] _ ⟨B.exec, B.bytes, hml, hown, fun w hw => hts w (List.mem_cons_of_mem _ hw), B.returns, B.notSynchronized, hin, hK⟩ (fun q hq => Or.inr hq) hP hD.self va_S.rf (lv_entry as hn)
section RK
variable {M : rM} {rm : Room} {g : rG} {sz : Nat} {A : Nat → Prop} {Wp : va_W → Prop} {pc : Nat} {ls : List (Nat × Value)} {st : List Value} {ws : va_W} {cells slots : Nat}
theorem k_aload_n {n : Fin 4} {a : Nat} (j : Nat) (hd : decode (mC M) pc = .ok (.aload_n n, 1)) (hl : ls[j]? = some ((n : Nat), .ref a)) (k : EK M rm g sz A Wp (pc + 1) ls (.ref a :: st) ws cells slots) : EK M rm g sz A Wp pc ls st ws cells slots :=
  fun p l e s m args below meth c H locs lsC X hA hP hD hS hL => lv_aload_n X.1 X.2.1 hd rfl (lv_at hL j hl) (k p l e s m args below meth c H locs lsC X hA hP hD hS hL)
theorem k_iload_n {n : Fin 4} {x : Int32} (j : Nat) (hd : decode (mC M) pc = .ok (.iload_n n, 1)) (hl : ls[j]? = some ((n : Nat), .int x)) (k : EK M rm g sz A Wp (pc + 1) ls (.int x :: st) ws cells slots) : EK M rm g sz A Wp pc ls st ws cells slots :=
  fun p l e s m args below meth c H locs lsC X hA hP hD hS hL => lv_iload_n X.1 X.2.1 hd rfl (lv_at hL j hl) (k p l e s m args below meth c H locs lsC X hA hP hD hS hL)
theorem k_iconst {n : Int} (v : Int32) (hd : decode (mC M) pc = .ok (.iconst n, 1)) (hv : Int32.ofInt n = v) (k : EK M rm g sz A Wp (pc + 1) ls (.int v :: st) ws cells slots) : EK M rm g sz A Wp pc ls st ws cells slots :=
  fun p l e s m args below meth c H locs lsC X hA hP hD hS hL => lv_iconst X.1 X.2.1 hd hv (k p l e s m args below meth c H locs lsC X hA hP hD hS hL)
theorem k_bipush {n : Int} (v : Int32) (hd : decode (mC M) pc = .ok (.bipush n, 2)) (hv : (Int8.ofInt n).toInt32 = v) (k : EK M rm g sz A Wp (pc + 2) ls (.int v :: st) ws cells slots) : EK M rm g sz A Wp pc ls st ws cells slots :=
  fun p l e s m args below meth c H locs lsC X hA hP hD hS hL => lv_bipush X.1 X.2.1 hd hv (k p l e s m args below meth c H locs lsC X hA hP hD hS hL)
theorem k_sipush {n : Int} (v : Int32) (hd : decode (mC M) pc = .ok (.sipush n, 3)) (hv : (Int16.ofInt n).toInt32 = v) (k : EK M rm g sz A Wp (pc + 3) ls (.int v :: st) ws cells slots) : EK M rm g sz A Wp pc ls st ws cells slots :=
  fun p l e s m args below meth c H locs lsC X hA hP hD hS hL => lv_sipush X.1 X.2.1 hd hv (k p l e s m args below meth c H locs lsC X hA hP hD hS hL)
theorem k_dup {v : Value} (hd : decode (mC M) pc = .ok (.dup, 1)) (hc : v.category = 1) (k : EK M rm g sz A Wp (pc + 1) ls (v :: v :: st) ws cells slots) : EK M rm g sz A Wp pc ls (v :: st) ws cells slots :=
  fun p l e s m args below meth c H locs lsC X hA hP hD hS hL => lv_dup X.1 X.2.1 hd hc (k p l e s m args below meth c H locs lsC X hA hP hD hS hL)
theorem k_goto {off : Int} {tgt : Nat} (hd : decode (mC M) pc = .ok (.goto off, 3)) (ht : (pc : Int) + off = (tgt : Int)) (k : EK M rm g sz A Wp tgt ls st ws cells slots) : EK M rm g sz A Wp pc ls st ws cells slots :=
  fun p l e s m args below meth c H locs lsC X hA hP hD hS hL => lv_goto X.1 X.2.1 hd ht (k p l e s m args below meth c H locs lsC X hA hP hD hS hL)
theorem k_icmp_ge {x y : Int32} {off : Int} {tgt : Nat} (hd : decode (mC M) pc = .ok (.if_icmp .ge off, 3)) (ht : (pc : Int) + off = (tgt : Int)) (kt : y ≤ x → EK M rm g sz A Wp tgt ls st ws cells slots) (kf : ¬ y ≤ x → EK M rm g sz A Wp (pc + 3) ls st ws cells slots) : EK M rm g sz A Wp pc ls (.int y :: .int x :: st) ws cells slots :=
  fun p l e s m args below meth c H locs lsC X hA hP hD hS hL => lv_icmp_ge X.1 X.2.1 hd ht (fun h => kt h p l e s m args below meth c H locs lsC X hA hP hD hS hL) (fun h => kf h p l e s m args below meth c H locs lsC X hA hP hD hS hL)
theorem k_istore_n {n : Fin 4} {i : Nat} {x : Int32} {lv' : List (Nat × Value)} (hd : decode (mC M) pc = .ok (.istore_n n, 1)) (hi : (n : Nat) = i) (hn : i < mN M) (hl : (i, Value.int x) :: ls.filter (fun q => !(q.1 == i) && !(q.1 + 1 == i && q.2.category == 2)) = lv') (k : EK M rm g sz A Wp (pc + 1) lv' st ws cells slots) : EK M rm g sz A Wp pc ls (.int x :: st) ws cells slots :=
  fun p l e s m args below meth c H locs lsC X hA hP hD hS hL => lv_istore_n X.1 X.2.1 hd hi hL hn hl (fun lsC' hL' => k p l e s m args below meth c H locs lsC' X hA hP hD hS hL')
theorem k_astore_n {n : Fin 4} {i : Nat} {x : Nat} {lv' : List (Nat × Value)} (hd : decode (mC M) pc = .ok (.astore_n n, 1)) (hi : (n : Nat) = i) (hn : i < mN M) (hl : (i, Value.ref x) :: ls.filter (fun q => !(q.1 == i) && !(q.1 + 1 == i && q.2.category == 2)) = lv') (k : EK M rm g sz A Wp (pc + 1) lv' st ws cells slots) : EK M rm g sz A Wp pc ls (.ref x :: st) ws cells slots :=
  fun p l e s m args below meth c H locs lsC X hA hP hD hS hL => lv_astore_n X.1 X.2.1 hd hi hL hn hl (fun lsC' hL' => k p l e s m args below meth c H locs lsC' X hA hP hD hS hL')
theorem k_iinc {i j : Nat} {n : Int} {x v : Int32} {lv' : List (Nat × Value)} (hd : decode (mC M) pc = .ok (.iinc i n, 3)) (hk : ls[j]? = some (i, .int x)) (hv : x + Int32.ofInt n = v) (hn : i < mN M) (hl : (i, Value.int v) :: ls.filter (fun q => !(q.1 == i) && !(q.1 + 1 == i && q.2.category == 2)) = lv') (k : EK M rm g sz A Wp (pc + 3) lv' st ws cells slots) : EK M rm g sz A Wp pc ls st ws cells slots :=
  fun p l e s m args below meth c H locs lsC X hA hP hD hS hL => lv_iinc X.1 X.2.1 hd hL hk hv hn hl (fun lsC' hL' => k p l e s m args below meth c H locs lsC' X hA hP hD hS hL')
/-- Object's own constructor -/
theorem k_obj {idx a : Nat} (hl : Cond.methodLink (mO M) idx objectInit ∈ gW) (hi : Cond.instanceMethod objectInit ∈ gW) (hco : Cond.code objectInit ⟨#[0xb1]⟩ 1 none ∈ gW) (hd : decode (mC M) pc = .ok (.invokespecial idx, 3)) (h1 : 1 ≤ rm.frames) (h2 : 12 ≤ rm.locals) (k : EK M rm g sz A Wp (pc + 3) ls [] ws cells slots) : EK M rm g sz A Wp pc ls [.ref a] ws cells slots :=
  fun p l e s m args below meth c H locs lsC X hA hP hD hS hL => W.objInit X.1 X.2.1 X.2.2.2.1 (X.2.2.2.2.1 _ hl) (X.2.2.2.2.1 _ hi) (X.2.2.2.2.1 _ hco) rfl (hL.1.trans X.2.2.1.symm) rfl hd h1 (by show 2 * 0 + 0 + 12 ≤ _; omega) (k p l e s m args below meth c H locs lsC X hA hP hD hS hL)
/-- a new array -/
theorem k_newa {atype : ArrayType} {ty : FieldType} {n : Int32} (kd N : Nat) (harr : Cond.arrayClass ty ∈ gW) (hty : newarray.typeOf atype = ty) (hkd : ∀ g : rG, (rT g)[kd]? = some (g.2.1 kd, ty)) (hdef : defaultValue ty = .int 0) (hra : ∀ (U : State) (x : ClassId), va_RA U x ty → U.vm.findClass ("[" ++ ty.toString) = some x) (hn : ¬ n < 0) (hN : n.toNatClampNeg = N) (hby : N * componentBytes ty ≤ 536870912) (hc : cells + 1 ≤ rm.cells) (hs : slots + N ≤ rm.slots) (hd : decode (mC M) pc = .ok (.newarray atype, 2)) (k : ∀ q, EK M rm g sz A Wp (pc + 2) ls (.ref q :: st) (ws ++ [(q, .inl (g.2.1 kd, (N, .inl (fun _ => 0))))]) (cells + 1) (slots + N)) : EK M rm g sz A Wp pc ls (.int n :: st) ws cells slots := by
  intro p l e s m args below meth c H locs lsC X hA hP hD hS hL
  have hK := X.2.2.2.2.2.2.2.2
  refine va_newa (D := g.1) (a0 := (N, .inl (fun _ => 0))) X.1 X.2.1 (by rw [hty]; exact X.2.2.2.2.1 _ harr) hty hK hP hD hS hA (fun cA => by rw [hdef]; rfl) hn hN hby hc hs hd (fun q cA H1 hK1 hP1 hD1 hS1 => ?_)
  have e1 : s.vm.findClass ("[" ++ ty.toString) = some (g.2.1 kd) := hra s _ (hK.2 kd _ (hkd g)).2
  have e2 : s.vm.findClass ("[" ++ ty.toString) = some cA := hra s _ (hK1.2 (rT g).length (cA, ty) (by rw [List.getElem?_append_right (Nat.le_refl _), Nat.sub_self]; rfl)).2
  have e3 : cA = g.2.1 kd := Option.some.inj (e2.symm.trans e1)
  subst e3
  exact k q p l e s m args below meth c H1 locs lsC X hA hP1 hD1 hS1 hL
/-- a final field of the object that is made (it stands first) -/
theorem k_putF {a ci N idx : Nat} {C : String} {T : u_T} {ty : Nat → FieldType} {fs : List Value} {wr : va_W} {v : Value} (k : Nat) (hc : rCl ci C T N ty) (hk : k < N) (hf : Cond.fieldLink (mO M) idx (T k).1 (T k).2.1 (T k).2.2.1 ∈ gW) (hfin : (T k).2.2.2 = true) (hdecl : (T k).1 = mO M) (hn : narrow (ty k) v = v ∧ fits (ty k) v = true) (hl : k < fs.length) (hd : decode (mC M) pc = .ok (.putfield idx, 3)) (kk : EK M rm g sz A Wp (pc + 3) ls st ((a, .inr (ci, fs.set k v)) :: wr) cells slots) : EK M rm g sz A Wp pc ls (v :: .ref a :: st) ((a, .inr (ci, fs)) :: wr) cells slots := by
  intro p l e s m args below meth c H locs lsC X hA hP hD hS hL
  obtain ⟨h1, h2, h3, h4, h5⟩ := hc
  exact va_putF (D := g.1) (T := T) (N := N) (ci := ci) X.1 X.2.1 X.2.2.2.2.1 h3 ty h4 h5 X.2.2.2.1 X.2.2.2.2.2.2.2.2 hP hD hS 0 rfl h1 k hk (X.2.2.2.2.1 _ hf) (fun _ h9 => h9) hfin X.2.2.2.2.2.2.2.1 hdecl (h4 k hk) hn.1 hn.2 hl hd (fun H1 locs1 hP1 hD1 hS1 => kk p l e s m args below meth c H1 locs1 lsC X hA hP1 hD1 hS1 hL)
theorem k_put {a ci N idx : Nat} {C : String} {T : u_T} {ty : Nat → FieldType} {fs : List Value} {wr : va_W} {v : Value} (k : Nat) (hc : rCl ci C T N ty) (hk : k < N) (hf : Cond.fieldLink (mO M) idx (T k).1 (T k).2.1 (T k).2.2.1 ∈ gW) (hfin : (T k).2.2.2 = false) (hn : narrow (ty k) v = v ∧ fits (ty k) v = true) (hl : k < fs.length) (hd : decode (mC M) pc = .ok (.putfield idx, 3)) (kk : EK M rm g sz A Wp (pc + 3) ls st ((a, .inr (ci, fs.set k v)) :: wr) cells slots) : EK M rm g sz A Wp pc ls (v :: .ref a :: st) ((a, .inr (ci, fs)) :: wr) cells slots := by
  intro p l e s m args below meth c H locs lsC X hA hP hD hS hL
  obtain ⟨h1, h2, h3, h4, h5⟩ := hc
  exact va_put (D := g.1) (T := T) (N := N) (ci := ci) X.1 X.2.1 X.2.2.2.2.1 h3 ty h4 h5 X.2.2.2.1 X.2.2.2.2.2.2.2.2 hP hD hS 0 rfl h1 k hk (X.2.2.2.2.1 _ hf) (fun _ h9 => h9) hfin (h4 k hk) hn.1 hn.2 hl hd (fun H1 locs1 hP1 hD1 hS1 => kk p l e s m args below meth c H1 locs1 lsC X hA hP1 hD1 hS1 hL)
theorem k_get {a ci N idx : Nat} {C : String} {T : u_T} {ty : Nat → FieldType} {fs : List Value} {wr : va_W} {v : Value} (k : Nat) (hc : rCl ci C T N ty) (hk : k < N) (hf : Cond.fieldLink (mO M) idx (T k).1 (T k).2.1 (T k).2.2.1 ∈ gW) (hv : fs[k]? = some v) (hd : decode (mC M) pc = .ok (.getfield idx, 3)) (kk : EK M rm g sz A Wp (pc + 3) ls (v :: st) ((a, .inr (ci, fs)) :: wr) cells slots) : EK M rm g sz A Wp pc ls (.ref a :: st) ((a, .inr (ci, fs)) :: wr) cells slots := by
  intro p l e s m args below meth c H locs lsC X hA hP hD hS hL
  obtain ⟨h1, h2, h3, h4, h5⟩ := hc
  exact va_get (D := g.1) (T := T) (N := N) (ci := ci) X.1 X.2.1 X.2.2.2.2.1 h3 X.2.2.2.1 X.2.2.2.2.2.2.2.2 hP 0 rfl h1 k hk (X.2.2.2.2.1 _ hf) (fun _ h9 => h9) hv hd (kk p l e s m args below meth c H locs lsC X hA hP hD hS hL)
theorem k_alen {a : Nat} {n : Nat} {f : Nat → Int32} {v : Int32} (q0 : Nat) (ha : ws[q0]? = some (a, .inl (g.2.1 1, (n, .inl f)))) (hv : nI n = v) (hd : decode (mC M) pc = .ok (.arraylength, 1)) (kk : EK M rm g sz A Wp (pc + 1) ls (.int v :: st) ws cells slots) : EK M rm g sz A Wp pc ls (.ref a :: st) ws cells slots := by
  intro p l e s m args below meth c H locs lsC X hA hP hD hS hL
  exact va_alen (D := g.1) (tys := rT g) X.1 X.2.1 X.2.2.2.2.2.2.2.2 hP q0 1 ha rfl hv hd (kk p l e s m args below meth c H locs lsC X hA hP hD hS hL)
theorem k_iast {a : Nat} {n : Nat} {f : Nat → Int32} {i x : Int32} {ws' : va_W} (q0 : Nat) (ha : ws[q0]? = some (a, .inl (g.2.1 1, (n, .inl f)))) (hi : vp_in i n) (hw : ws.set q0 (a, .inl (g.2.1 1, (n, .inl (upd f i.toNatClampNeg x)))) = ws') (hd : decode (mC M) pc = .ok (.iastore, 1)) (kk : EK M rm g sz A Wp (pc + 1) ls st ws' cells slots) : EK M rm g sz A Wp pc ls (.int x :: .int i :: .ref a :: st) ws cells slots := by
  intro p l e s m args below meth c H locs lsC X hA hP hD hS hL
  subst hw
  exact va_iast (D := g.1) (tys := rT g) X.1 X.2.1 X.2.2.2.2.2.2.2.2 hP hD hS q0 1 ha rfl hi hd (fun H1 locs1 hP1 hD1 hS1 => kk p l e s m args below meth c H1 locs1 lsC X hA hP1 hD1 hS1 hL)
theorem k_new {ci N idx : Nat} {C : String} {T : u_T} {ty : Nat → FieldType} (fs : List Value) (hc : rCl ci C T N ty) (hcl : Cond.classLink (mO M) idx C ∈ gW) (hin : Cond.instantiable C N ∈ gW) (hini : Cond.initialized C ∈ gW) (hfs : ∀ j, j < N → defaultValue (ty j) = vp_V fs j) (hce : cells + 1 ≤ rm.cells) (hsl : slots + N ≤ rm.slots) (hd : decode (mC M) pc = .ok (.new idx, 3)) (k : ∀ q, EK M rm g sz A Wp (pc + 3) ls (.ref q :: st) (ws ++ [(q, .inr (ci, fs))]) (cells + 1) (slots + N)) : EK M rm g sz A Wp pc ls st ws cells slots := by
  intro p l e s m args below meth c H locs lsC X hA hP hD hS hL
  obtain ⟨h1, h2, h3, h4, h5⟩ := hc
  exact va_new (D := g.1) (ci := ci) (fs := fs) (C := C) (T := T) (N := N) X.1 X.2.1 X.2.2.2.2.1 h3 ty h4 X.2.2.2.1 (X.2.2.2.2.1 _ hcl) (X.2.2.2.2.1 _ hin) (X.2.2.2.2.1 _ hini) X.2.2.2.2.2.2.2.2 hP hD hS hA h1 hfs hce hsl hd (fun q H1 hP1 hD1 hS1 => k q p l e s m args below meth c H1 locs lsC X hA hP1 hD1 hS1 hL)
theorem k_ret (hr : mR M = none) (hc : cells ≤ rm.cells) (hs : slots ≤ rm.slots) (hd : decode (mC M) pc = .ok (.return_, 1)) (hw : Wp ws) : EK M rm g sz A Wp pc ls [] ws cells slots := by
  intro p l e s m args below meth c H locs lsC X hA hP hD hS hL
  refine W.widen (k := rm.cells) (n := rm.slots) hc hs ?_
  exact W.vret X.1 X.2.1 (X.2.2.2.2.2.1.trans hr) (fun t ht hW => ⟨rfl, ⟨ws, hw, by rw [ht]; exact hP, hD⟩, hS.F ht⟩) hS.2.2 hd X.2.2.2.2.2.2.1
/-- the rest of the world stays behind a call that has the last cells -/
theorem k_join {D : va_G} {cl : List vw_C} {wr wc w1 : va_W} {A0 : Nat → Prop} {H H1 : Heap} (hP : va_P D cl (wr ++ wc) H) (hD : va_D A0 (wr ++ wc)) (hF : ∀ q, va_A wc H.size q → A0 q) (hk : ∀ q : Nat, q < H.size → ¬ va_A wc H.size q → H1[q]? = H[q]?) (hP1 : va_P D cl w1 H1) (hD1 : va_D (va_A wc H.size) w1) : va_P D cl (wr ++ w1) H1 ∧ va_D A0 (wr ++ w1) := by
  have hl : ∀ (k : Nat) (x : Nat × va_E), wr[k]? = some x → (wr ++ wc)[k]? = some x := fun k x h => by rw [List.getElem?_append_left (List.getElem?_eq_some_iff.mp h).1]; exact h
  have ap : ∀ (k : Nat) (x : Nat × va_E), wr[k]? = some x → x.1 < H.size ∧ ¬ va_A wc H.size x.1 := by
    intro k x hx
    have h1 := (hP k x (hl k x hx)).lt
    refine ⟨h1, fun h => ?_⟩
    rcases h with ⟨j, e, h⟩ | h
    · have h2 : (wr ++ wc)[wr.length + j]? = some (x.1, e) := by
        rw [List.getElem?_append_right (by omega)]
        rw [show wr.length + j - wr.length = j by omega]
        exact h
      have h3 := hD.1 k (wr.length + j) x (x.1, e) (hl k x hx) h2 rfl
      have h4 := (List.getElem?_eq_some_iff.mp hx).1
      omega
    · omega
  refine ⟨va_P.app (fun k x hx => (hP k x (hl k x hx)).kept (hk x.1 (ap k x hx).1 (ap k x hx).2)) hP1, va_D.app ⟨fun i j x y h1 h2 h3 => hD.1 i j x y (hl i x h1) (hl j y h2) h3, fun k x hx => hD.2 k x (hl k x hx)⟩ (hD1.weaken (fun k q _ h => hF q.1 h)) (fun i j x y hx hy hxy => (ap i x hx).2 (by rw [hxy]; exact hD1.2 j y hy))⟩
theorem k_callI {N : rM} {rmN : Room} {n idx b ci : Nat} {fs as : List Value} {wr : va_W} {WpN : va_W → Prop} (hK : Kt N rmN g (.ref b :: as) [(b, .inr (ci, fs))] WpN) (hN : okM N n) (hin : Cond.instanceMethod (mY N) ∈ gW) (hnm : (mY N).name = "<init>") (hrt : mR N = none) (hl : Cond.methodLink (mO M) idx (mY N) ∈ gW) (hR : rmN.frames + 1 ≤ rm.frames ∧ 8 + (mN N + 11) + rmN.locals ≤ rm.locals) (hc : cells + rmN.cells ≤ rm.cells ∧ slots + rmN.slots ≤ rm.slots) (hn : as.length = n) (hst : (st.map fun v => v.category).sum ≤ 8) (hd : decode (mC M) pc = .ok (.invokespecial idx, 3)) (kk : ∀ w1, WpN w1 → EK M rm g sz A Wp (pc + 3) ls st (wr ++ w1) (cells + rmN.cells) (slots + rmN.slots)) : EK M rm g sz A Wp pc ls (as.reverse ++ .ref b :: st) (wr ++ [(b, .inr (ci, fs))]) cells slots := by
  intro p l e s m args below meth c H locs lsC X hA hP hD hS hL
  have ht := X.2.2.2.2.1
  have hb : (wr ++ [(b, (.inr (ci, fs) : va_E))])[wr.length]? = some (b, .inr (ci, fs)) := by
    rw [List.getElem?_append_right (Nat.le_refl _), Nat.sub_self]; rfl
  have hF : ∀ q, va_A [(b, (.inr (ci, fs) : va_E))] H.size q → A q := by
    intro q h
    rcases h with ⟨k, e1, h⟩ | h
    · have hk : k = 0 := by
        have := (List.getElem?_eq_some_iff.mp h).1
        simp at this
        exact this
      subst hk
      cases h
      exact hD.2 _ _ hb
    · exact hA q (Nat.le_trans hS.1 h)
  have cb : CallB rm s args (mO M) idx (mY N) (mC N) (mN N) none (rWd N) rmN rmN.cells rmN.slots n := by
    refine ⟨rfl, rfl, hR.1, hR.2, rWd_good (Mc := M) hN ht, ?_, ?_, ht _ hN.2.1, hN.2.2.1, fun sig hs => ?_, ht _ hl⟩
    · rw [← hrt]; exact List.mem_cons_self
    · rw [← hrt]; exact ht _ hN.1
    · have h2 := hN.2.2.2
      rw [hs] at h2
      exact (Option.some.inj h2).symm
  have one : ∀ (k : Nat) (x : Nat × va_E), [(b, (.inr (ci, fs) : va_E))][k]? = some x → k = 0 ∧ x = (b, .inr (ci, fs)) := by
    intro k x hx
    have hk : k = 0 := by
      have := (List.getElem?_eq_some_iff.mp hx).1
      simp at this
      exact this
    subst hk
    cases hx
    exact ⟨rfl, rfl⟩
  have hPb : va_P g.1 vwCl [(b, (.inr (ci, fs) : va_E))] H := fun k x hx => by
    rw [(one k x hx).2]
    exact hP _ _ hb
  have hDb : va_D (fun _ => True) [(b, (.inr (ci, fs) : va_E))] := ⟨fun i j x y h1 h2 _ => by rw [(one i x h1).1, (one j y h2).1], fun _ _ _ => trivial⟩
  have hr := va_runI (p := p) (l := l) (e := e) (R := rm) (s := s) (m := m) (args := args) (below := below) (meth := meth) (c := c) (H := H) (locs := locs) (cells := cells) (slots := slots) (g := F0 m pc lsC (as.reverse ++ .ref b :: st)) (As := as) (b := b) (rest := st) ⟨X.1, X.2.1, X.2.2.1, X.2.2.2.1, ht⟩ (hK l H.size) ⟨cb, hnm, ht _ hin⟩ ⟨kPc_blind g _ _ _, fun U hU hW => ⟨rfl, by rw [hU], by rw [hU]; exact hPb, hDb, va_K.moved hW.alike X.2.2.2.2.2.2.2.2⟩⟩ rfl hn hL.1 rfl (lv_room hst) hd hc
  intro T hT X9
  obtain ⟨v9, st₀, t, T', L, h0, X', hL9, e1, e2, ⟨hv, ⟨w1, hw1, hP1, hD1⟩, hz, hk⟩, stp⟩ := hr T hT X9
  have hv9 : v9 = none := by cases hv; rfl
  subst hv9
  rw [h0] at hz hk
  have hS1 : va_S A s.heap T'.heap (locs ++ L) := by
    refine ⟨Nat.le_trans hS.1 (by rw [e1]; exact hz), fun q h1 h2 => ?_, fun q hq => ?_⟩
    · rw [e1, hk q (Nat.lt_of_lt_of_le h1 hS.1) (fun z => h2 (hF q z))]
      exact hS.2.1 q h1 h2
    · rcases List.mem_append.mp hq with h | h
      · exact hS.2.2 q h
      · exact hF _ (hL9 q h)
  obtain ⟨hP2, hD2⟩ := k_join hP hD hF (H1 := T'.heap) (fun q h1 h2 => by rw [e1]; exact hk q h1 h2) (by rw [e1]; exact hP1) hD1
  obtain ⟨t2, a1, b1⟩ := kk w1 hw1 p l e s m args below meth c T'.heap (locs ++ L) lsC X hA hP2 hD2 hS1 hL T' rfl X'
  exact ⟨t2, stp t2 a1, b1⟩
end RK
theorem ra_int (U : State) (x : ClassId) (h : va_RA U x .int) : U.vm.findClass ("[" ++ FieldType.int.toString) = some x := h
theorem ra_byte (U : State) (x : ClassId) (h : va_RA U x .byte) : U.vm.findClass ("[" ++ FieldType.byte.toString) = some x := h
theorem ra_bool (U : State) (x : ClassId) (h : va_RA U x .boolean) : U.vm.findClass ("[" ++ FieldType.boolean.toString) = some x := h
