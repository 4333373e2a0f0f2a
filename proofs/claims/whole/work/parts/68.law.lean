/-! THE CLAIM OUT OF ONE WALK OF THE LAW'S BODY. Your part is whole_start (and what it stands on); all else here is the same for every law, but numbers. -/
def R_law : String := "BurdenCourtLaw"
def lw_P (b : Addr) (xs : List Int32) (args : Array Value) (s : State) : Prop := args = #[.ref b] ∧ s.IntsAt b xs ∧ xs.length ≤ 3072 ∧ (Jvm.Cond.and given_1 narrow_1).before args s = true
def lw_Q (_ : Array Value) (s : State) (o : Outcome) (t : State) : Prop := o = .returned (some (.int 1)) ∧ Framed s o t [] 1088 10954
def lw_Z (below : List Frame) (a : Array Value) (s : State) : State → Prop := fun t => ∃ o, t.status = .running ∧ Ended t below o ∧ lw_Q a s o t
/-- the law's own end, with 1 on the stack, nothing written that was there before, its room as the claim has it -/
theorem lw_ret {p : Program} {l : Launch} {e : Env} {s : State} {m : MethodId} {below : List Frame} {meth : Method} {c : Code} {b : Nat} (hx : p.tables.exec = Jvm.exec) (hb : c.code = code) (hr : meth.sig.returnType = ret) (hlocks : meth.locks = false) {pc : Nat} {H : Heap} {ls : Array Slot} (hdg : decode code pc = .ok (.ireturn, 1)) : W p l e room_1 s m #[Value.ref b] below meth c H [] 1088 10954 (lw_Z below #[Value.ref b] s) (F0 m pc ls [.int 1]) := by
  intro T hT X
  obtain ⟨fs, hret, hrun, hended, hW, hframe⟩ := X.leave (v := some (.int 1)) (hlocks := hlocks) (fun h => by rw [hr] at h; cases h)
  have hmeth' : T.vm.method? m = some meth := X.method'
  refine ⟨T.setFrames fs, ?_, .returned (some (.int 1)), hrun, hended, rfl, ⟨_, rfl⟩, hW, hframe⟩
  jvm_step X.here [X.here.top, hx, hb, hdg, hmeth', hr, ret, narrow_b1]
  (try refine ⟨rfl, ?_⟩); (try refine ⟨rfl, ?_⟩)
  first | (intro acts; rw [hret _ acts rfl rfl rfl]) | rw [hret _ _ rfl rfl rfl]
  exact Steps.refl _
/-- what holds at the law's entry: the machine, the code, the tables' words (any of lw_tbl by 'hts w (by decide +kernel)'), the script of L ints xs at the cell b, what the Statement gives of the start (any of its parts by flat_of_before) -/
def lw_At (p : Program) (s : State) (m : MethodId) (meth : Method) (c : Code) (b L : Nat) (xs : Nat → Int32) : Prop :=
  p.tables.exec = Jvm.exec ∧ c.code = code ∧ meth.sig.returnType = ret ∧ c.maxLocals = 7 ∧ s.vm.findClass R_law = some m.cls ∧ (∀ w ∈ lw_tbl, w.before #[Value.ref b] s = true) ∧ va_X b L xs s s.heap ∧ b < s.heap.size ∧ meth.locks = false ∧ (Jvm.Cond.and given_1 narrow_1).before #[Value.ref b] s = true
/-! THE LAW'S LOOP -/
def lwC (p : Program) (l : Launch) (s : State) (m : MethodId) (meth : Method) (c : Code) (b L : Nat) (xs : Nat → Int32) (g : rG) (A : Nat → Prop) (ob : Nat) (cj : ClassId) : Prop :=
  lw_At p s m meth c b L xs ∧ l.stackTraces = false ∧ rK g A s s.heap ∧ xw A s s.heap ∧ (∀ σ, va_D A (rw_ g σ)) ∧ (∀ q, A q → s.heap.size ≤ q) ∧ (s.heap.size ≤ ob ∧ ¬ A ob) ∧ va_K g.1 vwCl [(cj, .long)] s ∧ va_Nc nNS nIO s
abbrev lwA (s : State) : Nat → Prop := fun q => s.heap.size ≤ q
def lwJ (s : State) (g : rG) (ob : Nat) (cj : ClassId) (σ : rS) (f : Nat → Int64) (H : Heap) (locs : List Loc) : Prop := va_P g.1 vwCl (rw_ g σ) H ∧ H[ob]? = some (cellJ cj f) ∧ va_S (lwA s) s.heap H locs
abbrev lwL (g : rG) (b ob : Nat) (i : Int32) : List (Nat × Value) := [(0, .ref b), (1, .ref (g.2.2 (0, 0))), (2, .ref (g.2.2 (8, 0))), (3, .ref ob), (4, .int i)]
section LAW
variable {p : Program} {l : Launch} {e : Env} {s : State} {m : MethodId} {below : List Frame} {meth : Method} {c : Code} {b L : Nat} {xs : Nat → Int32} {g : rG} {A : Nat → Prop} {ob : Nat} {cj : ClassId}
variable {H : Heap} {locs : List Loc} {cells slots : Nat} {Q : State → Prop} {σ : rS} {f : Nat → Int64} {ls : Array Slot} {i : Int32} {pc : Nat} {st : List Value}
theorem lwC.ht (C : lwC p l s m meth c b L xs g A ob cj) : ∀ w ∈ gW, w.before #[Value.ref b] s = true := fun w hw => C.1.2.2.2.2.2.1 w (gW_sub hw)
theorem w_scr {k : Int} (C : lwC p l s m meth c b L xs g A ob cj) (hJ : lwJ s g ob cj σ f H locs) (hl : ls[0]? = some (.val (.ref b)) ∧ ls[4]? = some (.val (.int i))) (hi : vp_in (i + Int32.ofInt k) L)
    (d0 : decode code pc = .ok (.aload_n 0, 1)) (d1 : decode code (pc + 1) = .ok (.iload 4, 2)) (d3 : decode code (pc + 3) = .ok (.iconst k, 1)) (d4 : decode code (pc + 4) = .ok (.iadd, 1)) (d5 : decode code (pc + 5) = .ok (.iaload, 1))
    (kk : W p l e room_1 s m #[Value.ref b] below meth c H locs cells slots Q (F0 m (pc + 6) ls (.int (xs (i + Int32.ofInt k).toNatClampNeg) :: st))) : W p l e room_1 s m #[Value.ref b] below meth c H locs cells slots Q (F0 m pc ls st) := by
  obtain ⟨hx, hb, hr, hml, hown, hts, hX, hbl, hlocks, hgv⟩ := C.1
  refine lv_aload_n hx hb d0 rfl hl.1 ?_
  refine lv_iload hx hb d1 hl.2 ?_
  refine lv_iconst hx hb d3 rfl ?_
  refine lv_iadd hx hb d4 ?_
  exact va_sld hx hb hX hbl (A := lwA s) (Nat.not_le.mpr hbl) hJ.2.2 hi d5 kk
theorem w_lcall {N : rM} {n idx o ci : Nat} {as : List rV} {r : Int32} {σ1 : rS} (C : lwC p l s m meth c b L xs g A ob cj) (hJ : lwJ s g ob cj σ f H locs) (hC : Ct N (.inr (o, 0) :: as) σ (some (.inl r)) σ1) (hN : okV N n ci) (hl : Cond.methodLink RL idx (mY N) ∈ gW) (ho : isO o ci) (hn : as.length = n) (hst : (st.map fun v => v.category).sum ≤ 8) (hR : mF N + 1 ≤ 13 ∧ 8 + (mN N + 11) + mL N ≤ 488)
    (hcs : cells ≤ 1088 ∧ slots ≤ 10954) (hsz : ls.size = 7) (hd : decode code pc = .ok (.invokevirtual idx, 3)) (kk : ∀ (H1 : Heap) (locs1 : List Loc), lwJ s g ob cj σ1 f H1 locs1 → W p l e room_1 s m #[Value.ref b] below meth c H1 locs1 cells slots Q (F0 m (pc + 3) ls (.int r :: st))) :
    W p l e room_1 s m #[Value.ref b] below meth c H locs cells slots Q (F0 m pc ls ((as.map (cv g)).reverse ++ .ref (g.2.2 (o, 0)) :: st)) := by
  obtain ⟨hx, hb, hr, hml, hown, hts, hX, hbl, hlocks, hgv⟩ := C.1
  obtain ⟨-, hlz, hK, hxw, hD, hA, hob, hKJ, hNc⟩ := id C
  refine w_callV (A := A) (A0 := lwA s) (g := g) ⟨hx, hb, hml, hown, C.ht⟩ hC hN hl ho hn hst hR hcs hJ.1 (hD σ) hK.1 (fun U hW => hK.at hJ.2.2 (fun q h => Or.inl (Nat.not_lt.mpr h)) hW) hJ.2.2 hA hsz hd (fun H1 locs1 hP1 hz1 hk1 hS1 => ?_)
  exact kk H1 locs1 ⟨hP1, (hk1 ob (Array.getElem?_eq_some_iff.mp hJ.2.1).1 hob.2).trans hJ.2.1, hS1⟩
theorem w_bool {x : Int32} (C : lwC p l s m meth c b L xs g A ob cj) (d0 : decode code pc = .ok (.ifCond .eq 7, 3)) (d3 : decode code (pc + 3) = .ok (.iconst 1, 1)) (d4 : decode code (pc + 4) = .ok (.goto 4, 3)) (d7 : decode code (pc + 7) = .ok (.iconst 0, 1))
    (kk : W p l e room_1 s m #[Value.ref b] below meth c H locs cells slots Q (F0 m (pc + 8) ls (.int (if x = 0 then 0 else 1) :: st))) : W p l e room_1 s m #[Value.ref b] below meth c H locs cells slots Q (F0 m pc ls (.int x :: st)) := by
  have hx := C.1.1
  have hb := C.1.2.1
  refine lv_if_eq (tgt := pc + 7) hx hb d0 (by omega) (fun z => ?_) (fun z => ?_)
  · rw [if_pos z] at kk
    exact lv_iconst (v := 0) hx hb d7 (by decide) kk
  · rw [if_neg z] at kk
    refine lv_iconst (v := 1) hx hb d3 (by decide) ?_
    exact lv_goto (tgt := pc + 8) hx hb d4 (by omega) kk

theorem lL_21 : Cond.methodLink RL 21 (mY mX5_feed) ∈ gW := gW_in (List.mem_of_getElem? (i := 231) (by decide +kernel)) rfl
theorem lL_25 : Cond.methodLink RL 25 (mY mX6_feed) ∈ gW := gW_in (List.mem_of_getElem? (i := 923) (by decide +kernel)) rfl
theorem lL_26 : Cond.methodLink RL 26 (mY mX5_statutes) ∈ gW := gW_in (List.mem_of_getElem? (i := 247) (by decide +kernel)) rfl
theorem lL_30 : Cond.methodLink RL 30 (mY mX6_statutes) ∈ gW := gW_in (List.mem_of_getElem? (i := 927) (by decide +kernel)) rfl
theorem lL_31 : Cond.methodLink RL 31 (mY mX5_fault) ∈ gW := gW_in (List.mem_of_getElem? (i := 410) (by decide +kernel)) rfl
theorem lL_34 : Cond.methodLink RL 34 (mY mX6_fault) ∈ gW := gW_in (List.mem_of_getElem? (i := 969) (by decide +kernel)) rfl
theorem lL_35 : Cond.methodLink RL 35 (mY mX5_man) ∈ gW := gW_in (List.mem_of_getElem? (i := 422) (by decide +kernel)) rfl
theorem lL_38 : Cond.methodLink RL 38 (mY mX6_man) ∈ gW := gW_in (List.mem_of_getElem? (i := 973) (by decide +kernel)) rfl
theorem lL_39 : Cond.methodLink RL 39 (mY mX5_found) ∈ gW := gW_in (List.mem_of_getElem? (i := 434) (by decide +kernel)) rfl
theorem lL_43 : Cond.methodLink RL 43 (mY mX6_found) ∈ gW := gW_in (List.mem_of_getElem? (i := 977) (by decide +kernel)) rfl
theorem lL_49 : Cond.methodLink RL 49 (mY mX6_look) ∈ gW := gW_in (List.mem_of_getElem? (i := 985) (by decide +kernel)) rfl
theorem lL_50 : Cond.methodLink RL 50 (mY mX6_thrown) ∈ gW := gW_in (List.mem_of_getElem? (i := 919) (by decide +kernel)) rfl
theorem lL_54 : Cond.methodLink RL 54 (mY mX5_richest) ∈ gW := gW_in (List.mem_of_getElem? (i := 451) (by decide +kernel)) rfl
theorem lL_57 : Cond.methodLink RL 57 (mY mX6_richest) ∈ gW := gW_in (List.mem_of_getElem? (i := 1001) (by decide +kernel)) rfl
theorem lL_58 : Cond.methodLink RL 58 (mY mX5_place) ∈ gW := gW_in (List.mem_of_getElem? (i := 467) (by decide +kernel)) rfl
theorem lL_61 : Cond.methodLink RL 61 (mY mX6_place) ∈ gW := gW_in (List.mem_of_getElem? (i := 1005) (by decide +kernel)) rfl
theorem lL_62 : Cond.methodLink RL 62 (mY mX5_begin) ∈ gW := gW_in (List.mem_of_getElem? (i := 487) (by decide +kernel)) rfl
theorem lL_65 : Cond.methodLink RL 65 (mY mX6_begin) ∈ gW := gW_in (List.mem_of_getElem? (i := 1009) (by decide +kernel)) rfl
theorem lL_66 : Cond.methodLink RL 66 (mY mX5_pass) ∈ gW := gW_in (List.mem_of_getElem? (i := 516) (by decide +kernel)) rfl
theorem lL_69 : Cond.methodLink RL 69 (mY mX6_pass) ∈ gW := gW_in (List.mem_of_getElem? (i := 1017) (by decide +kernel)) rfl
theorem lL_70 : Cond.methodLink RL 70 (mY mX5_challenge) ∈ gW := gW_in (List.mem_of_getElem? (i := 553) (by decide +kernel)) rfl
theorem lL_73 : Cond.methodLink RL 73 (mY mX6_challenge) ∈ gW := gW_in (List.mem_of_getElem? (i := 1037) (by decide +kernel)) rfl
theorem lL_74 : Cond.methodLink RL 74 (mY mX5_answer) ∈ gW := gW_in (List.mem_of_getElem? (i := 583) (by decide +kernel)) rfl
theorem lL_78 : Cond.methodLink RL 78 (mY mX6_answer) ∈ gW := gW_in (List.mem_of_getElem? (i := 1041) (by decide +kernel)) rfl
theorem lL_79 : Cond.methodLink RL 79 (mY mX5_swear) ∈ gW := gW_in (List.mem_of_getElem? (i := 596) (by decide +kernel)) rfl
theorem lL_82 : Cond.methodLink RL 82 (mY mX6_swear) ∈ gW := gW_in (List.mem_of_getElem? (i := 1045) (by decide +kernel)) rfl
theorem lL_83 : Cond.methodLink RL 83 (mY mX5_told) ∈ gW := gW_in (List.mem_of_getElem? (i := 612) (by decide +kernel)) rfl
theorem lL_86 : Cond.methodLink RL 86 (mY mX6_told) ∈ gW := gW_in (List.mem_of_getElem? (i := 1049) (by decide +kernel)) rfl
theorem lL_87 : Cond.methodLink RL 87 (mY mX5_end) ∈ gW := gW_in (List.mem_of_getElem? (i := 636) (by decide +kernel)) rfl
theorem lL_90 : Cond.methodLink RL 90 (mY mX6_end) ∈ gW := gW_in (List.mem_of_getElem? (i := 1053) (by decide +kernel)) rfl
theorem lL_91 : Cond.methodLink RL 91 (mY mX5_part) ∈ gW := gW_in (List.mem_of_getElem? (i := 662) (by decide +kernel)) rfl
theorem lL_94 : Cond.methodLink RL 94 (mY mX6_part) ∈ gW := gW_in (List.mem_of_getElem? (i := 1065) (by decide +kernel)) rfl
theorem lL_95 : Cond.methodLink RL 95 (mY mX5_gain) ∈ gW := gW_in (List.mem_of_getElem? (i := 667) (by decide +kernel)) rfl
theorem lL_98 : Cond.methodLink RL 98 (mY mX6_gain) ∈ gW := gW_in (List.mem_of_getElem? (i := 1069) (by decide +kernel)) rfl
theorem lL_99 : Cond.methodLink RL 99 (mY mX5_ahead) ∈ gW := gW_in (List.mem_of_getElem? (i := 677) (by decide +kernel)) rfl
theorem lL_102 : Cond.methodLink RL 102 (mY mX6_ahead) ∈ gW := gW_in (List.mem_of_getElem? (i := 1074) (by decide +kernel)) rfl
theorem lL_103 : Cond.methodLink RL 103 (mY mX5_count) ∈ gW := gW_in (List.mem_of_getElem? (i := 689) (by decide +kernel)) rfl
theorem lL_106 : Cond.methodLink RL 106 (mY mX6_count) ∈ gW := gW_in (List.mem_of_getElem? (i := 1078) (by decide +kernel)) rfl
abbrev sc (xs : Nat → Int32) (i : Int32) (k : Int) : Int32 := xs (i + Int32.ofInt k).toNatClampNeg
theorem lc_0 (C : lwC p l s m meth c b L xs g A ob cj) (hJ : lwJ s g ob cj σ f H locs) (hR : Rl σ) (hcs : cells ≤ 1088 ∧ slots ≤ 10954) (hl : lv_has ls 7 (lwL g b ob i)) (hi : ∀ k : Int, 0 ≤ k ∧ k ≤ 5 → vp_in (i + Int32.ofInt k) L) (kk : ∀ (σ2 : rS) (H2 : Heap) (locs2 : List Loc), Rl σ2 → lwJ s g ob cj σ2 f H2 locs2 → W p l e room_1 s m #[Value.ref b] below meth c H2 locs2 cells slots Q (F0 m 802 ls [])) : W p l e room_1 s m #[Value.ref b] below meth c H locs cells slots Q (F0 m 132 ls []) := by
  have hx := C.1.1
  have hb := C.1.2.1
  obtain ⟨r, σ1, σ2, h1, h2, hR2⟩ := (b_feed hR : both mX5_feed mX6_feed [.inl (sc xs i 1), .inl (sc xs i 2), .inl (sc xs i 3), .inl (sc xs i 4), .inl (sc xs i 5)] σ)
  refine lv_aload_n hx hb dL_law_132 rfl (lv_at hl 1 rfl) ?_
  refine w_scr (k := 1) C hJ ⟨lv_at hl 0 rfl, lv_at hl 4 rfl⟩ (hi 1 (by decide)) dL_law_133 dL_law_134 dL_law_136 dL_law_137 dL_law_138 ?_
  refine w_scr (k := 2) C hJ ⟨lv_at hl 0 rfl, lv_at hl 4 rfl⟩ (hi 2 (by decide)) dL_law_139 dL_law_140 dL_law_142 dL_law_143 dL_law_144 ?_
  refine w_scr (k := 3) C hJ ⟨lv_at hl 0 rfl, lv_at hl 4 rfl⟩ (hi 3 (by decide)) dL_law_145 dL_law_146 dL_law_148 dL_law_149 dL_law_150 ?_
  refine w_scr (k := 4) C hJ ⟨lv_at hl 0 rfl, lv_at hl 4 rfl⟩ (hi 4 (by decide)) dL_law_151 dL_law_152 dL_law_154 dL_law_155 dL_law_156 ?_
  refine w_scr (k := 5) C hJ ⟨lv_at hl 0 rfl, lv_at hl 4 rfl⟩ (hi 5 (by decide)) dL_law_157 dL_law_158 dL_law_160 dL_law_161 dL_law_162 ?_
  refine w_lcall (as := [.inl (sc xs i 1), .inl (sc xs i 2), .inl (sc xs i 3), .inl (sc xs i 4), .inl (sc xs i 5)]) (o := 0) (ci := 5) (st := []) C hJ h1 oX5_feed lL_21 ⟨by decide, rfl⟩ rfl (Nat.le_of_ble_eq_true rfl) ⟨by decide, by decide⟩ hcs hl.1 dL_law_163 (fun H1 locs1 hJ1 => ?_)
  refine lv_aload_n hx hb dL_law_166 rfl (lv_at hl 2 rfl) ?_
  refine w_scr (k := 1) C hJ1 ⟨lv_at hl 0 rfl, lv_at hl 4 rfl⟩ (hi 1 (by decide)) dL_law_167 dL_law_168 dL_law_170 dL_law_171 dL_law_172 ?_
  refine w_scr (k := 2) C hJ1 ⟨lv_at hl 0 rfl, lv_at hl 4 rfl⟩ (hi 2 (by decide)) dL_law_173 dL_law_174 dL_law_176 dL_law_177 dL_law_178 ?_
  refine w_scr (k := 3) C hJ1 ⟨lv_at hl 0 rfl, lv_at hl 4 rfl⟩ (hi 3 (by decide)) dL_law_179 dL_law_180 dL_law_182 dL_law_183 dL_law_184 ?_
  refine w_scr (k := 4) C hJ1 ⟨lv_at hl 0 rfl, lv_at hl 4 rfl⟩ (hi 4 (by decide)) dL_law_185 dL_law_186 dL_law_188 dL_law_189 dL_law_190 ?_
  refine w_scr (k := 5) C hJ1 ⟨lv_at hl 0 rfl, lv_at hl 4 rfl⟩ (hi 5 (by decide)) dL_law_191 dL_law_192 dL_law_194 dL_law_195 dL_law_196 ?_
  refine w_lcall (as := [.inl (sc xs i 1), .inl (sc xs i 2), .inl (sc xs i 3), .inl (sc xs i 4), .inl (sc xs i 5)]) (o := 8) (ci := 6) (st := [.int r]) C hJ1 h2 oX6_feed lL_25 ⟨by decide, rfl⟩ rfl (Nat.le_of_ble_eq_true rfl) ⟨by decide, by decide⟩ hcs hl.1 dL_law_197 (fun H2 locs2 hJ2 => ?_)
  refine lv_icmp_eq (tgt := 802) hx hb dL_law_200 (by decide) (fun _ => kk _ _ _ hR2 hJ2) (fun z => absurd rfl z)
theorem lc_1 (C : lwC p l s m meth c b L xs g A ob cj) (hJ : lwJ s g ob cj σ f H locs) (hR : Rl σ) (hcs : cells ≤ 1088 ∧ slots ≤ 10954) (hl : lv_has ls 7 (lwL g b ob i)) (hi : ∀ k : Int, 0 ≤ k ∧ k ≤ 5 → vp_in (i + Int32.ofInt k) L) (kk : ∀ (σ2 : rS) (H2 : Heap) (locs2 : List Loc), Rl σ2 → lwJ s g ob cj σ2 f H2 locs2 → W p l e room_1 s m #[Value.ref b] below meth c H2 locs2 cells slots Q (F0 m 802 ls [])) : W p l e room_1 s m #[Value.ref b] below meth c H locs cells slots Q (F0 m 205 ls []) := by
  have hx := C.1.1
  have hb := C.1.2.1
  obtain ⟨r, σ1, σ2, h1, h2, hR2⟩ := (b_statutes hR : both mX5_statutes mX6_statutes [.inl (sc xs i 1)] σ)
  refine lv_aload_n hx hb dL_law_205 rfl (lv_at hl 1 rfl) ?_
  refine w_scr (k := 1) C hJ ⟨lv_at hl 0 rfl, lv_at hl 4 rfl⟩ (hi 1 (by decide)) dL_law_206 dL_law_207 dL_law_209 dL_law_210 dL_law_211 ?_
  refine w_lcall (as := [.inl (sc xs i 1)]) (o := 0) (ci := 5) (st := []) C hJ h1 oX5_statutes lL_26 ⟨by decide, rfl⟩ rfl (Nat.le_of_ble_eq_true rfl) ⟨by decide, by decide⟩ hcs hl.1 dL_law_212 (fun H1 locs1 hJ1 => ?_)
  refine lv_aload_n hx hb dL_law_215 rfl (lv_at hl 2 rfl) ?_
  refine w_scr (k := 1) C hJ1 ⟨lv_at hl 0 rfl, lv_at hl 4 rfl⟩ (hi 1 (by decide)) dL_law_216 dL_law_217 dL_law_219 dL_law_220 dL_law_221 ?_
  refine w_lcall (as := [.inl (sc xs i 1)]) (o := 8) (ci := 6) (st := [.int r]) C hJ1 h2 oX6_statutes lL_30 ⟨by decide, rfl⟩ rfl (Nat.le_of_ble_eq_true rfl) ⟨by decide, by decide⟩ hcs hl.1 dL_law_222 (fun H2 locs2 hJ2 => ?_)
  refine lv_icmp_eq (tgt := 802) hx hb dL_law_225 (by decide) (fun _ => kk _ _ _ hR2 hJ2) (fun z => absurd rfl z)
theorem lc_2 (C : lwC p l s m meth c b L xs g A ob cj) (hJ : lwJ s g ob cj σ f H locs) (hR : Rl σ) (hcs : cells ≤ 1088 ∧ slots ≤ 10954) (hl : lv_has ls 7 (lwL g b ob i)) (hi : ∀ k : Int, 0 ≤ k ∧ k ≤ 5 → vp_in (i + Int32.ofInt k) L) (kk : ∀ (σ2 : rS) (H2 : Heap) (locs2 : List Loc), Rl σ2 → lwJ s g ob cj σ2 f H2 locs2 → W p l e room_1 s m #[Value.ref b] below meth c H2 locs2 cells slots Q (F0 m 802 ls [])) : W p l e room_1 s m #[Value.ref b] below meth c H locs cells slots Q (F0 m 230 ls []) := by
  have hx := C.1.1
  have hb := C.1.2.1
  obtain ⟨r, σ1, σ2, h1, h2, hR2⟩ := (b_fault hR : both mX5_fault mX6_fault [.inl (sc xs i 1)] σ)
  refine lv_aload_n hx hb dL_law_230 rfl (lv_at hl 1 rfl) ?_
  refine w_scr (k := 1) C hJ ⟨lv_at hl 0 rfl, lv_at hl 4 rfl⟩ (hi 1 (by decide)) dL_law_231 dL_law_232 dL_law_234 dL_law_235 dL_law_236 ?_
  refine w_lcall (as := [.inl (sc xs i 1)]) (o := 0) (ci := 5) (st := []) C hJ h1 oX5_fault lL_31 ⟨by decide, rfl⟩ rfl (Nat.le_of_ble_eq_true rfl) ⟨by decide, by decide⟩ hcs hl.1 dL_law_237 (fun H1 locs1 hJ1 => ?_)
  refine lv_aload_n hx hb dL_law_240 rfl (lv_at hl 2 rfl) ?_
  refine w_scr (k := 1) C hJ1 ⟨lv_at hl 0 rfl, lv_at hl 4 rfl⟩ (hi 1 (by decide)) dL_law_241 dL_law_242 dL_law_244 dL_law_245 dL_law_246 ?_
  refine w_lcall (as := [.inl (sc xs i 1)]) (o := 8) (ci := 6) (st := [.int r]) C hJ1 h2 oX6_fault lL_34 ⟨by decide, rfl⟩ rfl (Nat.le_of_ble_eq_true rfl) ⟨by decide, by decide⟩ hcs hl.1 dL_law_247 (fun H2 locs2 hJ2 => ?_)
  refine lv_icmp_eq (tgt := 802) hx hb dL_law_250 (by decide) (fun _ => kk _ _ _ hR2 hJ2) (fun z => absurd rfl z)
theorem lc_3 (C : lwC p l s m meth c b L xs g A ob cj) (hJ : lwJ s g ob cj σ f H locs) (hR : Rl σ) (hcs : cells ≤ 1088 ∧ slots ≤ 10954) (hl : lv_has ls 7 (lwL g b ob i)) (hi : ∀ k : Int, 0 ≤ k ∧ k ≤ 5 → vp_in (i + Int32.ofInt k) L) (kk : ∀ (σ2 : rS) (H2 : Heap) (locs2 : List Loc), Rl σ2 → lwJ s g ob cj σ2 f H2 locs2 → W p l e room_1 s m #[Value.ref b] below meth c H2 locs2 cells slots Q (F0 m 802 ls [])) : W p l e room_1 s m #[Value.ref b] below meth c H locs cells slots Q (F0 m 255 ls []) := by
  have hx := C.1.1
  have hb := C.1.2.1
  obtain ⟨r, σ1, σ2, h1, h2, hR2⟩ := (b_man hR : both mX5_man mX6_man [.inl (sc xs i 1), .inl (sc xs i 2)] σ)
  refine lv_aload_n hx hb dL_law_255 rfl (lv_at hl 1 rfl) ?_
  refine w_scr (k := 1) C hJ ⟨lv_at hl 0 rfl, lv_at hl 4 rfl⟩ (hi 1 (by decide)) dL_law_256 dL_law_257 dL_law_259 dL_law_260 dL_law_261 ?_
  refine w_scr (k := 2) C hJ ⟨lv_at hl 0 rfl, lv_at hl 4 rfl⟩ (hi 2 (by decide)) dL_law_262 dL_law_263 dL_law_265 dL_law_266 dL_law_267 ?_
  refine w_lcall (as := [.inl (sc xs i 1), .inl (sc xs i 2)]) (o := 0) (ci := 5) (st := []) C hJ h1 oX5_man lL_35 ⟨by decide, rfl⟩ rfl (Nat.le_of_ble_eq_true rfl) ⟨by decide, by decide⟩ hcs hl.1 dL_law_268 (fun H1 locs1 hJ1 => ?_)
  refine lv_aload_n hx hb dL_law_271 rfl (lv_at hl 2 rfl) ?_
  refine w_scr (k := 1) C hJ1 ⟨lv_at hl 0 rfl, lv_at hl 4 rfl⟩ (hi 1 (by decide)) dL_law_272 dL_law_273 dL_law_275 dL_law_276 dL_law_277 ?_
  refine w_scr (k := 2) C hJ1 ⟨lv_at hl 0 rfl, lv_at hl 4 rfl⟩ (hi 2 (by decide)) dL_law_278 dL_law_279 dL_law_281 dL_law_282 dL_law_283 ?_
  refine w_lcall (as := [.inl (sc xs i 1), .inl (sc xs i 2)]) (o := 8) (ci := 6) (st := [.int r]) C hJ1 h2 oX6_man lL_38 ⟨by decide, rfl⟩ rfl (Nat.le_of_ble_eq_true rfl) ⟨by decide, by decide⟩ hcs hl.1 dL_law_284 (fun H2 locs2 hJ2 => ?_)
  refine lv_icmp_eq (tgt := 802) hx hb dL_law_287 (by decide) (fun _ => kk _ _ _ hR2 hJ2) (fun z => absurd rfl z)
theorem lc_4 (C : lwC p l s m meth c b L xs g A ob cj) (hJ : lwJ s g ob cj σ f H locs) (hR : Rl σ) (hcs : cells ≤ 1088 ∧ slots ≤ 10954) (hl : lv_has ls 7 (lwL g b ob i)) (hi : ∀ k : Int, 0 ≤ k ∧ k ≤ 5 → vp_in (i + Int32.ofInt k) L) (kk : ∀ (σ2 : rS) (H2 : Heap) (locs2 : List Loc), Rl σ2 → lwJ s g ob cj σ2 f H2 locs2 → W p l e room_1 s m #[Value.ref b] below meth c H2 locs2 cells slots Q (F0 m 802 ls [])) : W p l e room_1 s m #[Value.ref b] below meth c H locs cells slots Q (F0 m 292 ls []) := by
  have hx := C.1.1
  have hb := C.1.2.1
  obtain ⟨r, σ1, σ2, h1, h2, hR2⟩ := (b_found hR : both mX5_found mX6_found [.inl (sc xs i 1), .inl (sc xs i 2)] σ)
  refine lv_aload_n hx hb dL_law_292 rfl (lv_at hl 1 rfl) ?_
  refine w_scr (k := 1) C hJ ⟨lv_at hl 0 rfl, lv_at hl 4 rfl⟩ (hi 1 (by decide)) dL_law_293 dL_law_294 dL_law_296 dL_law_297 dL_law_298 ?_
  refine w_scr (k := 2) C hJ ⟨lv_at hl 0 rfl, lv_at hl 4 rfl⟩ (hi 2 (by decide)) dL_law_299 dL_law_300 dL_law_302 dL_law_303 dL_law_304 ?_
  refine w_lcall (as := [.inl (sc xs i 1), .inl (sc xs i 2)]) (o := 0) (ci := 5) (st := []) C hJ h1 oX5_found lL_39 ⟨by decide, rfl⟩ rfl (Nat.le_of_ble_eq_true rfl) ⟨by decide, by decide⟩ hcs hl.1 dL_law_305 (fun H1 locs1 hJ1 => ?_)
  refine lv_aload_n hx hb dL_law_308 rfl (lv_at hl 2 rfl) ?_
  refine w_scr (k := 1) C hJ1 ⟨lv_at hl 0 rfl, lv_at hl 4 rfl⟩ (hi 1 (by decide)) dL_law_309 dL_law_310 dL_law_312 dL_law_313 dL_law_314 ?_
  refine w_scr (k := 2) C hJ1 ⟨lv_at hl 0 rfl, lv_at hl 4 rfl⟩ (hi 2 (by decide)) dL_law_315 dL_law_316 dL_law_318 dL_law_319 dL_law_320 ?_
  refine w_lcall (as := [.inl (sc xs i 1), .inl (sc xs i 2)]) (o := 8) (ci := 6) (st := [.int r]) C hJ1 h2 oX6_found lL_43 ⟨by decide, rfl⟩ rfl (Nat.le_of_ble_eq_true rfl) ⟨by decide, by decide⟩ hcs hl.1 dL_law_321 (fun H2 locs2 hJ2 => ?_)
  refine lv_icmp_eq (tgt := 802) hx hb dL_law_324 (by decide) (fun _ => kk _ _ _ hR2 hJ2) (fun z => absurd rfl z)
theorem lc_6 (C : lwC p l s m meth c b L xs g A ob cj) (hJ : lwJ s g ob cj σ f H locs) (hR : Rl σ) (hcs : cells ≤ 1088 ∧ slots ≤ 10954) (hl : lv_has ls 7 (lwL g b ob i)) (hi : ∀ k : Int, 0 ≤ k ∧ k ≤ 5 → vp_in (i + Int32.ofInt k) L) (kk : ∀ (σ2 : rS) (H2 : Heap) (locs2 : List Loc), Rl σ2 → lwJ s g ob cj σ2 f H2 locs2 → W p l e room_1 s m #[Value.ref b] below meth c H2 locs2 cells slots Q (F0 m 802 ls [])) : W p l e room_1 s m #[Value.ref b] below meth c H locs cells slots Q (F0 m 397 ls []) := by
  have hx := C.1.1
  have hb := C.1.2.1
  obtain ⟨r, σ1, σ2, h1, h2, hR2⟩ := (b_richest hR : both mX5_richest mX6_richest [.inl (sc xs i 1)] σ)
  refine lv_aload_n hx hb dL_law_397 rfl (lv_at hl 1 rfl) ?_
  refine w_scr (k := 1) C hJ ⟨lv_at hl 0 rfl, lv_at hl 4 rfl⟩ (hi 1 (by decide)) dL_law_398 dL_law_399 dL_law_401 dL_law_402 dL_law_403 ?_
  refine w_lcall (as := [.inl (sc xs i 1)]) (o := 0) (ci := 5) (st := []) C hJ h1 oX5_richest lL_54 ⟨by decide, rfl⟩ rfl (Nat.le_of_ble_eq_true rfl) ⟨by decide, by decide⟩ hcs hl.1 dL_law_404 (fun H1 locs1 hJ1 => ?_)
  refine lv_aload_n hx hb dL_law_407 rfl (lv_at hl 2 rfl) ?_
  refine w_scr (k := 1) C hJ1 ⟨lv_at hl 0 rfl, lv_at hl 4 rfl⟩ (hi 1 (by decide)) dL_law_408 dL_law_409 dL_law_411 dL_law_412 dL_law_413 ?_
  refine w_lcall (as := [.inl (sc xs i 1)]) (o := 8) (ci := 6) (st := [.int r]) C hJ1 h2 oX6_richest lL_57 ⟨by decide, rfl⟩ rfl (Nat.le_of_ble_eq_true rfl) ⟨by decide, by decide⟩ hcs hl.1 dL_law_414 (fun H2 locs2 hJ2 => ?_)
  refine lv_icmp_eq (tgt := 802) hx hb dL_law_417 (by decide) (fun _ => kk _ _ _ hR2 hJ2) (fun z => absurd rfl z)
theorem lc_7 (C : lwC p l s m meth c b L xs g A ob cj) (hJ : lwJ s g ob cj σ f H locs) (hR : Rl σ) (hcs : cells ≤ 1088 ∧ slots ≤ 10954) (hl : lv_has ls 7 (lwL g b ob i)) (hi : ∀ k : Int, 0 ≤ k ∧ k ≤ 5 → vp_in (i + Int32.ofInt k) L) (kk : ∀ (σ2 : rS) (H2 : Heap) (locs2 : List Loc), Rl σ2 → lwJ s g ob cj σ2 f H2 locs2 → W p l e room_1 s m #[Value.ref b] below meth c H2 locs2 cells slots Q (F0 m 802 ls [])) : W p l e room_1 s m #[Value.ref b] below meth c H locs cells slots Q (F0 m 422 ls []) := by
  have hx := C.1.1
  have hb := C.1.2.1
  obtain ⟨r, σ1, σ2, h1, h2, hR2⟩ := (b_place hR : both mX5_place mX6_place [.inl (sc xs i 1), .inl (sc xs i 2)] σ)
  refine lv_aload_n hx hb dL_law_422 rfl (lv_at hl 1 rfl) ?_
  refine w_scr (k := 1) C hJ ⟨lv_at hl 0 rfl, lv_at hl 4 rfl⟩ (hi 1 (by decide)) dL_law_423 dL_law_424 dL_law_426 dL_law_427 dL_law_428 ?_
  refine w_scr (k := 2) C hJ ⟨lv_at hl 0 rfl, lv_at hl 4 rfl⟩ (hi 2 (by decide)) dL_law_429 dL_law_430 dL_law_432 dL_law_433 dL_law_434 ?_
  refine w_lcall (as := [.inl (sc xs i 1), .inl (sc xs i 2)]) (o := 0) (ci := 5) (st := []) C hJ h1 oX5_place lL_58 ⟨by decide, rfl⟩ rfl (Nat.le_of_ble_eq_true rfl) ⟨by decide, by decide⟩ hcs hl.1 dL_law_435 (fun H1 locs1 hJ1 => ?_)
  refine lv_aload_n hx hb dL_law_438 rfl (lv_at hl 2 rfl) ?_
  refine w_scr (k := 1) C hJ1 ⟨lv_at hl 0 rfl, lv_at hl 4 rfl⟩ (hi 1 (by decide)) dL_law_439 dL_law_440 dL_law_442 dL_law_443 dL_law_444 ?_
  refine w_scr (k := 2) C hJ1 ⟨lv_at hl 0 rfl, lv_at hl 4 rfl⟩ (hi 2 (by decide)) dL_law_445 dL_law_446 dL_law_448 dL_law_449 dL_law_450 ?_
  refine w_lcall (as := [.inl (sc xs i 1), .inl (sc xs i 2)]) (o := 8) (ci := 6) (st := [.int r]) C hJ1 h2 oX6_place lL_61 ⟨by decide, rfl⟩ rfl (Nat.le_of_ble_eq_true rfl) ⟨by decide, by decide⟩ hcs hl.1 dL_law_451 (fun H2 locs2 hJ2 => ?_)
  refine lv_icmp_eq (tgt := 802) hx hb dL_law_454 (by decide) (fun _ => kk _ _ _ hR2 hJ2) (fun z => absurd rfl z)
theorem lc_8 (C : lwC p l s m meth c b L xs g A ob cj) (hJ : lwJ s g ob cj σ f H locs) (hR : Rl σ) (hcs : cells ≤ 1088 ∧ slots ≤ 10954) (hl : lv_has ls 7 (lwL g b ob i)) (hi : ∀ k : Int, 0 ≤ k ∧ k ≤ 5 → vp_in (i + Int32.ofInt k) L) (kk : ∀ (σ2 : rS) (H2 : Heap) (locs2 : List Loc), Rl σ2 → lwJ s g ob cj σ2 f H2 locs2 → W p l e room_1 s m #[Value.ref b] below meth c H2 locs2 cells slots Q (F0 m 802 ls [])) : W p l e room_1 s m #[Value.ref b] below meth c H locs cells slots Q (F0 m 459 ls []) := by
  have hx := C.1.1
  have hb := C.1.2.1
  obtain ⟨r, σ1, σ2, h1, h2, hR2⟩ := (b_begin hR : both mX5_begin mX6_begin [] σ)
  refine lv_aload_n hx hb dL_law_459 rfl (lv_at hl 1 rfl) ?_
  refine w_lcall (as := []) (o := 0) (ci := 5) (st := []) C hJ h1 oX5_begin lL_62 ⟨by decide, rfl⟩ rfl (Nat.le_of_ble_eq_true rfl) ⟨by decide, by decide⟩ hcs hl.1 dL_law_460 (fun H1 locs1 hJ1 => ?_)
  refine lv_aload_n hx hb dL_law_463 rfl (lv_at hl 2 rfl) ?_
  refine w_lcall (as := []) (o := 8) (ci := 6) (st := [.int r]) C hJ1 h2 oX6_begin lL_65 ⟨by decide, rfl⟩ rfl (Nat.le_of_ble_eq_true rfl) ⟨by decide, by decide⟩ hcs hl.1 dL_law_464 (fun H2 locs2 hJ2 => ?_)
  refine lv_icmp_eq (tgt := 802) hx hb dL_law_467 (by decide) (fun _ => kk _ _ _ hR2 hJ2) (fun z => absurd rfl z)
theorem lc_9 (C : lwC p l s m meth c b L xs g A ob cj) (hJ : lwJ s g ob cj σ f H locs) (hR : Rl σ) (hcs : cells ≤ 1088 ∧ slots ≤ 10954) (hl : lv_has ls 7 (lwL g b ob i)) (hi : ∀ k : Int, 0 ≤ k ∧ k ≤ 5 → vp_in (i + Int32.ofInt k) L) (kk : ∀ (σ2 : rS) (H2 : Heap) (locs2 : List Loc), Rl σ2 → lwJ s g ob cj σ2 f H2 locs2 → W p l e room_1 s m #[Value.ref b] below meth c H2 locs2 cells slots Q (F0 m 802 ls [])) : W p l e room_1 s m #[Value.ref b] below meth c H locs cells slots Q (F0 m 472 ls []) := by
  have hx := C.1.1
  have hb := C.1.2.1
  obtain ⟨r, σ1, σ2, h1, h2, hR2⟩ := (b_pass hR : both mX5_pass mX6_pass [.inl (sc xs i 1)] σ)
  refine lv_aload_n hx hb dL_law_472 rfl (lv_at hl 1 rfl) ?_
  refine w_scr (k := 1) C hJ ⟨lv_at hl 0 rfl, lv_at hl 4 rfl⟩ (hi 1 (by decide)) dL_law_473 dL_law_474 dL_law_476 dL_law_477 dL_law_478 ?_
  refine w_lcall (as := [.inl (sc xs i 1)]) (o := 0) (ci := 5) (st := []) C hJ h1 oX5_pass lL_66 ⟨by decide, rfl⟩ rfl (Nat.le_of_ble_eq_true rfl) ⟨by decide, by decide⟩ hcs hl.1 dL_law_479 (fun H1 locs1 hJ1 => ?_)
  refine lv_aload_n hx hb dL_law_482 rfl (lv_at hl 2 rfl) ?_
  refine w_scr (k := 1) C hJ1 ⟨lv_at hl 0 rfl, lv_at hl 4 rfl⟩ (hi 1 (by decide)) dL_law_483 dL_law_484 dL_law_486 dL_law_487 dL_law_488 ?_
  refine w_lcall (as := [.inl (sc xs i 1)]) (o := 8) (ci := 6) (st := [.int r]) C hJ1 h2 oX6_pass lL_69 ⟨by decide, rfl⟩ rfl (Nat.le_of_ble_eq_true rfl) ⟨by decide, by decide⟩ hcs hl.1 dL_law_489 (fun H2 locs2 hJ2 => ?_)
  refine lv_icmp_eq (tgt := 802) hx hb dL_law_492 (by decide) (fun _ => kk _ _ _ hR2 hJ2) (fun z => absurd rfl z)
theorem lc_10 (C : lwC p l s m meth c b L xs g A ob cj) (hJ : lwJ s g ob cj σ f H locs) (hR : Rl σ) (hcs : cells ≤ 1088 ∧ slots ≤ 10954) (hl : lv_has ls 7 (lwL g b ob i)) (hi : ∀ k : Int, 0 ≤ k ∧ k ≤ 5 → vp_in (i + Int32.ofInt k) L) (kk : ∀ (σ2 : rS) (H2 : Heap) (locs2 : List Loc), Rl σ2 → lwJ s g ob cj σ2 f H2 locs2 → W p l e room_1 s m #[Value.ref b] below meth c H2 locs2 cells slots Q (F0 m 802 ls [])) : W p l e room_1 s m #[Value.ref b] below meth c H locs cells slots Q (F0 m 497 ls []) := by
  have hx := C.1.1
  have hb := C.1.2.1
  obtain ⟨r, σ1, σ2, h1, h2, hR2⟩ := (b_challenge hR : both mX5_challenge mX6_challenge [.inl (sc xs i 1), .inl (sc xs i 2)] σ)
  refine lv_aload_n hx hb dL_law_497 rfl (lv_at hl 1 rfl) ?_
  refine w_scr (k := 1) C hJ ⟨lv_at hl 0 rfl, lv_at hl 4 rfl⟩ (hi 1 (by decide)) dL_law_498 dL_law_499 dL_law_501 dL_law_502 dL_law_503 ?_
  refine w_scr (k := 2) C hJ ⟨lv_at hl 0 rfl, lv_at hl 4 rfl⟩ (hi 2 (by decide)) dL_law_504 dL_law_505 dL_law_507 dL_law_508 dL_law_509 ?_
  refine w_lcall (as := [.inl (sc xs i 1), .inl (sc xs i 2)]) (o := 0) (ci := 5) (st := []) C hJ h1 oX5_challenge lL_70 ⟨by decide, rfl⟩ rfl (Nat.le_of_ble_eq_true rfl) ⟨by decide, by decide⟩ hcs hl.1 dL_law_510 (fun H1 locs1 hJ1 => ?_)
  refine lv_aload_n hx hb dL_law_513 rfl (lv_at hl 2 rfl) ?_
  refine w_scr (k := 1) C hJ1 ⟨lv_at hl 0 rfl, lv_at hl 4 rfl⟩ (hi 1 (by decide)) dL_law_514 dL_law_515 dL_law_517 dL_law_518 dL_law_519 ?_
  refine w_scr (k := 2) C hJ1 ⟨lv_at hl 0 rfl, lv_at hl 4 rfl⟩ (hi 2 (by decide)) dL_law_520 dL_law_521 dL_law_523 dL_law_524 dL_law_525 ?_
  refine w_lcall (as := [.inl (sc xs i 1), .inl (sc xs i 2)]) (o := 8) (ci := 6) (st := [.int r]) C hJ1 h2 oX6_challenge lL_73 ⟨by decide, rfl⟩ rfl (Nat.le_of_ble_eq_true rfl) ⟨by decide, by decide⟩ hcs hl.1 dL_law_526 (fun H2 locs2 hJ2 => ?_)
  refine lv_icmp_eq (tgt := 802) hx hb dL_law_529 (by decide) (fun _ => kk _ _ _ hR2 hJ2) (fun z => absurd rfl z)
theorem lc_11 (C : lwC p l s m meth c b L xs g A ob cj) (hJ : lwJ s g ob cj σ f H locs) (hR : Rl σ) (hcs : cells ≤ 1088 ∧ slots ≤ 10954) (hl : lv_has ls 7 (lwL g b ob i)) (hi : ∀ k : Int, 0 ≤ k ∧ k ≤ 5 → vp_in (i + Int32.ofInt k) L) (kk : ∀ (σ2 : rS) (H2 : Heap) (locs2 : List Loc), Rl σ2 → lwJ s g ob cj σ2 f H2 locs2 → W p l e room_1 s m #[Value.ref b] below meth c H2 locs2 cells slots Q (F0 m 802 ls [])) : W p l e room_1 s m #[Value.ref b] below meth c H locs cells slots Q (F0 m 534 ls []) := by
  have hx := C.1.1
  have hb := C.1.2.1
  obtain ⟨r, σ1, σ2, h1, h2, hR2⟩ := (b_answer hR : both mX5_answer mX6_answer [.inl (sc xs i 1), .inl (if sc xs i 2 = 0 then 0 else 1)] σ)
  refine lv_aload_n hx hb dL_law_534 rfl (lv_at hl 1 rfl) ?_
  refine w_scr (k := 1) C hJ ⟨lv_at hl 0 rfl, lv_at hl 4 rfl⟩ (hi 1 (by decide)) dL_law_535 dL_law_536 dL_law_538 dL_law_539 dL_law_540 ?_
  refine w_scr (k := 2) C hJ ⟨lv_at hl 0 rfl, lv_at hl 4 rfl⟩ (hi 2 (by decide)) dL_law_541 dL_law_542 dL_law_544 dL_law_545 dL_law_546 ?_
  refine w_bool C dL_law_547 dL_law_550 dL_law_551 dL_law_554 ?_
  refine w_lcall (as := [.inl (sc xs i 1), .inl (if sc xs i 2 = 0 then 0 else 1)]) (o := 0) (ci := 5) (st := []) C hJ h1 oX5_answer lL_74 ⟨by decide, rfl⟩ rfl (Nat.le_of_ble_eq_true rfl) ⟨by decide, by decide⟩ hcs hl.1 dL_law_555 (fun H1 locs1 hJ1 => ?_)
  refine lv_aload_n hx hb dL_law_558 rfl (lv_at hl 2 rfl) ?_
  refine w_scr (k := 1) C hJ1 ⟨lv_at hl 0 rfl, lv_at hl 4 rfl⟩ (hi 1 (by decide)) dL_law_559 dL_law_560 dL_law_562 dL_law_563 dL_law_564 ?_
  refine w_scr (k := 2) C hJ1 ⟨lv_at hl 0 rfl, lv_at hl 4 rfl⟩ (hi 2 (by decide)) dL_law_565 dL_law_566 dL_law_568 dL_law_569 dL_law_570 ?_
  refine w_bool C dL_law_571 dL_law_574 dL_law_575 dL_law_578 ?_
  refine w_lcall (as := [.inl (sc xs i 1), .inl (if sc xs i 2 = 0 then 0 else 1)]) (o := 8) (ci := 6) (st := [.int r]) C hJ1 h2 oX6_answer lL_78 ⟨by decide, rfl⟩ rfl (Nat.le_of_ble_eq_true rfl) ⟨by decide, by decide⟩ hcs hl.1 dL_law_579 (fun H2 locs2 hJ2 => ?_)
  refine lv_icmp_eq (tgt := 802) hx hb dL_law_582 (by decide) (fun _ => kk _ _ _ hR2 hJ2) (fun z => absurd rfl z)
theorem lc_12 (C : lwC p l s m meth c b L xs g A ob cj) (hJ : lwJ s g ob cj σ f H locs) (hR : Rl σ) (hcs : cells ≤ 1088 ∧ slots ≤ 10954) (hl : lv_has ls 7 (lwL g b ob i)) (hi : ∀ k : Int, 0 ≤ k ∧ k ≤ 5 → vp_in (i + Int32.ofInt k) L) (kk : ∀ (σ2 : rS) (H2 : Heap) (locs2 : List Loc), Rl σ2 → lwJ s g ob cj σ2 f H2 locs2 → W p l e room_1 s m #[Value.ref b] below meth c H2 locs2 cells slots Q (F0 m 802 ls [])) : W p l e room_1 s m #[Value.ref b] below meth c H locs cells slots Q (F0 m 587 ls []) := by
  have hx := C.1.1
  have hb := C.1.2.1
  obtain ⟨r, σ1, σ2, h1, h2, hR2⟩ := (b_swear hR : both mX5_swear mX6_swear [.inl (sc xs i 1), .inl (if sc xs i 2 = 0 then 0 else 1)] σ)
  refine lv_aload_n hx hb dL_law_587 rfl (lv_at hl 1 rfl) ?_
  refine w_scr (k := 1) C hJ ⟨lv_at hl 0 rfl, lv_at hl 4 rfl⟩ (hi 1 (by decide)) dL_law_588 dL_law_589 dL_law_591 dL_law_592 dL_law_593 ?_
  refine w_scr (k := 2) C hJ ⟨lv_at hl 0 rfl, lv_at hl 4 rfl⟩ (hi 2 (by decide)) dL_law_594 dL_law_595 dL_law_597 dL_law_598 dL_law_599 ?_
  refine w_bool C dL_law_600 dL_law_603 dL_law_604 dL_law_607 ?_
  refine w_lcall (as := [.inl (sc xs i 1), .inl (if sc xs i 2 = 0 then 0 else 1)]) (o := 0) (ci := 5) (st := []) C hJ h1 oX5_swear lL_79 ⟨by decide, rfl⟩ rfl (Nat.le_of_ble_eq_true rfl) ⟨by decide, by decide⟩ hcs hl.1 dL_law_608 (fun H1 locs1 hJ1 => ?_)
  refine lv_aload_n hx hb dL_law_611 rfl (lv_at hl 2 rfl) ?_
  refine w_scr (k := 1) C hJ1 ⟨lv_at hl 0 rfl, lv_at hl 4 rfl⟩ (hi 1 (by decide)) dL_law_612 dL_law_613 dL_law_615 dL_law_616 dL_law_617 ?_
  refine w_scr (k := 2) C hJ1 ⟨lv_at hl 0 rfl, lv_at hl 4 rfl⟩ (hi 2 (by decide)) dL_law_618 dL_law_619 dL_law_621 dL_law_622 dL_law_623 ?_
  refine w_bool C dL_law_624 dL_law_627 dL_law_628 dL_law_631 ?_
  refine w_lcall (as := [.inl (sc xs i 1), .inl (if sc xs i 2 = 0 then 0 else 1)]) (o := 8) (ci := 6) (st := [.int r]) C hJ1 h2 oX6_swear lL_82 ⟨by decide, rfl⟩ rfl (Nat.le_of_ble_eq_true rfl) ⟨by decide, by decide⟩ hcs hl.1 dL_law_632 (fun H2 locs2 hJ2 => ?_)
  refine lv_icmp_eq (tgt := 802) hx hb dL_law_635 (by decide) (fun _ => kk _ _ _ hR2 hJ2) (fun z => absurd rfl z)
theorem lc_13 (C : lwC p l s m meth c b L xs g A ob cj) (hJ : lwJ s g ob cj σ f H locs) (hR : Rl σ) (hcs : cells ≤ 1088 ∧ slots ≤ 10954) (hl : lv_has ls 7 (lwL g b ob i)) (hi : ∀ k : Int, 0 ≤ k ∧ k ≤ 5 → vp_in (i + Int32.ofInt k) L) (kk : ∀ (σ2 : rS) (H2 : Heap) (locs2 : List Loc), Rl σ2 → lwJ s g ob cj σ2 f H2 locs2 → W p l e room_1 s m #[Value.ref b] below meth c H2 locs2 cells slots Q (F0 m 802 ls [])) : W p l e room_1 s m #[Value.ref b] below meth c H locs cells slots Q (F0 m 640 ls []) := by
  have hx := C.1.1
  have hb := C.1.2.1
  obtain ⟨r, σ1, σ2, h1, h2, hR2⟩ := (b_told hR : both mX5_told mX6_told [.inl (sc xs i 1), .inl (sc xs i 2)] σ)
  refine lv_aload_n hx hb dL_law_640 rfl (lv_at hl 1 rfl) ?_
  refine w_scr (k := 1) C hJ ⟨lv_at hl 0 rfl, lv_at hl 4 rfl⟩ (hi 1 (by decide)) dL_law_641 dL_law_642 dL_law_644 dL_law_645 dL_law_646 ?_
  refine w_scr (k := 2) C hJ ⟨lv_at hl 0 rfl, lv_at hl 4 rfl⟩ (hi 2 (by decide)) dL_law_647 dL_law_648 dL_law_650 dL_law_651 dL_law_652 ?_
  refine w_lcall (as := [.inl (sc xs i 1), .inl (sc xs i 2)]) (o := 0) (ci := 5) (st := []) C hJ h1 oX5_told lL_83 ⟨by decide, rfl⟩ rfl (Nat.le_of_ble_eq_true rfl) ⟨by decide, by decide⟩ hcs hl.1 dL_law_653 (fun H1 locs1 hJ1 => ?_)
  refine lv_aload_n hx hb dL_law_656 rfl (lv_at hl 2 rfl) ?_
  refine w_scr (k := 1) C hJ1 ⟨lv_at hl 0 rfl, lv_at hl 4 rfl⟩ (hi 1 (by decide)) dL_law_657 dL_law_658 dL_law_660 dL_law_661 dL_law_662 ?_
  refine w_scr (k := 2) C hJ1 ⟨lv_at hl 0 rfl, lv_at hl 4 rfl⟩ (hi 2 (by decide)) dL_law_663 dL_law_664 dL_law_666 dL_law_667 dL_law_668 ?_
  refine w_lcall (as := [.inl (sc xs i 1), .inl (sc xs i 2)]) (o := 8) (ci := 6) (st := [.int r]) C hJ1 h2 oX6_told lL_86 ⟨by decide, rfl⟩ rfl (Nat.le_of_ble_eq_true rfl) ⟨by decide, by decide⟩ hcs hl.1 dL_law_669 (fun H2 locs2 hJ2 => ?_)
  refine lv_icmp_eq (tgt := 802) hx hb dL_law_672 (by decide) (fun _ => kk _ _ _ hR2 hJ2) (fun z => absurd rfl z)
theorem lc_14 (C : lwC p l s m meth c b L xs g A ob cj) (hJ : lwJ s g ob cj σ f H locs) (hR : Rl σ) (hcs : cells ≤ 1088 ∧ slots ≤ 10954) (hl : lv_has ls 7 (lwL g b ob i)) (hi : ∀ k : Int, 0 ≤ k ∧ k ≤ 5 → vp_in (i + Int32.ofInt k) L) (kk : ∀ (σ2 : rS) (H2 : Heap) (locs2 : List Loc), Rl σ2 → lwJ s g ob cj σ2 f H2 locs2 → W p l e room_1 s m #[Value.ref b] below meth c H2 locs2 cells slots Q (F0 m 802 ls [])) : W p l e room_1 s m #[Value.ref b] below meth c H locs cells slots Q (F0 m 677 ls []) := by
  have hx := C.1.1
  have hb := C.1.2.1
  obtain ⟨r, σ1, σ2, h1, h2, hR2⟩ := (b_end hR : both mX5_end mX6_end [] σ)
  refine lv_aload_n hx hb dL_law_677 rfl (lv_at hl 1 rfl) ?_
  refine w_lcall (as := []) (o := 0) (ci := 5) (st := []) C hJ h1 oX5_end lL_87 ⟨by decide, rfl⟩ rfl (Nat.le_of_ble_eq_true rfl) ⟨by decide, by decide⟩ hcs hl.1 dL_law_678 (fun H1 locs1 hJ1 => ?_)
  refine lv_aload_n hx hb dL_law_681 rfl (lv_at hl 2 rfl) ?_
  refine w_lcall (as := []) (o := 8) (ci := 6) (st := [.int r]) C hJ1 h2 oX6_end lL_90 ⟨by decide, rfl⟩ rfl (Nat.le_of_ble_eq_true rfl) ⟨by decide, by decide⟩ hcs hl.1 dL_law_682 (fun H2 locs2 hJ2 => ?_)
  refine lv_icmp_eq (tgt := 802) hx hb dL_law_685 (by decide) (fun _ => kk _ _ _ hR2 hJ2) (fun z => absurd rfl z)
theorem lc_15 (C : lwC p l s m meth c b L xs g A ob cj) (hJ : lwJ s g ob cj σ f H locs) (hR : Rl σ) (hcs : cells ≤ 1088 ∧ slots ≤ 10954) (hl : lv_has ls 7 (lwL g b ob i)) (hi : ∀ k : Int, 0 ≤ k ∧ k ≤ 5 → vp_in (i + Int32.ofInt k) L) (kk : ∀ (σ2 : rS) (H2 : Heap) (locs2 : List Loc), Rl σ2 → lwJ s g ob cj σ2 f H2 locs2 → W p l e room_1 s m #[Value.ref b] below meth c H2 locs2 cells slots Q (F0 m 802 ls [])) : W p l e room_1 s m #[Value.ref b] below meth c H locs cells slots Q (F0 m 690 ls []) := by
  have hx := C.1.1
  have hb := C.1.2.1
  obtain ⟨r, σ1, σ2, h1, h2, hR2⟩ := (b_part hR : both mX5_part mX6_part [.inl (sc xs i 1)] σ)
  refine lv_aload_n hx hb dL_law_690 rfl (lv_at hl 1 rfl) ?_
  refine w_scr (k := 1) C hJ ⟨lv_at hl 0 rfl, lv_at hl 4 rfl⟩ (hi 1 (by decide)) dL_law_691 dL_law_692 dL_law_694 dL_law_695 dL_law_696 ?_
  refine w_lcall (as := [.inl (sc xs i 1)]) (o := 0) (ci := 5) (st := []) C hJ h1 oX5_part lL_91 ⟨by decide, rfl⟩ rfl (Nat.le_of_ble_eq_true rfl) ⟨by decide, by decide⟩ hcs hl.1 dL_law_697 (fun H1 locs1 hJ1 => ?_)
  refine lv_aload_n hx hb dL_law_700 rfl (lv_at hl 2 rfl) ?_
  refine w_scr (k := 1) C hJ1 ⟨lv_at hl 0 rfl, lv_at hl 4 rfl⟩ (hi 1 (by decide)) dL_law_701 dL_law_702 dL_law_704 dL_law_705 dL_law_706 ?_
  refine w_lcall (as := [.inl (sc xs i 1)]) (o := 8) (ci := 6) (st := [.int r]) C hJ1 h2 oX6_part lL_94 ⟨by decide, rfl⟩ rfl (Nat.le_of_ble_eq_true rfl) ⟨by decide, by decide⟩ hcs hl.1 dL_law_707 (fun H2 locs2 hJ2 => ?_)
  refine lv_icmp_eq (tgt := 802) hx hb dL_law_710 (by decide) (fun _ => kk _ _ _ hR2 hJ2) (fun z => absurd rfl z)
theorem lc_16 (C : lwC p l s m meth c b L xs g A ob cj) (hJ : lwJ s g ob cj σ f H locs) (hR : Rl σ) (hcs : cells ≤ 1088 ∧ slots ≤ 10954) (hl : lv_has ls 7 (lwL g b ob i)) (hi : ∀ k : Int, 0 ≤ k ∧ k ≤ 5 → vp_in (i + Int32.ofInt k) L) (kk : ∀ (σ2 : rS) (H2 : Heap) (locs2 : List Loc), Rl σ2 → lwJ s g ob cj σ2 f H2 locs2 → W p l e room_1 s m #[Value.ref b] below meth c H2 locs2 cells slots Q (F0 m 802 ls [])) : W p l e room_1 s m #[Value.ref b] below meth c H locs cells slots Q (F0 m 715 ls []) := by
  have hx := C.1.1
  have hb := C.1.2.1
  obtain ⟨r, σ1, σ2, h1, h2, hR2⟩ := (b_gain hR : both mX5_gain mX6_gain [.inl (sc xs i 1), .inl (sc xs i 2)] σ)
  refine lv_aload_n hx hb dL_law_715 rfl (lv_at hl 1 rfl) ?_
  refine w_scr (k := 1) C hJ ⟨lv_at hl 0 rfl, lv_at hl 4 rfl⟩ (hi 1 (by decide)) dL_law_716 dL_law_717 dL_law_719 dL_law_720 dL_law_721 ?_
  refine w_scr (k := 2) C hJ ⟨lv_at hl 0 rfl, lv_at hl 4 rfl⟩ (hi 2 (by decide)) dL_law_722 dL_law_723 dL_law_725 dL_law_726 dL_law_727 ?_
  refine w_lcall (as := [.inl (sc xs i 1), .inl (sc xs i 2)]) (o := 0) (ci := 5) (st := []) C hJ h1 oX5_gain lL_95 ⟨by decide, rfl⟩ rfl (Nat.le_of_ble_eq_true rfl) ⟨by decide, by decide⟩ hcs hl.1 dL_law_728 (fun H1 locs1 hJ1 => ?_)
  refine lv_aload_n hx hb dL_law_731 rfl (lv_at hl 2 rfl) ?_
  refine w_scr (k := 1) C hJ1 ⟨lv_at hl 0 rfl, lv_at hl 4 rfl⟩ (hi 1 (by decide)) dL_law_732 dL_law_733 dL_law_735 dL_law_736 dL_law_737 ?_
  refine w_scr (k := 2) C hJ1 ⟨lv_at hl 0 rfl, lv_at hl 4 rfl⟩ (hi 2 (by decide)) dL_law_738 dL_law_739 dL_law_741 dL_law_742 dL_law_743 ?_
  refine w_lcall (as := [.inl (sc xs i 1), .inl (sc xs i 2)]) (o := 8) (ci := 6) (st := [.int r]) C hJ1 h2 oX6_gain lL_98 ⟨by decide, rfl⟩ rfl (Nat.le_of_ble_eq_true rfl) ⟨by decide, by decide⟩ hcs hl.1 dL_law_744 (fun H2 locs2 hJ2 => ?_)
  refine lv_icmp_eq (tgt := 802) hx hb dL_law_747 (by decide) (fun _ => kk _ _ _ hR2 hJ2) (fun z => absurd rfl z)
theorem lc_17 (C : lwC p l s m meth c b L xs g A ob cj) (hJ : lwJ s g ob cj σ f H locs) (hR : Rl σ) (hcs : cells ≤ 1088 ∧ slots ≤ 10954) (hl : lv_has ls 7 (lwL g b ob i)) (hi : ∀ k : Int, 0 ≤ k ∧ k ≤ 5 → vp_in (i + Int32.ofInt k) L) (kk : ∀ (σ2 : rS) (H2 : Heap) (locs2 : List Loc), Rl σ2 → lwJ s g ob cj σ2 f H2 locs2 → W p l e room_1 s m #[Value.ref b] below meth c H2 locs2 cells slots Q (F0 m 802 ls [])) : W p l e room_1 s m #[Value.ref b] below meth c H locs cells slots Q (F0 m 752 ls []) := by
  have hx := C.1.1
  have hb := C.1.2.1
  obtain ⟨r, σ1, σ2, h1, h2, hR2⟩ := (b_ahead hR : both mX5_ahead mX6_ahead [.inl (sc xs i 1)] σ)
  refine lv_aload_n hx hb dL_law_752 rfl (lv_at hl 1 rfl) ?_
  refine w_scr (k := 1) C hJ ⟨lv_at hl 0 rfl, lv_at hl 4 rfl⟩ (hi 1 (by decide)) dL_law_753 dL_law_754 dL_law_756 dL_law_757 dL_law_758 ?_
  refine w_lcall (as := [.inl (sc xs i 1)]) (o := 0) (ci := 5) (st := []) C hJ h1 oX5_ahead lL_99 ⟨by decide, rfl⟩ rfl (Nat.le_of_ble_eq_true rfl) ⟨by decide, by decide⟩ hcs hl.1 dL_law_759 (fun H1 locs1 hJ1 => ?_)
  refine lv_aload_n hx hb dL_law_762 rfl (lv_at hl 2 rfl) ?_
  refine w_scr (k := 1) C hJ1 ⟨lv_at hl 0 rfl, lv_at hl 4 rfl⟩ (hi 1 (by decide)) dL_law_763 dL_law_764 dL_law_766 dL_law_767 dL_law_768 ?_
  refine w_lcall (as := [.inl (sc xs i 1)]) (o := 8) (ci := 6) (st := [.int r]) C hJ1 h2 oX6_ahead lL_102 ⟨by decide, rfl⟩ rfl (Nat.le_of_ble_eq_true rfl) ⟨by decide, by decide⟩ hcs hl.1 dL_law_769 (fun H2 locs2 hJ2 => ?_)
  refine lv_icmp_eq (tgt := 802) hx hb dL_law_772 (by decide) (fun _ => kk _ _ _ hR2 hJ2) (fun z => absurd rfl z)
theorem lc_18 (C : lwC p l s m meth c b L xs g A ob cj) (hJ : lwJ s g ob cj σ f H locs) (hR : Rl σ) (hcs : cells ≤ 1088 ∧ slots ≤ 10954) (hl : lv_has ls 7 (lwL g b ob i)) (hi : ∀ k : Int, 0 ≤ k ∧ k ≤ 5 → vp_in (i + Int32.ofInt k) L) (kk : ∀ (σ2 : rS) (H2 : Heap) (locs2 : List Loc), Rl σ2 → lwJ s g ob cj σ2 f H2 locs2 → W p l e room_1 s m #[Value.ref b] below meth c H2 locs2 cells slots Q (F0 m 802 ls [])) : W p l e room_1 s m #[Value.ref b] below meth c H locs cells slots Q (F0 m 777 ls []) := by
  have hx := C.1.1
  have hb := C.1.2.1
  obtain ⟨r, σ1, σ2, h1, h2, hR2⟩ := (b_count hR : both mX5_count mX6_count [.inl (sc xs i 1)] σ)
  refine lv_aload_n hx hb dL_law_777 rfl (lv_at hl 1 rfl) ?_
  refine w_scr (k := 1) C hJ ⟨lv_at hl 0 rfl, lv_at hl 4 rfl⟩ (hi 1 (by decide)) dL_law_778 dL_law_779 dL_law_781 dL_law_782 dL_law_783 ?_
  refine w_lcall (as := [.inl (sc xs i 1)]) (o := 0) (ci := 5) (st := []) C hJ h1 oX5_count lL_103 ⟨by decide, rfl⟩ rfl (Nat.le_of_ble_eq_true rfl) ⟨by decide, by decide⟩ hcs hl.1 dL_law_784 (fun H1 locs1 hJ1 => ?_)
  refine lv_aload_n hx hb dL_law_787 rfl (lv_at hl 2 rfl) ?_
  refine w_scr (k := 1) C hJ1 ⟨lv_at hl 0 rfl, lv_at hl 4 rfl⟩ (hi 1 (by decide)) dL_law_788 dL_law_789 dL_law_791 dL_law_792 dL_law_793 ?_
  refine w_lcall (as := [.inl (sc xs i 1)]) (o := 8) (ci := 6) (st := [.int r]) C hJ1 h2 oX6_count lL_106 ⟨by decide, rfl⟩ rfl (Nat.le_of_ble_eq_true rfl) ⟨by decide, by decide⟩ hcs hl.1 dL_law_794 (fun H2 locs2 hJ2 => ?_)
  refine lv_icmp_eq (tgt := 802) hx hb dL_law_797 (by decide) (fun _ => kk _ _ _ hR2 hJ2) (fun z => absurd rfl z)
end LAW
