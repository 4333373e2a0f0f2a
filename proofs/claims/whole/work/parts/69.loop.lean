/-! the law: look, and the loop -/
theorem iniL : Cond.initialized yL_look.cls ∈ gW := gW_in (List.mem_of_getElem? (i := 43) (by decide +kernel)) rfl
theorem stL : Cond.static yL_look ∈ gW := gW_in (List.mem_of_getElem? (i := 702) (by decide +kernel)) rfl
theorem lL_44 : Cond.methodLink RL 44 yL_look ∈ gW := gW_in (List.mem_of_getElem? (i := 701) (by decide +kernel)) rfl
theorem lkLen : (parseMethodDescriptor yL_look.desc).map (fun d => d.parameters.length) = some 4 := by decide +kernel
theorem lw_le {L j : Nat} {i : Int32} (hL : L ≤ 3072) (hj : 6 * j ≤ L) (ei : i = nI (6 * j)) (z : ¬ (Int32.ofNat L - 6 < i)) : 6 * j + 6 ≤ L := by
  subst ei
  by_cases h6 : 6 ≤ L
  · have e1 : Int32.ofNat L - 6 = nI (L - 6) := by
      have e2 : nI (L - 6) + nI 6 = nI L := by rw [nI_add, Nat.sub_add_cancel h6]
      show nI L - nI 6 = _
      rw [← e2, Int32.add_sub_cancel]
    rw [e1] at z
    by_cases h : 6 * j + 6 ≤ L
    · exact h
    · exact absurd (nI_lt (a := L - 6) (b := 6 * j) (by omega) (by omega)) z
  · have hj0 : j = 0 := by omega
    subst hj0
    exfalso
    apply z
    rcases (show L = 0 ∨ L = 1 ∨ L = 2 ∨ L = 3 ∨ L = 4 ∨ L = 5 by omega) with rfl | rfl | rfl | rfl | rfl | rfl <;> decide
theorem lw_in {L j : Nat} {i : Int32} (hL : L ≤ 3072) (h6 : 6 * j + 6 ≤ L) (ei : i = nI (6 * j)) (k : Int) (hk : 0 ≤ k ∧ k ≤ 5) : vp_in (i + Int32.ofInt k) L := by
  subst ei
  have go : ∀ n : Nat, n ≤ 5 → Int32.ofInt k = nI n → vp_in (nI (6 * j) + Int32.ofInt k) L := by
    intro n hn e
    rw [e, nI_add]
    exact vp_in_nI (by omega) (by omega)
  rcases (show k = 0 ∨ k = 1 ∨ k = 2 ∨ k = 3 ∨ k = 4 ∨ k = 5 by omega) with rfl | rfl | rfl | rfl | rfl | rfl
  · exact go 0 (by omega) (by decide)
  · exact go 1 (by omega) (by decide)
  · exact go 2 (by omega) (by decide)
  · exact go 3 (by omega) (by decide)
  · exact go 4 (by omega) (by decide)
  · exact go 5 (by omega) (by decide)
section LAW2
variable {p : Program} {l : Launch} {e : Env} {s : State} {m : MethodId} {below : List Frame} {meth : Method} {c : Code} {b L : Nat} {xs : Nat → Int32} {g : rG} {A : Nat → Prop} {ob : Nat} {cj : ClassId}
variable {H : Heap} {locs : List Loc} {cells slots : Nat} {Q : State → Prop} {σ : rS} {f : Nat → Int64} {ls : Array Slot} {i : Int32} {pc : Nat} {st : List Value}
theorem w_lcmpE {R : Room} {args : Array Value} {cc : ByteArray} {x : Int64} {rest : List Value} (hexec : p.tables.exec = Jvm.exec) (hb : c.code = cc) (hdg : decode cc pc = .ok (.lcmp, 1)) (k : W p l e R s m args below meth c H locs cells slots Q (F0 m (pc + 1) ls (.int 0 :: rest))) : W p l e R s m args below meth c H locs cells slots Q (F0 m pc ls (.long x :: .long x :: rest)) := by
  intro T hT X
  obtain ⟨t, a, b⟩ := k T hT X
  refine ⟨t, ?_, b⟩
  jvm_step X.here [X.here.top, hexec, hb, hdg]
  first
    | exact a
    | (rw [if_neg (Int64.lt_irrefl x)]; exact a)
    | (simp only [Int64.lt_irrefl, if_false, if_true]; exact a)
    | (simp; exact a)
theorem w_look {man w k r : Int32} (C : lwC p l s m meth c b L xs g A ob cj) (hJ : lwJ s g ob cj σ f H locs) (hk : (¬ hasM σ 3 man ∧ k = 1) ∨ (hasM σ 3 man ∧ (w < 0 ∨ 5 < w) ∧ k = 2) ∨ (k = 0 ∧ Ct mX5_look [.inr (0, 0), .inl man, .inl w] σ (some (.inl r)) σ)) (hcs : cells + 1 ≤ 1088 ∧ slots + 6 ≤ 10954) (hsz : ls.size = 7)
    (kk : ∀ (f' : Nat → Int64) (H1 : Heap) (locs1 : List Loc) (cells1 slots1 : Nat), lwJ s g ob cj σ f' H1 locs1 → cells1 ≤ cells + 1 → slots1 ≤ slots + 6 → (k = 0 → f' 0 = r.toInt64) → W p l e room_1 s m #[Value.ref b] below meth c H1 locs1 cells1 slots1 Q (F0 m 346 ls [.int k])) :
    W p l e room_1 s m #[Value.ref b] below meth c H locs cells slots Q (F0 m 343 ls [.ref ob, .int w, .int man, .ref (g.2.2 (0, 0))]) := by
  obtain ⟨hx, hb, hr0, hml, hown, hts, hX, hbl, hlocks, hgv⟩ := C.1
  obtain ⟨-, hlz, hK, hxw, hD, hA, hob, hKJ, hNc⟩ := id C
  have hPre : ∀ U : State, U.heap = H → s.WarmedH U.vm → lkP g A man w σ ob cj f #[.ref (g.2.2 (0, 0)), .int man, .int w, .ref ob] U := fun U hU hW => ⟨rfl, by rw [hU]; exact hJ.1, hD σ, by rw [hU]; exact hK.at hJ.2.2 (fun q h => Or.inl (Nat.not_lt.mpr h)) hW, by rw [hU]; exact hxw.to hW.alike (fun a h1 h2 => hJ.2.2.2.1 a h1 (fun z => absurd h1 (Nat.not_lt.mpr z))), hob.2, by rw [hU]; exact hJ.2.1, hKJ.moved hW.alike, hNc.moved hW.alike⟩
  have go : ∀ (rm : Room) (mc ms : Nat) (f' : Nat → Int64), Met l yL_look lkW rm (lkP g A man w σ ob cj f) (lkQ g A σ ob cj f' k) mc ms (lkA A ob) → rm.cells = mc → rm.slots = ms → rm.frames = 9 → rm.locals = 200 → mc ≤ 1 → ms ≤ 6 → (k = 0 → f' 0 = r.toInt64) → W p l e room_1 s m #[Value.ref b] below meth c H locs cells slots Q (F0 m 343 ls [.ref ob, .int w, .int man, .ref (g.2.2 (0, 0))]) := by
    intro rm mc ms f' hM h1 h2 h3 h4 h5 h6 hf
    have hgood : ∀ w ∈ lkW, ∀ (a' : Array Value) (U : State), s.WarmedH U.vm → w.before a' U = true := by
      intro w hw a' U hW
      have hg : w ∈ gW := by
        rcases List.mem_cons.mp hw with rfl | h1
        · exact lkW_in
        · exact h1
      exact word_at hW (good_of_word (List.mem_filter.mp hg).2) (C.ht w hg)
    have hlen : ∀ sig, parseMethodDescriptor yL_look.desc = some sig → 4 = sig.parameters.length := by
      intro sig hs
      have h2 := lkLen
      rw [hs] at h2
      exact (Option.some.inj h2).symm
    have hr := vx_runSW (p := p) (l := l) (e := e) (R := room_1) (s := s) (m := m) (args := #[Value.ref b]) (below := below) (meth := meth) (c := c) (H := H) (locs := locs) (cells := cells) (slots := slots) (g := F0 m 343 ls [.ref ob, .int w, .int man, .ref (g.2.2 (0, 0))]) (As := [.ref (g.2.2 (0, 0)), .int man, .int w, .ref ob]) (rest := []) (cc := code) (nL := 7) (n := 4) (own := RL) (Ts := gW) (hh := lkHh) (bytes := cL_look) (maxL := 5) (ret := some .int) (index := 44) ⟨hx, hb, hml, hown, C.ht⟩ hM ⟨⟨h1, h2, by rw [h3]; decide, by rw [h4]; decide, hgood, List.mem_cons_self⟩, C.ht _ lkW_in, C.ht _ iniL, ⟨by decide, by decide⟩, hlen, C.ht _ lL_44, C.ht _ stL⟩ ⟨lkP_blind g A man w σ ob cj f, hPre⟩ rfl rfl hsz rfl (lv_room (Nat.le_of_ble_eq_true rfl)) dL_law_343 ⟨by show cells + mc ≤ 1088; omega, by show slots + ms ≤ 10954; omega⟩
    intro T hT X9
    obtain ⟨v9, st₀, t, T', L9, h0, X', hL9, e1, e2, ⟨hv, hP1, hJ1, hF1⟩, stp⟩ := hr T hT X9
    have hv9 : v9 = some (.int k) := by cases hv; rfl
    subst hv9
    rw [va_F, h0] at hF1
    have hS1 : va_S (lwA s) s.heap T'.heap (locs ++ L9) := by
      refine ⟨Nat.le_trans hJ.2.2.1 (by rw [e1]; exact hF1.1), fun q h1 h2 => ?_, fun q hq => ?_⟩
      · rw [e1, hF1.2 q (Nat.lt_of_lt_of_le h1 hJ.2.2.1) (fun z => z.elim (fun y => h2 (hA q y)) (fun y => h2 (by rw [y]; exact hob.1)))]
        exact hJ.2.2.2.1 q h1 h2
      · rcases List.mem_append.mp hq with h | h
        · exact hJ.2.2.2.2 q h
        · exact (hL9 q h).elim (fun y => hA _ y) (fun y => by rw [y]; exact hob.1)
    obtain ⟨t2, a1, b1⟩ := kk f' T'.heap (locs ++ L9) (cells + mc) (slots + ms) ⟨by rw [e1]; exact hP1, by rw [e1]; exact hJ1, hS1⟩ (by omega) (by omega) hf T' rfl X'
    exact ⟨t2, stp t2 a1, b1⟩
  rcases hk with h | h | ⟨h, hC⟩
  · exact go rmLT 1 6 f (mLookT hlz (Or.inl h)) rfl rfl rfl rfl (by omega) (by omega) (fun z => absurd (h.2.symm.trans z) (by decide))
  · exact go rmLT 1 6 f (mLookT hlz (Or.inr h)) rfl rfl rfl rfl (by omega) (by omega) (fun z => absurd (h.2.2.symm.trans z) (by decide))
  · subst h
    exact go rmLR 0 0 _ (mLookR hC) rfl rfl rfl rfl (by omega) (by omega) (fun _ => by simp [vp_updL])
theorem lc_5 (C : lwC p l s m meth c b L xs g A ob cj) (hJ : lwJ s g ob cj σ f H locs) (hR : Rl σ) (hcs : cells + 1 ≤ 1088 ∧ slots + 6 ≤ 10954) (hl : lv_has ls 7 (lwL g b ob i)) (hi : ∀ k : Int, 0 ≤ k ∧ k ≤ 5 → vp_in (i + Int32.ofInt k) L)
    (kk : ∀ (σ2 : rS) (f2 : Nat → Int64) (H2 : Heap) (locs2 : List Loc) (cells2 slots2 : Nat) (ls2 : Array Slot), Rl σ2 → lwJ s g ob cj σ2 f2 H2 locs2 → cells2 ≤ cells + 1 → slots2 ≤ slots + 6 → lv_has ls2 7 (lwL g b ob i) → W p l e room_1 s m #[Value.ref b] below meth c H2 locs2 cells2 slots2 Q (F0 m 802 ls2 [])) : W p l e room_1 s m #[Value.ref b] below meth c H locs cells slots Q (F0 m 329 ls []) := by
  have hx := C.1.1
  have hb := C.1.2.1
  obtain ⟨-, hlz, hK, hxw, hD, hA, hob, hKJ, hNc⟩ := id C
  obtain ⟨r, k, σ2, h1, h2, hR2, hk⟩ := b_look (man := sc xs i 1) (w := sc xs i 2) hR
  refine lv_aload_n hx hb dL_law_329 rfl (lv_at hl 1 rfl) ?_
  refine w_scr (k := 1) C hJ ⟨lv_at hl 0 rfl, lv_at hl 4 rfl⟩ (hi 1 (by decide)) dL_law_330 dL_law_331 dL_law_333 dL_law_334 dL_law_335 ?_
  refine w_scr (k := 2) C hJ ⟨lv_at hl 0 rfl, lv_at hl 4 rfl⟩ (hi 2 (by decide)) dL_law_336 dL_law_337 dL_law_339 dL_law_340 dL_law_341 ?_
  refine lv_aload_n hx hb dL_law_342 rfl (lv_at hl 3 rfl) ?_
  refine w_look C hJ hk hcs hl.1 (fun f1 H1 locs1 cells1 slots1 hJ1 hc1 hs1 hf => ?_)
  refine lv_istore (x := k) (lv' := (5, .int k) :: lwL g b ob i) hx hb dL_law_346 hl (by decide) rfl (fun ls1 hl1 => ?_)
  refine lv_aload_n hx hb dL_law_348 rfl (lv_at hl1 3 rfl) ?_
  refine w_scr (k := 1) C hJ1 ⟨lv_at hl1 1 rfl, lv_at hl1 5 rfl⟩ (hi 1 (by decide)) dL_law_349 dL_law_350 dL_law_352 dL_law_353 dL_law_354 ?_
  refine w_scr (k := 2) C hJ1 ⟨lv_at hl1 1 rfl, lv_at hl1 5 rfl⟩ (hi 2 (by decide)) dL_law_355 dL_law_356 dL_law_358 dL_law_359 dL_law_360 ?_
  refine w_lcall (as := [.inl (sc xs i 1), .inl (sc xs i 2)]) (o := 8) (ci := 6) (st := []) C hJ1 h1 oX6_look lL_49 ⟨by decide, rfl⟩ rfl (Nat.le_of_ble_eq_true rfl) ⟨by decide, by decide⟩ ⟨by omega, by omega⟩ hl1.1 dL_law_361 (fun H2 locs2 hJ2 => ?_)
  refine lv_istore (x := r) (lv' := (6, .int r) :: (5, .int k) :: lwL g b ob i) hx hb dL_law_364 hl1 (by decide) rfl (fun ls2 hl2 => ?_)
  refine lv_aload_n hx hb dL_law_366 rfl (lv_at hl2 4 rfl) ?_
  refine w_lcall (as := []) (o := 8) (ci := 6) (st := []) C hJ2 h2 oX6_thrown lL_50 ⟨by decide, rfl⟩ rfl (Nat.le_of_ble_eq_true rfl) ⟨by decide, by decide⟩ ⟨by omega, by omega⟩ hl2.1 dL_law_367 (fun H3 locs3 hJ3 => ?_)
  refine lv_iload hx hb dL_law_370 (lv_at hl2 1 rfl) ?_
  refine lv_icmp_eq (tgt := 377) hx hb dL_law_372 (by decide) (fun _ => ?_) (fun z => absurd rfl z)
  refine lv_iload hx hb dL_law_377 (lv_at hl2 1 rfl) ?_
  have fin : W p l e room_1 s m #[Value.ref b] below meth c H3 locs3 cells1 slots1 Q (F0 m 394 ls2 []) := lv_goto (tgt := 802) hx hb dL_law_394 (by decide) (kk σ2 f1 H3 locs3 cells1 slots1 ls2 hR2 hJ3 hc1 hs1 (lv_sub hl2 [2, 3, 4, 5, 6] rfl))
  refine lv_if_ne (tgt := 394) hx hb dL_law_379 (by decide) (fun _ => fin) (fun z => ?_)
  refine lv_aload_n hx hb dL_law_382 rfl (lv_at hl2 5 rfl) ?_
  refine lv_iconst (v := 0) hx hb dL_law_383 (by decide) ?_
  have hPJ : va_P g.1 vwCl [(ob, .inl (cj, 1, .inr (.inl f1)))] H3 := by
    intro k q hk
    cases k with
    | zero => cases hk; exact hJ3.2.1
    | succ k => cases hk
  refine va_lald (f := f1) hx hb hKJ hPJ 0 0 rfl rfl (by show ¬ ((0 : Int32) < 0 ∨ 1 ≤ 0); decide) dL_law_384 ?_
  refine lv_iload hx hb dL_law_385 (lv_at hl2 0 rfl) ?_
  refine lv_i2l hx hb dL_law_387 rfl ?_
  rw [show f1 (0 : Int32).toNatClampNeg = r.toInt64 from hf z]
  refine w_lcmpE hx hb dL_law_388 ?_
  exact lv_if_eq (tgt := 394) hx hb dL_law_389 (by decide) (fun _ => fin) (fun z => absurd rfl z)
set_option maxHeartbeats 4000000 in
theorem law_loop (hL : L ≤ 3072) (C : lwC p l s m meth c b L xs g A ob cj) : ∀ (n j : Nat) (i : Int32), 6 * j ≤ L → L + 1 ≤ 6 * j + n → i = nI (6 * j) → ∀ (σ : rS) (f : Nat → Int64) (H : Heap) (locs : List Loc) (cells slots : Nat) (ls : Array Slot), Rl σ → lwJ s g ob cj σ f H locs → cells ≤ 63 + j → slots ≤ 2800 + 6 * j → lv_has ls 7 (lwL g b ob i) → W p l e room_1 s m #[Value.ref b] below meth c H locs cells slots (lw_Z below #[Value.ref b] s) (F0 m 23 ls []) := by
  obtain ⟨hx, hb, hr, hml, hown, hts, hX, hbl, hlocks, hgv⟩ := C.1
  intro n
  induction n with
  | zero =>
    intro j i h1 h2
    exact absurd h2 (by omega)
  | succ n ih =>
    intro j i hj hn ei σ f H locs cells slots ls hR hJ hcl hsl hl
    refine lv_iload hx hb dL_law_23 (lv_at hl 4 rfl) ?_
    refine lv_aload_n hx hb dL_law_25 rfl (lv_at hl 0 rfl) ?_
    refine va_slen hx hb hX hbl (A := lwA s) (Nat.not_le.mpr hbl) hJ.2.2 dL_law_26 ?_
    refine lv_bipush (v := 6) hx hb dL_law_27 (by decide) ?_
    refine lv_isub hx hb dL_law_29 ?_
    refine lv_icmp_gt (tgt := 808) hx hb dL_law_30 (by decide) (fun _ => ?_) (fun z => ?_)
    · refine lv_iconst (v := 1) hx hb dL_law_808 (by decide) ?_
      refine va_forget (fun q hq => hJ.2.2.2.2 q hq) ?_
      refine W.widen (k := 1088) (n := 10954) (by omega) (by omega) ?_
      exact lw_ret hx hb hr hlocks dL_law_809
    · have h6 : 6 * j + 6 ≤ L := lw_le hL hj ei z
      have hi : ∀ k : Int, 0 ≤ k ∧ k ≤ 5 → vp_in (i + Int32.ofInt k) L := lw_in hL h6 ei
      have hi0 : vp_in i L := by rw [ei]; exact vp_in_nI (by omega) (by omega)
      have k802 : ∀ (σ2 : rS) (f2 : Nat → Int64) (H2 : Heap) (locs2 : List Loc) (cells2 slots2 : Nat) (ls2 : Array Slot), Rl σ2 → lwJ s g ob cj σ2 f2 H2 locs2 → cells2 ≤ cells + 1 → slots2 ≤ slots + 6 → lv_has ls2 7 (lwL g b ob i) → W p l e room_1 s m #[Value.ref b] below meth c H2 locs2 cells2 slots2 (lw_Z below #[Value.ref b] s) (F0 m 802 ls2 []) := by
        intro σ2 f2 H2 locs2 cells2 slots2 ls2 hR2 hJ2 hc2 hs2 hl2
        refine lv_iinc (v := nI (6 * (j + 1))) (lv' := [(4, .int (nI (6 * (j + 1)))), (0, .ref b), (1, .ref (g.2.2 (0, 0))), (2, .ref (g.2.2 (8, 0))), (3, .ref ob)]) hx hb dL_law_802 hl2 (k := 4) rfl (by rw [ei, show Int32.ofInt 6 = nI 6 by decide, nI_add]; rfl) (by decide) rfl (fun ls3 hl3 => ?_)
        refine lv_goto (tgt := 23) hx hb dL_law_805 (by decide) ?_
        exact ih (j + 1) _ (by omega) (by omega) rfl σ2 f2 H2 locs2 cells2 slots2 ls3 hR2 hJ2 (by omega) (by omega) (lv_sub hl3 [1, 2, 3, 4, 0] rfl)
      refine lv_aload_n hx hb dL_law_33 rfl (lv_at hl 0 rfl) ?_
      refine lv_iload hx hb dL_law_34 (lv_at hl 4 rfl) ?_
      refine va_sld hx hb hX hbl (A := lwA s) (Nat.not_le.mpr hbl) hJ.2.2 hi0 dL_law_36 ?_
      refine lv_bipush (v := 31) hx hb dL_law_37 (by decide) ?_
      refine lv_iand hx hb dL_law_39 ?_
      generalize xs i.toNatClampNeg &&& 31 = x
      by_cases ho : x.toInt < 0 ∨ 18 < x.toInt
      · exact lv_tableOut (tgt := 802) hx hb dL_law_40 ho (by decide) (k802 σ f H locs cells slots ls hR hJ (by omega) (by omega) hl)
      · have hd : x.toInt = 0 ∨ x.toInt = 1 ∨ x.toInt = 2 ∨ x.toInt = 3 ∨ x.toInt = 4 ∨ x.toInt = 5 ∨ x.toInt = 6 ∨ x.toInt = 7 ∨ x.toInt = 8 ∨ x.toInt = 9 ∨ x.toInt = 10 ∨ x.toInt = 11 ∨ x.toInt = 12 ∨ x.toInt = 13 ∨ x.toInt = 14 ∨ x.toInt = 15 ∨ x.toInt = 16 ∨ x.toInt = 17 ∨ x.toInt = 18 := by omega
        rcases hd with h | h | h | h | h | h | h | h | h | h | h | h | h | h | h | h | h | h | h
        · refine lv_tableIn (off := 92) (tgt := 132) hx hb dL_law_40 (by rw [h]; decide) (by rw [h]; decide) (by rw [h]; rfl) (by decide) ?_
          exact lc_0 C hJ hR ⟨by omega, by omega⟩ hl hi (fun σ2 H2 locs2 h1 h2 => k802 σ2 f H2 locs2 cells slots ls h1 h2 (by omega) (by omega) hl)
        · refine lv_tableIn (off := 165) (tgt := 205) hx hb dL_law_40 (by rw [h]; decide) (by rw [h]; decide) (by rw [h]; rfl) (by decide) ?_
          exact lc_1 C hJ hR ⟨by omega, by omega⟩ hl hi (fun σ2 H2 locs2 h1 h2 => k802 σ2 f H2 locs2 cells slots ls h1 h2 (by omega) (by omega) hl)
        · refine lv_tableIn (off := 190) (tgt := 230) hx hb dL_law_40 (by rw [h]; decide) (by rw [h]; decide) (by rw [h]; rfl) (by decide) ?_
          exact lc_2 C hJ hR ⟨by omega, by omega⟩ hl hi (fun σ2 H2 locs2 h1 h2 => k802 σ2 f H2 locs2 cells slots ls h1 h2 (by omega) (by omega) hl)
        · refine lv_tableIn (off := 215) (tgt := 255) hx hb dL_law_40 (by rw [h]; decide) (by rw [h]; decide) (by rw [h]; rfl) (by decide) ?_
          exact lc_3 C hJ hR ⟨by omega, by omega⟩ hl hi (fun σ2 H2 locs2 h1 h2 => k802 σ2 f H2 locs2 cells slots ls h1 h2 (by omega) (by omega) hl)
        · refine lv_tableIn (off := 252) (tgt := 292) hx hb dL_law_40 (by rw [h]; decide) (by rw [h]; decide) (by rw [h]; rfl) (by decide) ?_
          exact lc_4 C hJ hR ⟨by omega, by omega⟩ hl hi (fun σ2 H2 locs2 h1 h2 => k802 σ2 f H2 locs2 cells slots ls h1 h2 (by omega) (by omega) hl)
        · refine lv_tableIn (off := 289) (tgt := 329) hx hb dL_law_40 (by rw [h]; decide) (by rw [h]; decide) (by rw [h]; rfl) (by decide) ?_
          exact lc_5 C hJ hR ⟨by omega, by omega⟩ hl hi k802
        · refine lv_tableIn (off := 357) (tgt := 397) hx hb dL_law_40 (by rw [h]; decide) (by rw [h]; decide) (by rw [h]; rfl) (by decide) ?_
          exact lc_6 C hJ hR ⟨by omega, by omega⟩ hl hi (fun σ2 H2 locs2 h1 h2 => k802 σ2 f H2 locs2 cells slots ls h1 h2 (by omega) (by omega) hl)
        · refine lv_tableIn (off := 382) (tgt := 422) hx hb dL_law_40 (by rw [h]; decide) (by rw [h]; decide) (by rw [h]; rfl) (by decide) ?_
          exact lc_7 C hJ hR ⟨by omega, by omega⟩ hl hi (fun σ2 H2 locs2 h1 h2 => k802 σ2 f H2 locs2 cells slots ls h1 h2 (by omega) (by omega) hl)
        · refine lv_tableIn (off := 419) (tgt := 459) hx hb dL_law_40 (by rw [h]; decide) (by rw [h]; decide) (by rw [h]; rfl) (by decide) ?_
          exact lc_8 C hJ hR ⟨by omega, by omega⟩ hl hi (fun σ2 H2 locs2 h1 h2 => k802 σ2 f H2 locs2 cells slots ls h1 h2 (by omega) (by omega) hl)
        · refine lv_tableIn (off := 432) (tgt := 472) hx hb dL_law_40 (by rw [h]; decide) (by rw [h]; decide) (by rw [h]; rfl) (by decide) ?_
          exact lc_9 C hJ hR ⟨by omega, by omega⟩ hl hi (fun σ2 H2 locs2 h1 h2 => k802 σ2 f H2 locs2 cells slots ls h1 h2 (by omega) (by omega) hl)
        · refine lv_tableIn (off := 457) (tgt := 497) hx hb dL_law_40 (by rw [h]; decide) (by rw [h]; decide) (by rw [h]; rfl) (by decide) ?_
          exact lc_10 C hJ hR ⟨by omega, by omega⟩ hl hi (fun σ2 H2 locs2 h1 h2 => k802 σ2 f H2 locs2 cells slots ls h1 h2 (by omega) (by omega) hl)
        · refine lv_tableIn (off := 494) (tgt := 534) hx hb dL_law_40 (by rw [h]; decide) (by rw [h]; decide) (by rw [h]; rfl) (by decide) ?_
          exact lc_11 C hJ hR ⟨by omega, by omega⟩ hl hi (fun σ2 H2 locs2 h1 h2 => k802 σ2 f H2 locs2 cells slots ls h1 h2 (by omega) (by omega) hl)
        · refine lv_tableIn (off := 547) (tgt := 587) hx hb dL_law_40 (by rw [h]; decide) (by rw [h]; decide) (by rw [h]; rfl) (by decide) ?_
          exact lc_12 C hJ hR ⟨by omega, by omega⟩ hl hi (fun σ2 H2 locs2 h1 h2 => k802 σ2 f H2 locs2 cells slots ls h1 h2 (by omega) (by omega) hl)
        · refine lv_tableIn (off := 600) (tgt := 640) hx hb dL_law_40 (by rw [h]; decide) (by rw [h]; decide) (by rw [h]; rfl) (by decide) ?_
          exact lc_13 C hJ hR ⟨by omega, by omega⟩ hl hi (fun σ2 H2 locs2 h1 h2 => k802 σ2 f H2 locs2 cells slots ls h1 h2 (by omega) (by omega) hl)
        · refine lv_tableIn (off := 637) (tgt := 677) hx hb dL_law_40 (by rw [h]; decide) (by rw [h]; decide) (by rw [h]; rfl) (by decide) ?_
          exact lc_14 C hJ hR ⟨by omega, by omega⟩ hl hi (fun σ2 H2 locs2 h1 h2 => k802 σ2 f H2 locs2 cells slots ls h1 h2 (by omega) (by omega) hl)
        · refine lv_tableIn (off := 650) (tgt := 690) hx hb dL_law_40 (by rw [h]; decide) (by rw [h]; decide) (by rw [h]; rfl) (by decide) ?_
          exact lc_15 C hJ hR ⟨by omega, by omega⟩ hl hi (fun σ2 H2 locs2 h1 h2 => k802 σ2 f H2 locs2 cells slots ls h1 h2 (by omega) (by omega) hl)
        · refine lv_tableIn (off := 675) (tgt := 715) hx hb dL_law_40 (by rw [h]; decide) (by rw [h]; decide) (by rw [h]; rfl) (by decide) ?_
          exact lc_16 C hJ hR ⟨by omega, by omega⟩ hl hi (fun σ2 H2 locs2 h1 h2 => k802 σ2 f H2 locs2 cells slots ls h1 h2 (by omega) (by omega) hl)
        · refine lv_tableIn (off := 712) (tgt := 752) hx hb dL_law_40 (by rw [h]; decide) (by rw [h]; decide) (by rw [h]; rfl) (by decide) ?_
          exact lc_17 C hJ hR ⟨by omega, by omega⟩ hl hi (fun σ2 H2 locs2 h1 h2 => k802 σ2 f H2 locs2 cells slots ls h1 h2 (by omega) (by omega) hl)
        · refine lv_tableIn (off := 737) (tgt := 777) hx hb dL_law_40 (by rw [h]; decide) (by rw [h]; decide) (by rw [h]; rfl) (by decide) ?_
          exact lc_18 C hJ hR ⟨by omega, by omega⟩ hl hi (fun σ2 H2 locs2 h1 h2 => k802 σ2 f H2 locs2 cells slots ls h1 h2 (by omega) (by omega) hl)
end LAW2
