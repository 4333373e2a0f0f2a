/-! the law from its entry -/
theorem lL_17 : Cond.methodLink RL 17 (mY mX5_init) ∈ gW := gW_in (List.mem_of_getElem? (i := 63) (by decide +kernel)) rfl
theorem lL_20 : Cond.methodLink RL 20 (mY mX6_init) ∈ gW := gW_in (List.mem_of_getElem? (i := 803) (by decide +kernel)) rfl
theorem cL_8 : Cond.classLink RL 8 RX5 ∈ gW := gW_in (List.mem_of_getElem? (i := 61) (by decide +kernel)) rfl
theorem cL_18 : Cond.classLink RL 18 RX6 ∈ gW := gW_in (List.mem_of_getElem? (i := 801) (by decide +kernel)) rfl
theorem xbw_tbl : ∀ w ∈ xbw, w ∈ lw_tbl := by
  intro w hw
  simp only [xbw, List.mem_cons, List.not_mem_nil, or_false] at hw
  rcases hw with rfl | rfl | rfl | rfl | rfl
  · exact List.mem_of_getElem? (i := 712) (by decide +kernel)
  · exact List.mem_of_getElem? (i := 787) (by decide +kernel)
  · exact List.mem_of_getElem? (i := 714) (by decide +kernel)
  · exact List.mem_of_getElem? (i := 716) (by decide +kernel)
  · exact List.mem_of_getElem? (i := 718) (by decide +kernel)
theorem va_D_all {g : rG} {A0 : Nat → Prop} {wr : va_W} (h : va_D A0 (rw_ g sig0 ++ wr)) (σ : rS) : va_D (fun q => ∃ (k : Nat) (e : va_E), (rw_ g sig0)[k]? = some (q, e)) (rw_ g σ) := by
  have key : ∀ (k : Nat) (x : Nat × va_E), (rw_ g σ)[k]? = some x → ∃ e, (rw_ g sig0)[k]? = some (x.1, e) := by
    intro k x hx
    unfold rw_ at hx ⊢
    rw [List.getElem?_map] at hx ⊢
    cases hc : cL[k]? with
    | none => rw [hc] at hx; cases hx
    | some y => rw [hc] at hx; cases hx; exact ⟨_, rfl⟩
  have left : ∀ (k : Nat) (x : Nat × va_E), (rw_ g sig0)[k]? = some x → (rw_ g sig0 ++ wr)[k]? = some x := fun k x h => by rw [List.getElem?_append_left (List.getElem?_eq_some_iff.mp h).1]; exact h
  refine ⟨fun i j p q hi hj e => ?_, fun k q hk => ?_⟩
  · obtain ⟨e1, h1⟩ := key i p hi
    obtain ⟨e2, h2⟩ := key j q hj
    exact h.1 i j _ _ (left _ _ h1) (left _ _ h2) e
  · obtain ⟨e1, h1⟩ := key k q hk
    exact ⟨k, e1, h1⟩
theorem D_start {s : State} {b : Nat} (ht : ∀ w ∈ gW, w.before #[Value.ref b] s = true) : ∃ (D : va_G) (ca : Nat → ClassId), ∀ f : Nat × Nat → Nat, va_K D vwCl (rT (D, ca, f)) s := by
  obtain ⟨D, hKc⟩ : ∃ D : va_G, ∀ (k : Nat) (q : vw_C), vwCl[k]? = some q → u_Kn s q.1 q.2.1 q.2.2 (D.1 k) (D.2 k) := by
    obtain ⟨c0, i0, h0⟩ := u_known (C := RX0) (T := TX0) (N := 9) ht kX0.2.2.1 (ht _ nwX0)
    obtain ⟨c1, i1, h1⟩ := u_known (C := RX1) (T := TX1) (N := 6) ht kX1.2.2.1 (ht _ nwX1)
    obtain ⟨c2, i2, h2⟩ := u_known (C := RX2) (T := TX2) (N := 8) ht kX2.2.2.1 (ht _ nwX2)
    obtain ⟨c3, i3, h3⟩ := u_known (C := RX3) (T := TX3) (N := 5) ht kX3.2.2.1 (ht _ nwX3)
    obtain ⟨c4, i4, h4⟩ := u_known (C := RX4) (T := TX4) (N := 2) ht kX4.2.2.1 (ht _ nwX4)
    obtain ⟨c5, i5, h5⟩ := u_known (C := RX5) (T := TX5) (N := 11) ht kX5.2.2.1 (ht _ nwX5)
    obtain ⟨c6, i6, h6⟩ := u_known (C := RX6) (T := TX6) (N := 37) ht kX6.2.2.1 (ht _ nwX6)
    refine ⟨(fun k => match k with | 0 => c0 | 1 => c1 | 2 => c2 | 3 => c3 | 4 => c4 | 5 => c5 | _ => c6, fun k => match k with | 0 => i0 | 1 => i1 | 2 => i2 | 3 => i3 | 4 => i4 | 5 => i5 | _ => i6), ?_⟩
    intro k q hq
    match k, hq with
    | 0, hq => cases hq; exact h0
    | 1, hq => cases hq; exact h1
    | 2, hq => cases hq; exact h2
    | 3, hq => cases hq; exact h3
    | 4, hq => cases hq; exact h4
    | 5, hq => cases hq; exact h5
    | 6, hq => cases hq; exact h6
    | k + 7, hq => simp [vwCl] at hq
  obtain ⟨aI, hI1, hI2⟩ := arr_is (ht _ w_arr_int) (fun x h => h)
  obtain ⟨aB, hB1, hB2⟩ := arr_is (ht _ w_arr_byte) (fun x h => h)
  obtain ⟨aZ, hZ1, hZ2⟩ := arr_is (ht _ w_arr_boolean) (fun x h => h)
  refine ⟨D, (fun k => match k with | 0 => aI | 1 => aI | 2 => aB | _ => aZ), fun f => ⟨hKc, fun k q hk => ?_⟩⟩
  match k, hk with
  | 0, hk => cases hk; exact ⟨hI1, hI2⟩
  | 1, hk => cases hk; exact ⟨hI1, hI2⟩
  | 2, hk => cases hk; exact ⟨hB1, hB2⟩
  | 3, hk => cases hk; exact ⟨hZ1, hZ2⟩
  | k + 4, hk => simp [rT] at hk
abbrev hs8 (hs : Nat → Nat) (h : Nat) : Nat → Nat := fun o => if o = 8 then h else hs o
abbrev qs8 (qs : Nat → Nat → Nat) (q : Nat → Nat) : Nat → Nat → Nat := fun o => if o = 8 then q else qs o
abbrev fAll (hs : Nat → Nat) (qs : Nat → Nat → Nat) (adK adV : Nat → Nat) : Nat × Nat → Nat := fun x => if x.1 < 9 then adr hs qs x else if x.2 = 0 then adK (x.1 - 100) else adV (x.1 - 100)
theorem fAll_K {hs : Nat → Nat} {qs : Nat → Nat → Nat} {adK adV : Nat → Nat} (i : Nat) : fAll hs qs adK adV (100 + i, 0) = adK i := by
  show (if 100 + i < 9 then _ else if 0 = 0 then adK (100 + i - 100) else _) = adK i
  rw [if_neg (by omega), if_pos rfl, Nat.add_sub_cancel_left]
theorem fAll_V {hs : Nat → Nat} {qs : Nat → Nat → Nat} {adK adV : Nat → Nat} (i : Nat) : fAll hs qs adK adV (100 + i, 1) = adV i := by
  show (if 100 + i < 9 then _ else if 1 = 0 then _ else adV (100 + i - 100)) = adV i
  rw [if_neg (by omega), if_neg (by omega), Nat.add_sub_cancel_left]
theorem C_start {p : Program} {l : Launch} {s : State} {m : MethodId} {meth : Method} {c : Code} {b L : Nat} {xs : Nat → Int32} {D : va_G} {ca : Nat → ClassId} {hs : Nat → Nat} {qs : Nat → Nat → Nat} {adK adV : Nat → Nat} {ob : Nat} {cj : ClassId} {en : va_E} (hlz : l.stackTraces = false) (C0 : lw_At p s m meth c b L xs) (hKs : ∀ f, va_K D vwCl (rT (D, ca, f)) s) (hSt : vk_S 9 sLn sBy adK adV (lwA s) s s.heap) (hRs : ∀ i : Nat, i < 9 → vk_R (sOw.getD i "") (sIx.getD i 0) (sTx.getD i "") (adK i) s) (hZ1 : va_Z "java/lang/String" "COMPACT_STRINGS" "Z" (.int 1) (lwA s) s s.heap) (hZ2 : va_Zq "jdk/internal/util/Preconditions" "SIOOBE_FORMATTER" "Ljava/util/function/BiFunction;" (lwA s) s s.heap) (hZ3 : vx_Zq "java/lang/Throwable" "UNASSIGNED_STACK" "[Ljava/lang/StackTraceElement;" (lwA s) s s.heap) (hZ4 : vx_Zq "java/lang/Throwable" "SUPPRESSED_SENTINEL" "Ljava/util/List;" (lwA s) s s.heap)
    (hD : va_D (lwA s) (rw_ (D, ca, fAll hs qs adK adV) sig0 ++ [(ob, en)])) (hKJ : va_K D vwCl [(cj, .long)] s) : ∃ A, lwC p l s m meth c b L xs (D, ca, fAll hs qs adK adV) A ob cj := by
  have left : ∀ (k : Nat) (x : Nat × va_E), (rw_ (D, ca, fAll hs qs adK adV) sig0)[k]? = some x → (rw_ (D, ca, fAll hs qs adK adV) sig0 ++ [(ob, en)])[k]? = some x := fun k x h => by rw [List.getElem?_append_left (List.getElem?_eq_some_iff.mp h).1]; exact h
  have lst : (rw_ (D, ca, fAll hs qs adK adV) sig0 ++ [(ob, en)])[(rw_ (D, ca, fAll hs qs adK adV) sig0).length]? = some (ob, en) := by rw [List.getElem?_append_right (Nat.le_refl _), Nat.sub_self]; rfl
  have hAA : ∀ q, (∃ (k : Nat) (e : va_E), (rw_ (D, ca, fAll hs qs adK adV) sig0)[k]? = some (q, e)) → lwA s q := fun q ⟨k, e, h⟩ => hD.2 k _ (left k _ h)
  have e1 : (fun i => fAll hs qs adK adV (100 + i, 0)) = adK := funext fAll_K
  have e2 : (fun i => fAll hs qs adK adV (100 + i, 1)) = adV := funext fAll_V
  have hts := C0.2.2.2.2.2.1
  refine ⟨_, C0, hlz, ⟨hKs _, ?_, ?_, hZ1.narrow hAA, hZ2.narrow hAA, hZ3.1.narrow hAA, hZ4.1.narrow hAA⟩, ⟨fun w hw => xbw_at (Vm.Alike.refl s.vm) hw (hts w (xbw_tbl w hw)), hZ3.2.narrow hAA, hZ4.2.narrow hAA⟩, fun σ => va_D_all hD σ, hAA, ⟨hD.2 _ _ lst, fun ⟨k, e, h⟩ => ?_⟩, hKJ, va_Nc.of (flat_of_before _ C0.2.2.2.2.2.2.2.2.2 _ fZ_nc)⟩
  · show vk_S 9 sLn sBy (fun i => fAll hs qs adK adV (100 + i, 0)) (fun i => fAll hs qs adK adV (100 + i, 1)) _ s s.heap
    rw [e1, e2]
    exact hSt.narrow hAA
  · intro i hi
    show vk_R _ _ _ (fAll hs qs adK adV (100 + i, 0)) s
    rw [fAll_K]
    exact hRs i hi
  · have h1 := hD.1 _ _ _ _ (left k _ h) lst rfl
    have h2 := (List.getElem?_eq_some_iff.mp h).1
    omega
set_option maxHeartbeats 4000000 in
set_option maxRecDepth 100000 in
theorem whole_start {p : Program} {e : Env} {s : State} {m : MethodId} {below : List Frame} {meth : Method} {c : Code} (l : Launch) (hlz : l.stackTraces = false) {b L : Nat} {xs : Nat → Int32} (hL : L ≤ 3072) (C0 : lw_At p s m meth c b L xs) : W p l e room_1 s m #[Value.ref b] below meth c s.heap [] 0 0 (lw_Z below #[Value.ref b] s) (entryFrame m ([Value.ref b] : List Value).toArray 7) := by
  obtain ⟨hx, hb, hr, hml, hown, hts, hX, hbl, hlocks, hgv⟩ := id C0
  have ht : ∀ w ∈ gW, w.before #[Value.ref b] s = true := fun w hw => hts w (gW_sub hw)
  have hA0 : ∀ q : Nat, s.heap.size ≤ q → lwA s q := fun _ h => h
  have hAn : ∀ a : Nat, a < s.heap.size → ¬ lwA s a := fun a h z => absurd h (Nat.not_lt.mpr z)
  obtain ⟨D, ca, hKs⟩ := D_start ht
  obtain ⟨adK, adV, hSt, hRs, hZ1, hZ2, hZ3, hZ4⟩ := rk_start (A := lwA s) hts hgv hAn
  have hS0 : va_S (lwA s) s.heap s.heap [] := va_S.rf
  have hP0 : va_P D vwCl [] s.heap := fun k q h => by simp at h
  have hD0 : va_D (lwA s) [] := ⟨fun i j p q h => by simp at h, fun k q h => by simp at h⟩
  have hl := lv_entry ([.ref b]) (n := 7) (Nat.le_of_ble_eq_true rfl)
  rw [lg_entry_eq]
  generalize (lg_sl ([.ref b]) ++ List.replicate (7 - (lg_sl ([.ref b])).length) Slot.unset).toArray = ls at hl ⊢
  have hl : lv_has ls 7 [(0, .ref b)] := hl
  refine va_new (D := D) (cl := vwCl) (tys := rT (D, ca, fun _ => 0)) (ws := []) (A := lwA s) (ci := 5) (fs := [.null, .null, .null, .null, .null, .null, .null, .int 0, .int 0, .int 0, .int 0]) (C := RX5) (T := TX5) (N := 11) hx hb ht kX5.2.2.1 tyX5 kX5.2.2.2.1 hown (ht _ cL_8) (ht _ nwX5) (ht _ niX5) (hKs _) hP0 hD0 hS0 hA0 rfl df5 (Nat.le_of_ble_eq_true rfl) (Nat.le_of_ble_eq_true rfl) dL_law_0 (fun q0 H hP hD hS => ?_)
  refine lv_dup hx hb dL_law_3 rfl ?_
  refine w_callI (g := (D, ca, fun _ => 0)) (A := lwA s) (as := []) (wr := []) (st := [.ref q0]) (N := mX5_init) (rmN := rmX5) ⟨hx, hb, hml, hown, ht⟩ (hKs _) hA0 K_X5 oX5_init oiX5_init rfl rfl lL_17 ⟨Nat.le_of_ble_eq_true rfl, Nat.le_of_ble_eq_true rfl⟩ ⟨Nat.le_of_ble_eq_true rfl, Nat.le_of_ble_eq_true rfl⟩ rfl (Nat.le_of_ble_eq_true rfl) hP hD hS hl.1 dL_law_4 (fun w1 H1 locs1 hw hP1 hD1 hS1 => ?_)
  obtain ⟨hs, qs, e0, rfl⟩ := hw
  subst e0
  refine lv_astore_n (lv' := [(1, .ref (hs 0)), (0, .ref b)]) hx hb dL_law_7 rfl hl (by decide) rfl (fun ls1 hl1 => ?_)
  refine va_new (D := D) (cl := vwCl) (tys := rT (D, ca, fun _ => 0)) (ws := [] ++ wX5 (D, ca, fun _ => 0) hs qs) (A := lwA s) (ci := 6) (fs := d6) (C := RX6) (T := TX6) (N := 37) hx hb ht kX6.2.2.1 tyX6 kX6.2.2.2.1 hown (ht _ cL_18) (ht _ nwX6) (ht _ niX6) (hKs _) hP1 hD1 hS1 hA0 rfl df6 (Nat.le_of_ble_eq_true rfl) (Nat.le_of_ble_eq_true rfl) dL_law_8 (fun q8 H2 hP2 hD2 hS2 => ?_)
  refine lv_dup hx hb dL_law_11 rfl ?_
  refine w_callI (g := (D, ca, fun _ => 0)) (A := lwA s) (as := []) (wr := [] ++ wX5 (D, ca, fun _ => 0) hs qs) (st := [.ref q8]) (N := mX6_init) (rmN := rmX6) ⟨hx, hb, hml, hown, ht⟩ (hKs _) hA0 K_X6 oX6_init oiX6_init rfl rfl lL_20 ⟨Nat.le_of_ble_eq_true rfl, Nat.le_of_ble_eq_true rfl⟩ ⟨Nat.le_of_ble_eq_true rfl, Nat.le_of_ble_eq_true rfl⟩ rfl (Nat.le_of_ble_eq_true rfl) hP2 hD2 hS2 hl1.1 dL_law_12 (fun w2 H3 locs3 hw2 hP3 hD3 hS3 => ?_)
  obtain ⟨q, rfl⟩ := hw2
  refine lv_astore_n (lv' := [(2, .ref q8), (1, .ref (hs 0)), (0, .ref b)]) hx hb dL_law_15 rfl hl1 (by decide) rfl (fun ls2 hl2 => ?_)
  refine lv_iconst (v := 1) hx hb dL_law_16 (by decide) ?_
  refine va_newa (atype := .long) (D := D) (cl := vwCl) (tys := rT (D, ca, fun _ => 0)) (ws := ([] ++ wX5 (D, ca, fun _ => 0) hs qs) ++ wX6 (D, ca, fun _ => 0) q8 q) (A := lwA s) (a0 := (1, .inr (.inl (fun _ => 0)))) (ty := .long) (N' := 1) hx hb (ht _ w_arr_long) rfl (hKs _) hP3 hD3 hS3 hA0 (fun cA => rfl) (by decide) rfl (Nat.le_of_ble_eq_true rfl) (Nat.le_of_ble_eq_true rfl) (Nat.le_of_ble_eq_true rfl) dL_law_17 (fun ob cj H4 hK4 hP4 hD4 hS4 => ?_)
  refine lv_astore_n (lv' := [(3, .ref ob), (2, .ref q8), (1, .ref (hs 0)), (0, .ref b)]) hx hb dL_law_19 rfl hl2 (by decide) rfl (fun ls3 hl3 => ?_)
  refine lv_iconst (v := 0) hx hb dL_law_20 (by decide) ?_
  refine lv_istore (lv' := [(4, .int 0), (3, .ref ob), (2, .ref q8), (1, .ref (hs 0)), (0, .ref b)]) hx hb dL_law_21 hl3 (by decide) rfl (fun ls4 hl4 => ?_)
  have hW : rw_ (D, ca, fAll (hs8 hs q8) (qs8 qs q) adK adV) sig0 = ([] ++ wX5 (D, ca, fun _ => 0) hs qs) ++ wX6 (D, ca, fun _ => 0) q8 q := rw_0 (hs := hs8 hs q8) (qs := qs8 qs q) (fun x h => if_pos h)
  rw [← hW] at hP4 hD4
  obtain ⟨A, C⟩ := C_start hlz C0 hKs hSt hRs hZ1 hZ2 hZ3 hZ4 hD4 (hK4.sub [4] rfl)
  have hP5 : va_P D vwCl (rw_ (D, ca, fAll (hs8 hs q8) (qs8 qs q) adK adV) sig0) H4 := fun k x hx => hP4 k x (by rw [List.getElem?_append_left (List.getElem?_eq_some_iff.mp hx).1]; exact hx)
  have hO5 : H4[ob]? = some (cellJ cj (fun _ => 0)) := hP4 (rw_ (D, ca, fAll (hs8 hs q8) (qs8 qs q) adK adV) sig0).length (ob, .inl (cj, (1, .inr (.inl (fun _ => 0))))) (by rw [List.getElem?_append_right (Nat.le_refl _), Nat.sub_self]; rfl)
  exact law_loop hL C (L + 1) 0 0 (Nat.zero_le L) (by omega) (by decide) sig0 (fun _ => 0) H4 locs3 _ _ ls4 Rl_0 ⟨hP5, hO5, hS4⟩ (Nat.le_of_ble_eq_true rfl) (Nat.le_of_ble_eq_true rfl) (lv_sub hl4 [4, 3, 2, 1, 0] rfl)
