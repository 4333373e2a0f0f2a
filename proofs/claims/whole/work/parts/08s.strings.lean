-- the JDK's own methods over the literals
section RSTR
variable {M : rM} {pc : Nat} {ls st : List rV} {σ σ' : rS} {r : Option rV}
theorem e_getsC {idx : Nat} (hf : Cond.fieldLink (mO M) idx "java/lang/String" "COMPACT_STRINGS" "Z" ∈ gW) (hd : decode (mC M) pc = .ok (.getstatic idx, 3)) (kk : E M (pc + 3) ls (.inl 1 :: st) σ r σ') : E M pc ls st σ r σ' := by
  intro p l e s m args below meth c g A H locs lsC X hP hD hS hL
  exact va_gets X.1 X.2.1 X.2.2.2.2.2.2.2.2.2.2.1 hS X.2.2.2.1 (X.2.2.2.2.1 _ hf) (fun _ h => h) hd (kk p l e s m args below meth c g A H locs lsC X hP hD hS hL)
theorem e_getSV {idx i : Nat} (hi : i < 9) (hf : Cond.fieldLink (mO M) idx "java/lang/String" "value" "[B" ∈ gW) (hd : decode (mC M) pc = .ok (.getfield idx, 3)) (kk : E M (pc + 3) ls (.inr (100 + i, 1) :: st) σ r σ') : E M pc ls (.inr (100 + i, 0) :: st) σ r σ' := by
  intro p l e s m args below meth c g A H locs lsC X hP hD hS hL
  exact vk_getf X.1 X.2.1 (X.2.2.2.2.2.2.2.2.1.1 i hi).2.2.1 hS X.2.2.2.1 (X.2.2.2.2.1 _ hf) (fun _ h => h) hd (kk p l e s m args below meth c g A H locs lsC X hP hD hS hL)
theorem e_getSC {idx i : Nat} (hi : i < 9) (hf : Cond.fieldLink (mO M) idx "java/lang/String" "coder" "B" ∈ gW) (hd : decode (mC M) pc = .ok (.getfield idx, 3)) (kk : E M (pc + 3) ls (.inl 0 :: st) σ r σ') : E M pc ls (.inr (100 + i, 0) :: st) σ r σ' := by
  intro p l e s m args below meth c g A H locs lsC X hP hD hS hL
  exact vk_getf X.1 X.2.1 (X.2.2.2.2.2.2.2.2.1.1 i hi).2.1 hS X.2.2.2.1 (X.2.2.2.2.1 _ hf) (fun _ h => h) hd (kk p l e s m args below meth c g A H locs lsC X hP hD hS hL)
theorem e_alenS {i : Nat} (hi : i < 9) (hd : decode (mC M) pc = .ok (.arraylength, 1)) (kk : E M (pc + 1) ls (.inl (nI (sLn.getD i 0)) :: st) σ r σ') : E M pc ls (.inr (100 + i, 1) :: st) σ r σ' := by
  intro p l e s m args below meth c g A H locs lsC X hP hD hS hL
  obtain ⟨cell, h1, h2, h3, h4, h5, h6, h7⟩ := (X.2.2.2.2.2.2.2.2.1.1 i hi).2.2.2
  exact W.alen X.1 X.2.1 (by rw [hS.2.1 _ (Array.getElem?_eq_some_iff.mp h1).1 h7]; exact h1) h2 h5 rfl rfl hd (kk p l e s m args below meth c g A H locs lsC X hP hD hS hL)
theorem e_baldS {i : Nat} {k : Int32} (hi : i < 9) (hk : vp_in k (sLn.getD i 0)) (hd : decode (mC M) pc = .ok (.baload, 1)) (kk : E M (pc + 1) ls (.inl ((sBy.getD i []).getD k.toNatClampNeg 0) :: st) σ r σ') : E M pc ls (.inl k :: .inr (100 + i, 1) :: st) σ r σ' := by
  intro p l e s m args below meth c g A H locs lsC X hP hD hS hL
  obtain ⟨cell, h1, h2, h3, h4, h5, h6, h7⟩ := (X.2.2.2.2.2.2.2.2.1.1 i hi).2.2.2
  have hlt : k.toNatClampNeg < sLn.getD i 0 := Nat.not_le.mp fun q => hk (Or.inr q)
  have hin : ¬ (k < 0 ∨ cell.slots.size ≤ k.toNatClampNeg) := by
    intro q
    rcases q with q | q
    · exact hk (Or.inl q)
    · omega
  exact W.bald (v := .int ((sBy.getD i []).getD k.toNatClampNeg 0)) X.1 X.2.1 (by rw [hS.2.1 _ (Array.getElem?_eq_some_iff.mp h1).1 h7]; exact h1) h2 h3 hin (h6 _ hlt) rfl rfl hd (kk p l e s m args below meth c g A H locs lsC X hP hD hS hL)
/-- a call of a literal's method -/
theorem e_callJ {N : rM} {n idx i : Nat} {as : List rV} {v : Option rV} {σ1 : rS} (hC : Ct N (.inr (100 + i, 0) :: as) σ v σ1) (hN : okM N n) (hI : Cond.instanceMethod (mY N) ∈ gW ∧ Cond.selects (mY N).cls (mY N) (mY N) ∈ gW) (hcl : (mY N).cls = "java/lang/String") (hl : Cond.methodLink (mO M) idx (mY N) ∈ gW) (hi : i < 9) (hn : as.length = n) (hst : st.length ≤ 8) (hR : mF N + 1 ≤ mF M ∧ 8 + (mN N + 11) + mL N ≤ mL M) (hd : decode (mC M) pc = .ok (.invokevirtual idx, 3)) (kk : E M (pc + 3) ls (v.toList ++ st) σ1 r σ') : E M pc ls (as.reverse ++ .inr (100 + i, 0) :: st) σ r σ' := by
  intro p l e s m args below meth c g A H locs lsC X hP hD hS hL
  have ht := X.2.2.2.2.1
  have hrecv := vk_recv X.2.2.2.2.2.2.2.2.1 hi hS
  rw [← hcl] at hrecv
  refine e_back (N := N) (as := .inr (100 + i, 0) :: as) (st := st) kk X hD hS hL (a := ((Sum.inr (100 + i, 0) :: as : List rV).map (cv g)).toArray) ?_
  have hstk : (as.reverse ++ .inr (100 + i, 0) :: st).map (cv g) = (as.map (cv g)).reverse ++ .ref (g.2.2 (100 + i, 0)) :: st.map (cv g) := by
    rw [List.map_append, List.map_reverse]
    rfl
  refine va_runV (As := as.map (cv g)) (rest := st.map (cv g)) (C := (mY N).cls) ⟨X.1, X.2.1, X.2.2.1, X.2.2.2.1, ht⟩ (hC l g A) ⟨callB_ok hN ht hl hR, ht _ hI.1, ht _ hI.2⟩ ⟨rPc_blind g A _ σ, hrecv, fun U hU hW => ?_⟩ rfl (by rw [List.length_map]; exact hn) hL.1 hstk (by show 2 * 0 + _ ≤ 8; rw [cats_sum]; omega) hd ⟨Nat.le_refl _, Nat.le_refl _⟩
  exact ⟨rfl, by rw [hU]; exact hP, hD, by rw [hU]; exact X.2.2.2.2.2.2.2.to hS hW⟩
theorem e_J0 {N : rM} {idx i : Nat} {v : rV} {σ1 : rS} (hN : okM N 0) (hI : Cond.instanceMethod (mY N) ∈ gW ∧ Cond.selects (mY N).cls (mY N) (mY N) ∈ gW) (hl : Cond.methodLink (mO M) idx (mY N) ∈ gW) (hR : mF N + 1 ≤ mF M ∧ 8 + (mN N + 11) + mL N ≤ mL M) (hd : decode (mC M) pc = .ok (.invokevirtual idx, 3)) (hi : i < 9) (hst : st.length ≤ 8) (hC : Ct N [.inr (100 + i, 0)] σ (some v) σ1) (hcl : (mY N).cls = "java/lang/String") (kk : E M (pc + 3) ls (v :: st) σ1 r σ') : E M pc ls (.inr (100 + i, 0) :: st) σ r σ' :=
  e_callJ (as := []) (v := some v) hC hN hI hcl hl hi rfl hst hR hd kk
theorem e_J1 {N : rM} {idx i : Nat} {a0 v : rV} {σ1 : rS} (hN : okM N 1) (hI : Cond.instanceMethod (mY N) ∈ gW ∧ Cond.selects (mY N).cls (mY N) (mY N) ∈ gW) (hl : Cond.methodLink (mO M) idx (mY N) ∈ gW) (hR : mF N + 1 ≤ mF M ∧ 8 + (mN N + 11) + mL N ≤ mL M) (hd : decode (mC M) pc = .ok (.invokevirtual idx, 3)) (hi : i < 9) (hst : st.length ≤ 8) (hC : Ct N [.inr (100 + i, 0), a0] σ (some v) σ1) (hcl : (mY N).cls = "java/lang/String") (kk : E M (pc + 3) ls (v :: st) σ1 r σ') : E M pc ls (a0 :: .inr (100 + i, 0) :: st) σ r σ' :=
  e_callJ (as := [a0]) (v := some v) hC hN hI hcl hl hi rfl hst hR hd kk
theorem e_S2v {N : rM} {idx : Nat} {a0 a1 : rV} {σ1 : rS} (hN : okM N 2) (hs : Cond.static (mY N) ∈ gW) (hl : Cond.methodLink (mO M) idx (mY N) ∈ gW) (hR : mF N + 1 ≤ mF M ∧ 8 + (mN N + 11) + mL N ≤ mL M) (hd : decode (mC M) pc = .ok (.invokestatic idx, 3)) (hst : st.length ≤ 8) (hC : Ct N [a0, a1] σ none σ1) (kk : E M (pc + 3) ls st σ1 r σ') : E M pc ls (a1 :: a0 :: st) σ r σ' :=
  e_callS (as := [a0, a1]) (v := none) hC hN hs hl rfl hst hR hd kk
end RSTR
/-- Preconditions.checkIndex, an index within: any third argument -/
theorem m_J3 (l : Launch) (A : Nat → Prop) (i n : Int32) (v : Value) (hv : v.category = 1) (h : 0 ≤ i ∧ i < n) : Met l yJ3_checkIndex_8e157 (rWd mJ3_checkIndex_8e157) (rRm mJ3_checkIndex_8e157) (va_Pc [.int i, .int n, v] (fun _ => True)) (fun _ st oc t => oc = .returned (some (.int i)) ∧ t.heap = st.heap) 0 0 A := by
  refine Met.ofW (cc := cJ3_checkIndex_8e157) (maxL := 3) (ret := some .int) (by decide) rfl ?_
  intro p e s m args below meth c s₁ B hml hp
  obtain ⟨rfl, -⟩ := hp
  have hx := B.exec
  have hb := B.bytes
  have hr := B.returns
  have hlocks := B.notSynchronized
  have hsl : lg_sl [.int i, .int n, v] = [.val (.int i), .val (.int n), .val v] := by
    have h9 : lg_sl [.int i, .int n, v] = [.val (.int i)] ++ ([.val (.int n)] ++ ((if v.category = 2 then [.val v, .second] else [.val v]) ++ [])) := rfl
    rw [h9, hv]
    rfl
  have hl := lv_entry [.int i, .int n, v] (n := 3) (by rw [hsl]; exact Nat.le_refl _)
  rw [lg_entry_eq]
  generalize (lg_sl [.int i, .int n, v] ++ List.replicate (3 - (lg_sl [.int i, .int n, v]).length) Slot.unset).toArray = ls at hl ⊢
  have h0 : ls[0]? = some (.val (.int i)) := lv_at hl 0 rfl
  have h1 : ls[1]? = some (.val (.int n)) := lv_at hl 1 rfl
  refine lv_iload_n hx hb dJ3_checkIndex_8e157_0 rfl h0 ?_
  refine lv_if_lt (tgt := 9) hx hb dJ3_checkIndex_8e157_1 (by decide) (fun hc => ?_) (fun _ => ?_)
  · exact absurd h.1 (by grind)
  refine lv_iload_n hx hb dJ3_checkIndex_8e157_4 rfl h0 ?_
  refine lv_iload_n hx hb dJ3_checkIndex_8e157_5 rfl h1 ?_
  refine lv_icmp_lt (tgt := 16) hx hb dJ3_checkIndex_8e157_6 (by decide) (fun _ => ?_) (fun hc => ?_)
  · refine lv_iload_n hx hb dJ3_checkIndex_8e157_16 rfl h0 ?_
    exact W.iret hx hb hr (fun t ht hW => ⟨rfl, ht⟩) (fun q hq => by cases hq) dJ3_checkIndex_8e157_17
  · exact absurd h.2 hc
theorem c_J0_checkIndex_df160 {i n : Int32} {σ : rS} (h : 0 ≤ i ∧ i < n) : Ct mJ0_checkIndex_df160 [.inl i, .inl n] σ none σ := by
  refine C_of_E rfl rfl (Nat.le_of_ble_eq_true rfl) ?_
  refine e_iload_n dJ0_checkIndex_df160_0 rfl ?_
  refine e_iload_n dJ0_checkIndex_df160_1 rfl ?_
  intro p l e s m args below meth c g A H locs lsC X hP hD hS hL
  have key : ∀ v : Value, v.category = 1 → va_Z "jdk/internal/util/Preconditions" "SIOOBE_FORMATTER" "Ljava/util/function/BiFunction;" v A s s.heap → W p l e (rRm mJ0_checkIndex_df160) s m args below meth c H locs 0 0 (MQ below (rQc g A none σ) args s 0 0 A) (F0 m 2 lsC [.int n, .int i]) := by
    intro v hv hZ
    refine va_gets X.1 X.2.1 hZ hS X.2.2.2.1 (X.2.2.2.2.1 _ fJ0_1053) (fun _ h => h) dJ0_checkIndex_df160_2 ?_
    have hrun := va_runS (rest := []) (g := F0 m 5 lsC [v, .int n, .int i]) (H := H) (locs := locs) (cells := 0) (slots := 0) (below := below) (meth := meth) (e := e) (As := [.int i, .int n, v]) ⟨X.1, X.2.1, X.2.2.1, X.2.2.2.1, X.2.2.2.2.1⟩ (m_J3 l A i n v hv h) ⟨callB_ok (M := mJ0_checkIndex_df160) oJ3_checkIndex_8e157 X.2.2.2.2.1 lJ0_1059 ⟨Nat.le_of_ble_eq_true rfl, Nat.le_of_ble_eq_true rfl⟩, X.2.2.2.2.1 _ sJ3_checkIndex_8e157⟩ ⟨fun _ _ _ _ q => q, fun U hU hW => ⟨rfl, trivial⟩⟩ rfl rfl hL.1 rfl (by show 2 * 0 + 0 ≤ 8; omega) dJ0_checkIndex_df160_5 ⟨Nat.le_refl _, Nat.le_refl _⟩
    intro T hT X9
    obtain ⟨v9, st₀, t, T', L, h0, X', hL9, e1, e2, ⟨hv9, hh⟩, stp⟩ := hrun T hT X9
    cases hv9
    have hTh : T'.heap = H := by rw [e1, hh, h0]
    have hS1 : va_S A s.heap H (locs ++ L) := ⟨hS.1, hS.2.1, fun q hq => by
      rcases List.mem_append.mp hq with h | h
      · exact hS.2.2 q h
      · exact hL9 q h⟩
    have fin : W p l e (rRm mJ0_checkIndex_df160) s m args below meth c H (locs ++ L) 0 0 (MQ below (rQc g A none σ) args s 0 0 A) (F0 m 8 lsC [.int i]) := by
      refine lv_pop X.1 X.2.1 dJ0_checkIndex_df160_8 rfl ?_
      exact W.vret X.1 X.2.1 X.2.2.2.2.2.1 (fun t ht hW => ⟨rfl, by rw [ht]; exact hP, hS1.F ht⟩) hS1.2.2 dJ0_checkIndex_df160_9 X.2.2.2.2.2.2.1
    obtain ⟨t2, a1, b1⟩ := fin T' hTh X'
    exact ⟨t2, stp t2 a1, b1⟩
  rcases X.2.2.2.2.2.2.2.2.2.2.2.1 with hZ | ⟨t, hZ⟩
  · exact key .null rfl hZ
  · exact key (.ref t) rfl hZ
theorem c_J0_coder_7d493 {i : Nat} {σ : rS} (hi : i < 9) : Ct mJ0_coder_7d493 [.inr (100 + i, 0)] σ (some (.inl 0)) σ := by
  refine C_of_E rfl rfl (Nat.le_of_ble_eq_true rfl) ?_
  refine e_getsC fJ0_38 dJ0_coder_7d493_0 ?_
  refine e_if_eq (tgt := 13) dJ0_coder_7d493_3 (by decide) (fun h => absurd h (by decide)) (fun _ => ?_)
  refine e_aload_n dJ0_coder_7d493_6 rfl ?_
  refine e_getSC hi fJ0_15 dJ0_coder_7d493_7 ?_
  refine e_goto (tgt := 14) dJ0_coder_7d493_10 (by decide) ?_
  exact e_iret rfl rfl dJ0_coder_7d493_14
theorem c_J0_isLatin1_aae02 {i : Nat} {σ : rS} (hi : i < 9) : Ct mJ0_isLatin1_aae02 [.inr (100 + i, 0)] σ (some (.inl 1)) σ := by
  refine C_of_E rfl rfl (Nat.le_of_ble_eq_true rfl) ?_
  refine e_getsC fJ0_38 dJ0_isLatin1_aae02_0 ?_
  refine e_if_eq (tgt := 17) dJ0_isLatin1_aae02_3 (by decide) (fun h => absurd h (by decide)) (fun _ => ?_)
  refine e_aload_n dJ0_isLatin1_aae02_6 rfl ?_
  refine e_getSC hi fJ0_15 dJ0_isLatin1_aae02_7 ?_
  refine e_if_ne (tgt := 17) dJ0_isLatin1_aae02_10 (by decide) (fun h => absurd rfl h) (fun _ => ?_)
  refine e_iconst (v := 1) dJ0_isLatin1_aae02_13 (by decide) ?_
  refine e_goto (tgt := 18) dJ0_isLatin1_aae02_14 (by decide) ?_
  exact e_iret rfl rfl dJ0_isLatin1_aae02_18
theorem sLn_sh : ∀ i, i < 9 → nI (sLn.getD i 0) >>> ((0 : Int32) &&& 31) = nI (sLn.getD i 0) := by decide +kernel
theorem c_J0_length_8abf5 {i : Nat} {σ : rS} (hi : i < 9) : Ct mJ0_length_8abf5 [.inr (100 + i, 0)] σ (some (.inl (nI (sLn.getD i 0)))) σ := by
  refine C_of_E rfl rfl (Nat.le_of_ble_eq_true rfl) ?_
  refine e_aload_n dJ0_length_8abf5_0 rfl ?_
  refine e_getSV hi fJ0_9 dJ0_length_8abf5_1 ?_
  refine e_alenS hi dJ0_length_8abf5_4 ?_
  refine e_aload_n dJ0_length_8abf5_5 rfl ?_
  refine e_J0 oJ0_coder_7d493 oiJ0_coder_7d493 lJ0_335 ⟨Nat.le_of_ble_eq_true rfl, Nat.le_of_ble_eq_true rfl⟩ dJ0_length_8abf5_6 hi (Nat.le_of_ble_eq_true rfl) (c_J0_coder_7d493 hi) rfl ?_
  refine e_ishr dJ0_length_8abf5_9 ?_
  exact e_ireq rfl rfl dJ0_length_8abf5_10 (sLn_sh i hi) rfl
theorem sBy_all : ∀ i, i < 9 → sLn.getD i 0 = (sBy.getD i []).length ∧ ∀ b ∈ sBy.getD i [], ((b &&& 255).toUInt32 % 65536).toInt32 = b ∧ narrow .char (.int b) = .int b := by decide +kernel
theorem getD_mem {L : List Int32} {k : Nat} (h : k < L.length) : L.getD k 0 ∈ L := by
  rw [List.getD_eq_getElem?_getD, List.getElem?_eq_getElem h]
  exact List.getElem_mem h
theorem c_J1_charAt_3b067 {i : Nat} {k : Int32} {σ : rS} (hi : i < 9) (hk : 0 ≤ k ∧ k < nI (sLn.getD i 0)) (hv : vp_in k (sLn.getD i 0)) : Ct mJ1_charAt_3b067 [.inr (100 + i, 1), .inl k] σ (some (.inl ((sBy.getD i []).getD k.toNatClampNeg 0))) σ := by
  refine C_of_E rfl rfl (Nat.le_of_ble_eq_true rfl) ?_
  refine e_iload_n dJ1_charAt_3b067_0 rfl ?_
  refine e_aload_n dJ1_charAt_3b067_1 rfl ?_
  refine e_alenS hi dJ1_charAt_3b067_2 ?_
  refine e_S2v oJ0_checkIndex_df160 sJ0_checkIndex_df160 lJ1_9 ⟨Nat.le_of_ble_eq_true rfl, Nat.le_of_ble_eq_true rfl⟩ dJ1_charAt_3b067_3 (Nat.le_of_ble_eq_true rfl) (c_J0_checkIndex_df160 hk) ?_
  refine e_aload_n dJ1_charAt_3b067_6 rfl ?_
  refine e_iload_n dJ1_charAt_3b067_7 rfl ?_
  refine e_baldS hi hv dJ1_charAt_3b067_8 ?_
  refine e_sipush (v := 255) dJ1_charAt_3b067_9 (by decide) ?_
  refine e_iand dJ1_charAt_3b067_12 ?_
  have hlt : k.toNatClampNeg < sLn.getD i 0 := Nat.not_le.mp fun q => hv (Or.inr q)
  have hm : (sBy.getD i []).getD k.toNatClampNeg 0 ∈ sBy.getD i [] := by
    rw [(sBy_all i hi).1] at hlt
    exact getD_mem hlt
  have h9 := (sBy_all i hi).2 _ hm
  refine e_i2c dJ1_charAt_3b067_13 h9.1 ?_
  exact e_iret rfl h9.2 dJ1_charAt_3b067_14
theorem c_J0_charAt_5068e {i : Nat} {k : Int32} {σ : rS} (hi : i < 9) (hk : 0 ≤ k ∧ k < nI (sLn.getD i 0)) (hv : vp_in k (sLn.getD i 0)) : Ct mJ0_charAt_5068e [.inr (100 + i, 0), .inl k] σ (some (.inl ((sBy.getD i []).getD k.toNatClampNeg 0))) σ := by
  refine C_of_E rfl rfl (Nat.le_of_ble_eq_true rfl) ?_
  refine e_aload_n dJ0_charAt_5068e_0 rfl ?_
  refine e_J0 oJ0_isLatin1_aae02 oiJ0_isLatin1_aae02 lJ0_492 ⟨Nat.le_of_ble_eq_true rfl, Nat.le_of_ble_eq_true rfl⟩ dJ0_charAt_5068e_1 hi (Nat.le_of_ble_eq_true rfl) (c_J0_isLatin1_aae02 hi) rfl ?_
  refine e_if_eq (tgt := 16) dJ0_charAt_5068e_4 (by decide) (fun h => absurd h (by decide)) (fun _ => ?_)
  refine e_aload_n dJ0_charAt_5068e_7 rfl ?_
  refine e_getSV hi fJ0_9 dJ0_charAt_5068e_8 ?_
  refine e_iload_n dJ0_charAt_5068e_11 rfl ?_
  refine e_S2 oJ1_charAt_3b067 sJ1_charAt_3b067 lJ0_495 ⟨Nat.le_of_ble_eq_true rfl, Nat.le_of_ble_eq_true rfl⟩ dJ0_charAt_5068e_12 (Nat.le_of_ble_eq_true rfl) (c_J1_charAt_3b067 hi hk hv) ?_
  have hlt : k.toNatClampNeg < sLn.getD i 0 := Nat.not_le.mp fun q => hv (Or.inr q)
  have hm : (sBy.getD i []).getD k.toNatClampNeg 0 ∈ sBy.getD i [] := by
    rw [(sBy_all i hi).1] at hlt
    exact getD_mem hlt
  exact e_iret rfl ((sBy_all i hi).2 _ hm).2 dJ0_charAt_5068e_15
theorem min_name : yJ9_min_7cf53 = Lib.Math.min.name := by decide +kernel
theorem min_code : cJ9_min_7cf53 = Lib.Math.min.code := by decide +kernel
theorem e_min {M : rM} {pc idx : Nat} {ls st : List rV} {σ σ' : rS} {r : Option rV} {x y : Int32} (hl : Cond.methodLink (mO M) idx yJ9_min_7cf53 ∈ gW) (hf : 1 ≤ mF M) (hlo : st.length + 13 ≤ mL M) (hd : decode (mC M) pc = .ok (.invokestatic idx, 3)) (kk : E M (pc + 3) ls (.inl (if y < x then y else x) :: st) σ r σ') : E M pc ls (.inl y :: .inl x :: st) σ r σ' := by
  intro p l e s m args below meth c g A H locs lsC X hP hD hS hL
  have ht := X.2.2.2.2.1
  have h1 := ht _ hl
  have h2 := ht _ sJ9_min_7cf53
  have h3 := ht _ oJ9_min_7cf53.1
  have h4 := ht _ oJ9_min_7cf53.2.1
  have e1 : mY mJ9_min_7cf53 = Lib.Math.min.name := min_name
  have e2 : mC mJ9_min_7cf53 = Lib.Math.min.code := min_code
  rw [min_name] at h1
  rw [e1] at h2 h4
  rw [e1, e2] at h3
  exact va_mmin X.1 X.2.1 (X.2.2.1.trans hL.1.symm) X.2.2.2.1 h1 h2 h4 h3 hf (by rw [cats_sum]; exact hlo) (Nat.le_refl _) (Nat.le_refl _) hd (kk p l e s m args below meth c g A H locs lsC X hP hD hS hL)
