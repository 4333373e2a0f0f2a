-- the challenges, on both sides
theorem and_or (a b d : Int32) : (a ||| b) &&& d = (a &&& d) ||| (b &&& d) := Int32.toBitVec_inj.1 BitVec.and_or_distrib_right
theorem bit_ap : ∀ i, i < 12 → ∀ j, j < 12 → (((1 : Int32) <<< (nI i &&& 31)) &&& ((1 : Int32) <<< (nI j &&& 31)) = 0 ↔ ¬ j = i) := by decide +kernel
theorem ix24 : ∀ i, i < 12 → ∀ j, j < 24 → 24 * nI i + nI j = nI (24 * i + j) := by decide +kernel
theorem bit_apI {x y : Int32} (hx : 0 ≤ x) (hx2 : x < 12) (hy : 0 ≤ y) (hy2 : y < 12) : ((1 : Int32) <<< (y &&& 31)) &&& ((1 : Int32) <<< (x &&& 31)) = 0 ↔ ¬ x = y := by
  obtain ⟨i, hi, rfl⟩ := nI12 hx hx2
  obtain ⟨j, hj, rfl⟩ := nI12 hy hy2
  rw [bit_ap j hj i hi, nI_eq (by omega) (by omega)]
theorem ix_inj {x y p p0 : Int32} (hx : 0 ≤ x) (hx2 : x < 12) (hy : 0 ≤ y) (hy2 : y < 12) (hp : 0 ≤ p) (hp2 : p < 24) (hq : 0 ≤ p0) (hq2 : p0 < 24) : 24 * x + p = 24 * y + p0 ↔ (x = y ∧ p = p0) := by
  obtain ⟨i, hi, rfl⟩ := nI12 hx hx2
  obtain ⟨j, hj, rfl⟩ := nI12 hy hy2
  obtain ⟨a, ha, rfl⟩ := nI24 hp hp2
  obtain ⟨b, hb, rfl⟩ := nI24 hq hq2
  rw [ix24 i hi a ha, ix24 j hj b hb, nI_eq (by omega) (by omega), nI_eq (by omega) (by omega), nI_eq (by omega) (by omega)]
  omega
theorem R8_over {τ μ τ' μ' : rS} {m : Nat} {Y p0 : Int32} (h : R8 τ μ m) (hm : nI m ≤ 24) (hY : 0 ≤ Y) (hY2 : Y < 12) (hp : 0 ≤ p0) (hp2 : p0 < 24) (e6 : ∀ p, τ' 3 6 p = if p = p0 then τ 3 6 p ||| ((1 : Int32) <<< (Y &&& 31)) else τ 3 6 p) (e19 : ∀ i, μ' 8 19 i = if i = 24 * Y + p0 then 1 else μ 8 19 i) : R8 τ' μ' m := by
  intro x p h0 h1 h2 h3
  have a := h x p h0 h1 h2 h3
  have hp24 : p < 24 := ar_lt h3 hm
  have ix := ix_inj h0 h1 hY hY2 h2 hp24 hp hp2
  have b := bit_apI h0 h1 hY hY2
  rw [e6, e19]
  by_cases z : p = p0
  · rw [if_pos z, and_or, Int32.or_eq_zero_iff, b]
    by_cases z2 : x = Y
    · rw [if_pos (ix.mpr ⟨z2, z⟩)]
      exact ⟨fun y => absurd z2 y.2, fun y => absurd y (by decide)⟩
    · rw [if_neg (fun y => z2 (ix.mp y).1)]
      exact ⟨fun y => a.mp y.1, fun y => ⟨a.mpr y, z2⟩⟩
  · rw [if_neg z, if_neg (fun y => z (ix.mp y).2)]
    exact a
/-- a hand-over, field by field -/
theorem hand_at {τ H : rS} {o : Nat} {X Y P : Int32} (hX : hasM τ o X) (hY : hasM τ o Y) (hP : isPl P) (e : H = sLay (sFree τ o X) o Y P) : (∀ x, H o 4 x = if x = Y then P else if x = X then -1 else τ o 4 x) ∧ (∀ p, H o 5 p = if p = P then Y else τ o 5 p) ∧ (∀ p, H o 6 p = if p = P then τ o 6 p ||| ((1 : Int32) <<< (Y &&& 31)) else τ o 6 p) ∧ (∀ o' k', ¬ (o' = o ∧ (k' = 4 ∨ k' = 5 ∨ k' = 6)) → H o' k' = τ o' k') := by
  have e1 : sFree τ o X = up τ o 4 X (-1) := if_pos hX
  have hY2 : hasM (up τ o 4 X (-1)) o Y := by
    refine ⟨hY.1, ?_, hY.2.2⟩
    rw [show up τ o 4 X (-1) o 7 0 = τ o 7 0 from up_k (by decide)]
    exact hY.2.1
  have e2 : sLay (up τ o 4 X (-1)) o Y P = up (up (up (up τ o 4 X (-1)) o 4 Y P) o 5 P Y) o 6 P ((up τ o 4 X (-1)) o 6 P ||| ((1 : Int32) <<< (Y &&& 31))) := if_pos ⟨hY2, hP⟩
  rw [e1, e2, show up τ o 4 X (-1) o 6 P = τ o 6 P from up_k (by decide)] at e
  clear e1 e2 hX hY hY2 hP
  subst e
  refine ⟨fun x => ?_, fun p => ?_, fun p => ?_, fun o' k' h => ?_⟩
  · simp only [up]; grind
  · simp only [up]; grind
  · simp only [up]; grind
  · funext i; simp only [up]; grind
/-- and the others' challenges stand -/
theorem opO_hand {τ τ' : rS} {o m : Nat} {k l X Y P : Int32} (ek : τ 5 0 k = X ∧ τ 5 1 k = Y ∧ τ 5 2 k = P) (hk : opO τ o m k) (hl : opO τ o m l) (ha : apt τ k l) (e4 : ∀ x, τ' o 4 x = if x = Y then P else if x = X then -1 else τ o 4 x) (e5 : ∀ p, τ' o 5 p = if p = P then Y else τ o 5 p) (e : τ' 5 = τ 5) : opO τ' o m l := by
  obtain ⟨k1, k2, k3, k4, k5⟩ := hk
  obtain ⟨l1, l2, l3, l4, l5⟩ := hl
  obtain ⟨a1, a2, a3, a4⟩ := ha
  rw [ek.1] at k1 k4 a1 a2
  rw [ek.2.1] at a3 a4
  rw [ek.2.2] at k4
  unfold opO
  rw [e, e4, e4, e5]
  rw [if_neg (fun z => a3 z.symm), if_neg (fun z => a1 z.symm), if_neg (fun z => a1 (by rw [← k4, ← l4, z])), if_neg (fun z => a4 z.symm), if_neg (fun z => a2 z.symm)]
  exact ⟨l1, l2, l3, l4, l5⟩
def JR (τ μ : rS) (n m c : Nat) : Prop := RF τ μ n c ∧ R7 τ μ 3 0 n m ∧ R8 τ μ m ∧ R11 τ 3 m c 0 ∧ R12 τ c
/-- the docket alone changes, and no challenge is opened -/
theorem JR_doc {τ μ τ' μ' : rS} {n m c : Nat} (h : JR τ μ n m c) (hF : RF τ' μ' n c) (e4 : τ' 3 4 = τ 3 4) (e5 : τ' 3 5 = τ 3 5) (e6 : τ' 3 6 = τ 3 6) (d0 : τ' 5 0 = τ 5 0) (d1 : τ' 5 1 = τ 5 1) (d2 : τ' 5 2 = τ 5 2) (m18 : μ' 8 18 = μ 8 18) (m19 : μ' 8 19 = μ 8 19) (ho : ∀ i, 0 ≤ i → i < nI c → opn τ' i → opn τ i) : JR τ' μ' n m c := by
  obtain ⟨h1, h2, h3, h4, h5⟩ := h
  refine ⟨hF, h2.tr e4 e5 m18, ?_, ?_, ?_⟩
  · intro x p a b d e
    rw [e6, m19]
    exact h3 x p a b d e
  · intro k a b o
    have := h4 k a b (ho k a b o)
    unfold opO at this ⊢
    rw [e4, e5, d0, d1, d2]
    exact this
  · intro k l a b d e o1 o2 ne
    have := h5 k l a b d e (ho k a b o1) (ho l d e o2) ne
    unfold apt at this ⊢
    rw [d0, d1]
    exact this
theorem RF.men {τ μ : rS} {n c : Nat} {k : Int32} (h : RF τ μ n c) (hk : 0 ≤ k) (hk2 : k < nI c) : (0 ≤ τ 5 0 k ∧ τ 5 0 k < nI n) ∧ (0 ≤ τ 5 1 k ∧ τ 5 1 k < nI n) ∧ (0 ≤ τ 5 2 k ∧ τ 5 2 k < 24) := by
  obtain ⟨a0, a1, a2, a3, a4, a5, a6, a7, b0, b1, b2, b3, b4, b5, b6⟩ := h.2.2.2 k hk hk2
  rw [a0, a1, a2]
  exact ⟨⟨b0, b1⟩, ⟨b2, b3⟩, ⟨b4, b5⟩⟩
/-- the place of a closed challenge goes over -/
theorem JR_hand {τ μ : rS} {n m c : Nat} {k : Int32} (h : JR τ μ n m c) (hs : τ 3 7 0 = nI n) (hn : n ≤ 12) (hm : m ≤ 24) (hk : 0 ≤ k) (hk2 : k < nI c) (ho : opO τ 3 m k) (ha : ∀ l, 0 ≤ l → l < nI c → opn τ l → apt τ k l) : JR (sLay (sFree τ 3 (τ 5 0 k)) 3 (τ 5 1 k) (τ 5 2 k)) (sOv μ k) n m c := by
  obtain ⟨h1, h2, h3, h4, h5⟩ := h
  obtain ⟨x1, y1, p1⟩ := h1.men hk hk2
  have hn12 := nI_le12 hn
  have hm24 := nI_le24 hm
  have hX : hasM τ 3 (τ 5 0 k) := ⟨x1.1, by rw [hs]; exact x1.2, ar_lt x1.2 hn12⟩
  have hY : hasM τ 3 (τ 5 1 k) := ⟨y1.1, by rw [hs]; exact y1.2, ar_lt y1.2 hn12⟩
  obtain ⟨H, eH⟩ : ∃ H, H = sLay (sFree τ 3 (τ 5 0 k)) 3 (τ 5 1 k) (τ 5 2 k) := ⟨_, rfl⟩
  obtain ⟨t4, t5, t6, tf⟩ := hand_at hX hY p1 eH
  rw [← eH]
  obtain ⟨a0, a1, a2, a3, -⟩ := h1.2.2.2 k hk hk2
  have m18 : ∀ p, sOv μ k 8 18 p = if p = τ 5 2 k then τ 5 1 k else μ 8 18 p := by
    intro p
    unfold sOv
    rw [a1, a2]
    simp only [up]
    clear t4 t5 t6 tf h1 h2 h3 h4 h5 ho ha
    grind
  have m19 : ∀ i, sOv μ k 8 19 i = if i = 24 * τ 5 1 k + τ 5 2 k then 1 else μ 8 19 i := by
    intro i
    unfold sOv
    rw [a1, a2]
    simp only [up]
    clear t4 t5 t6 tf h1 h2 h3 h4 h5 ho ha
    grind
  have mo : ∀ f, ¬ (f = 18 ∨ f = 19) → sOv μ k 8 f = μ 8 f := by
    intro f hf
    funext i
    unfold sOv
    simp only [up]
    clear t4 t5 t6 tf h1 h2 h3 h4 h5 ho ha m18 m19
    grind
  have e5 : H 5 = τ 5 := by
    funext f
    exact tf 5 f (fun z => absurd z.1 (by decide))
  refine ⟨h1.tr e5 (mo 21 (by decide)) (mo 22 (by decide)) (mo 23 (by decide)) (mo 24 (by decide)) (mo 25 (by decide)) (mo 26 (by decide)) (mo 27 (by decide)) (mo 28 (by decide)) (mo 29 (by decide)), ?_, ?_, ?_, ?_⟩
  · exact R7f_over (pl := τ 3 4) (be := τ 3 5) (ro := fun p => μ 8 18 (0 + p)) (pl' := H 3 4) (be' := H 3 5) (ro' := fun p => sOv μ k 8 18 (0 + p)) h2 ⟨p1.1, ho.2.2.1⟩ ho.2.2.2.1 ho.1 y1 ho.2.2.2.2 t4 t5 (fun p _ _ => by rw [m18, Int32.zero_add])
  · exact R8_over h3 hm24 y1.1 (ar_lt y1.2 hn12) p1.1 p1.2 t6 m19
  · intro l a b o
    have o' : opn τ l := by
      unfold opn at o ⊢
      rw [e5] at o
      exact o
    exact opO_hand ⟨rfl, rfl, rfl⟩ ho (h4 l a b o') (ha l a b o') t4 t5 e5
  · intro i l a b d e o1 o2 ne
    unfold opn at o1 o2
    unfold apt
    rw [e5] at o1 o2 ⊢
    exact h5 i l a b d e o1 o2 ne
/-- the state of one challenge changes -/
theorem RF_st {τ μ : rS} {n c : Nat} {k v : Int32} (h : RF τ μ n c) (hv : 0 ≤ v) : RF (up τ 5 4 k v) (up μ 8 26 k v) n c := by
  refine ⟨?_, ?_, h.2.2.1, fun i a b => ?_⟩
  · rw [← h.1]; exact up_k (by decide)
  · rw [← h.2.1]; exact up_k (by decide)
  · have := h.2.2.2 i a b
    clear h
    simp only [up]
    by_cases z : i = k
    · simp [z]
      rw [z] at this
      exact ⟨this.1, this.2.1, this.2.2.1, this.2.2.2.1, this.2.2.2.2.2.1, this.2.2.2.2.2.2.1, this.2.2.2.2.2.2.2.1, this.2.2.2.2.2.2.2.2.1, this.2.2.2.2.2.2.2.2.2.1, this.2.2.2.2.2.2.2.2.2.2.1, this.2.2.2.2.2.2.2.2.2.2.2.1, this.2.2.2.2.2.2.2.2.2.2.2.2.1, this.2.2.2.2.2.2.2.2.2.2.2.2.2.1, hv⟩
    · simp [z]
      exact this
theorem opn_st {τ : rS} {k v i : Int32} (hv : 2 ≤ v) (h : opn (up τ 5 4 k v) i) : opn τ i ∧ ¬ i = k := by
  unfold opn at h ⊢
  simp only [up] at h
  by_cases z : i = k
  · exfalso
    simp [z] at h
    rcases h with h | h
    · rw [h] at hv; exact absurd hv (by decide)
    · rw [h] at hv; exact absurd hv (by decide)
  · simp [z] at h
    exact ⟨h, z⟩
theorem JR_close {τ μ : rS} {n m c : Nat} {k v : Int32} (h : JR τ μ n m c) (hv : 2 ≤ v) : JR (up τ 5 4 k v) (up μ 8 26 k v) n m c :=
  JR_doc h (RF_st h.1 (Int32.le_trans (by decide) hv)) (by funext i; exact up_o (by decide)) (by funext i; exact up_o (by decide)) (by funext i; exact up_o (by decide)) (by funext i; exact up_k (by decide)) (by funext i; exact up_k (by decide)) (by funext i; exact up_k (by decide)) (by funext i; exact up_k (by decide)) (by funext i; exact up_k (by decide)) (fun i _ _ o => (opn_st hv o).1)
/-- a challenge is closed and its place goes over -/
theorem JR_go {τ μ : rS} {n m c : Nat} {k v : Int32} (h : JR τ μ n m c) (hs : τ 3 7 0 = nI n) (hn : n ≤ 12) (hm : m ≤ 24) (hk : 0 ≤ k) (hk2 : k < nI c) (hv : 2 ≤ v) (ho : opn τ k) : JR (sLay (sFree (up τ 5 4 k v) 3 (τ 5 0 k)) 3 (τ 5 1 k) (τ 5 2 k)) (sOv (up μ 8 26 k v) k) n m c := by
  have J := JR_close (k := k) h hv
  have f3 : up τ 5 4 k v 3 = τ 3 := by funext f i; exact up_o (by decide)
  have d0 : up τ 5 4 k v 5 0 = τ 5 0 := by funext i; exact up_k (by decide)
  have d1 : up τ 5 4 k v 5 1 = τ 5 1 := by funext i; exact up_k (by decide)
  have d2 : up τ 5 4 k v 5 2 = τ 5 2 := by funext i; exact up_k (by decide)
  have oo := h.2.2.2.1 k hk hk2 ho
  have r := JR_hand J (by rw [f3]; exact hs) hn hm hk hk2 (by unfold opO at oo ⊢; rw [f3, d0, d1, d2]; exact oo) (fun l a b o => by
    obtain ⟨o1, o2⟩ := opn_st hv o
    have := h.2.2.2.2 k l hk hk2 a b ho o1 (fun z => o2 z.symm)
    unfold apt at this ⊢
    rw [d0, d1]
    exact this)
  rw [d0, d1, d2] at r
  exact r
theorem hasC_of {τ μ : rS} {n c : Nat} {k : Int32} (h : RF τ μ n c) (hk : 0 ≤ k) (hk2 : k < nI c) : hasC τ 5 k := ⟨hk, by rw [h.1]; exact hk2, ar_lt hk2 (nI_le40 h.2.2.1)⟩
theorem ver_go {τ μ : rS} {n c : Nat} {k : Int32} (h : RF τ μ n c) (h3 : R3 τ μ 3 0) (hs : τ 3 7 0 = nI n) (hn : n ≤ 12) (hk : 0 ≤ k) (hk2 : k < nI c) : verB τ 5 3 k ↔ goB μ k := by
  obtain ⟨x1, y1, p1⟩ := h.men hk hk2
  have hn12 := nI_le12 hn
  have gx : gM τ 3 0 (τ 5 0 k) 0 = μ 8 11 (τ 5 0 k) := by
    rw [show gM τ 3 0 (τ 5 0 k) 0 = τ 3 0 (τ 5 0 k) from if_pos ⟨x1.1, by rw [hs]; exact x1.2, ar_lt x1.2 hn12⟩, (h3 _ x1.1 (ar_lt x1.2 hn12)).1, Int32.zero_add]
  have gy : gM τ 3 0 (τ 5 1 k) 0 = μ 8 11 (τ 5 1 k) := by
    rw [show gM τ 3 0 (τ 5 1 k) 0 = τ 3 0 (τ 5 1 k) from if_pos ⟨y1.1, by rw [hs]; exact y1.2, ar_lt y1.2 hn12⟩, (h3 _ y1.1 (ar_lt y1.2 hn12)).1, Int32.zero_add]
  obtain ⟨a0, a1, a2, a3, a4, a5, a6, a7, -⟩ := h.2.2.2 k hk hk2
  unfold verB goB
  rw [gx, gy, a0, a1, a4, a6, a7]
theorem run_op {τ μ : rS} {n c : Nat} {k : Int32} (h : RF τ μ n c) (hk : 0 ≤ k) (hk2 : k < nI c) : (runB τ 5 k ↔ opn τ k) ∧ (opn τ k ↔ μ 8 26 k < 2) := by
  have e : gC τ 5 4 k (-1) = τ 5 4 k := if_pos (hasC_of h hk hk2)
  obtain ⟨a0, a1, a2, a3, a4, a5, a6, a7, b0, b1, b2, b3, b4, b5, b6⟩ := h.2.2.2 k hk hk2
  refine ⟨?_, ?_⟩
  · unfold runB; rw [e]
  · unfold opn
    rw [a4]
    clear h e a0 a1 a2 a3 a4 a5 a6 a7 b0 b1 b2 b3 b4 b5
    grind
/-- a judgement -/
theorem JR_jud {τ μ : rS} {n m c : Nat} {k : Int32} (h : JR τ μ n m c) (h3 : R3 τ μ 3 0) (hs : τ 3 7 0 = nI n) (hn : n ≤ 12) (hm : m ≤ 24) (hk : 0 ≤ k) (hk2 : k < nI c) (ho : opn τ k) : JR (sJud τ 5 3 k) (jgM μ k) n m c ∧ (∀ i, opn (sJud τ 5 3 k) i → opn τ i ∧ ¬ i = k) := by
  have hC := hasC_of h.1 hk hk2
  have vg := ver_go h.1 h3 hs hn hk hk2
  have hC2 : ∀ v, hasC (up τ 5 4 k v) 5 k := fun v => ⟨hC.1, by rw [show up τ 5 4 k v 5 8 0 = τ 5 8 0 from up_k (by decide)]; exact hC.2.1, hC.2.2⟩
  by_cases hg : goB μ k
  · have e1 : vV τ 5 3 k = 4 := by unfold vV; rw [if_pos hC, if_pos (vg.mpr hg)]
    have e2 : sJud τ 5 3 k = sLay (sFree (up τ 5 4 k 4) 3 (τ 5 0 k)) 3 (τ 5 1 k) (τ 5 2 k) := by
      unfold sJud sCar
      rw [if_pos hC, e1, if_pos ⟨hC2 4, rfl⟩, show up τ 5 4 k 4 5 0 k = τ 5 0 k from up_k (by decide), show up τ 5 4 k 4 5 1 k = τ 5 1 k from up_k (by decide), show up τ 5 4 k 4 5 2 k = τ 5 2 k from up_k (by decide)]
    have e3 : jgM μ k = sOv (up μ 8 26 k 4) k := if_pos hg
    refine ⟨?_, fun i o => ?_⟩
    · rw [e2, e3]
      exact JR_go h hs hn hm hk hk2 (by decide) ho
    · have e5 : sJud τ 5 3 k 5 4 i = up τ 5 4 k 4 5 4 i := by
        rw [e2, sLay_fr (fun z => absurd z.1 (by decide)), sFree_fr (fun z => absurd z.1 (by decide))]
      have o' : opn (up τ 5 4 k 4) i := by
        unfold opn at o ⊢
        rw [e5] at o
        exact o
      exact opn_st (by decide) o'
  · have e1 : vV τ 5 3 k = 5 := by unfold vV; rw [if_pos hC, if_neg (fun z => hg (vg.mp z))]
    have e2 : sJud τ 5 3 k = up τ 5 4 k 5 := by
      unfold sJud sCar
      rw [if_pos hC, e1, if_neg (fun z => absurd z.2 (by decide))]
    have e3 : jgM μ k = up μ 8 26 k 5 := if_neg hg
    rw [e2, e3]
    exact ⟨JR_close h (by decide), fun i o => opn_st (by decide) o⟩
theorem jb_eq {τ μ : rS} {n m c : Nat} {day : Int32} (h : JR τ μ n m c) (h3 : R3 τ μ 3 0) (hs : τ 3 7 0 = nI n) (hn : n ≤ 12) (hm : m ≤ 24) : ∀ j, j ≤ c → JR (itS (jbStep 5 3 day) j τ) (itS (pgStep day) j μ) n m c := by
  intro j
  induction j with
  | zero => intro _; exact h
  | succ j ih =>
    intro hj
    have ih := ih (by omega)
    have f := nI_facts (j := j) 40 (by omega : j < c) h.1.2.2.1 (by decide) rfl
    show JR (jbStep 5 3 day j (itS (jbStep 5 3 day) j τ)) (pgStep day j (itS (pgStep day) j μ)) n m c
    have g3 : R3 (itS (jbStep 5 3 day) j τ) (itS (pgStep day) j μ) 3 0 := by
      intro x a b
      rw [jb_fr (by decide) (by decide), jb_fr (by decide) (by decide), pg_fr (by decide), pg_fr (by decide)]
      exact h3 x a b
    have gs : itS (jbStep 5 3 day) j τ 3 7 0 = nI n := by rw [jb_fr (by decide) (by decide)]; exact hs
    generalize itS (jbStep 5 3 day) j τ = S at *
    generalize itS (pgStep day) j μ = R at *
    obtain ⟨r1, r2⟩ := run_op ih.1 f.1 f.2.1
    have e5 := (ih.1.2.2.2 (nI j) f.1 f.2.1).2.2.2.2.2.1
    unfold jbStep pgStep
    by_cases hc : R 8 26 (nI j) < 2 ∧ R 8 27 (nI j) < day
    · rw [if_pos hc, if_pos ⟨r1.mpr (r2.mpr hc.1), by rw [e5]; exact hc.2⟩]
      exact (JR_jud ih g3 gs hn hm f.1 f.2.1 (r2.mpr hc.1)).1
    · rw [if_neg hc, if_neg (fun z => hc ⟨r2.mp (r1.mp z.1), by rw [← e5]; exact z.2⟩)]
      exact ih
theorem ja_eq {τ μ : rS} {n m c : Nat} (h : JR τ μ n m c) (h3 : R3 τ μ 3 0) (hs : τ 3 7 0 = nI n) (hn : n ≤ 12) (hm : m ≤ 24) : ∀ j, j ≤ c → JR (itS (jaStep 5 3) j τ) (itS egStep j μ) n m c ∧ (∀ i, i < j → ¬ opn (itS (jaStep 5 3) j τ) (nI i)) := by
  intro j
  induction j with
  | zero => intro _; exact ⟨h, fun i hi => by omega⟩
  | succ j ih =>
    intro hj
    obtain ⟨ih, ihc⟩ := ih (by omega)
    have f := nI_facts (j := j) 40 (by omega : j < c) h.1.2.2.1 (by decide) rfl
    show JR (jaStep 5 3 j (itS (jaStep 5 3) j τ)) (egStep j (itS egStep j μ)) n m c ∧ (∀ i, i < j + 1 → ¬ opn (jaStep 5 3 j (itS (jaStep 5 3) j τ)) (nI i))
    have g3 : R3 (itS (jaStep 5 3) j τ) (itS egStep j μ) 3 0 := by
      intro x a b
      rw [ja_fr (by decide) (by decide), ja_fr (by decide) (by decide), eg_fr (by decide), eg_fr (by decide)]
      exact h3 x a b
    have gs : itS (jaStep 5 3) j τ 3 7 0 = nI n := by rw [ja_fr (by decide) (by decide)]; exact hs
    generalize itS (jaStep 5 3) j τ = S at *
    generalize itS egStep j μ = R at *
    obtain ⟨r1, r2⟩ := run_op ih.1 f.1 f.2.1
    unfold jaStep egStep
    by_cases hc : R 8 26 (nI j) < 2
    · rw [if_pos hc, if_pos (r1.mpr (r2.mpr hc))]
      obtain ⟨j1, j2⟩ := JR_jud ih g3 gs hn hm f.1 f.2.1 (r2.mpr hc)
      refine ⟨j1, fun i hi o => ?_⟩
      obtain ⟨o1, o2⟩ := j2 _ o
      by_cases hij : i = j
      · exact o2 (by rw [hij])
      · exact ihc i (by omega) o1
    · rw [if_neg hc, if_neg (fun z => hc (r2.mp (r1.mp z)))]
      refine ⟨ih, fun i hi o => ?_⟩
      by_cases hij : i = j
      · rw [hij] at o
        exact hc (r2.mp o)
      · exact ihc i (by omega) o
