-- the reference: the rest but its reader
abbrev maB (τ : rS) (k : Int32) : Prop := ¬ τ 8 16 0 = 0 ∧ 0 ≤ k ∧ k < τ 8 21 0 ∧ τ 8 26 k = 0
theorem c_X6_answer {k b : Int32} {τ : rS} {c : Nat} {σ : rS} (hz : up σ 8 2 0 0 = τ) (hc : τ 8 21 0 = nI c) (hc2 : c ≤ 40) (hg : MIg τ c) : Ct mX6_answer [.inr (8, 0), .inl k, .inl b] σ (some (.inl (bI (maB τ k)))) (if maB τ k then (if b = 0 then up (up τ 8 26 k 1) 8 27 k (τ 8 17 0 + τ 8 5 3) else sOv (up τ 8 26 k 2) k) else τ) := by
  refine C_of_E rfl rfl (Nat.le_of_ble_eq_true rfl) ?_
  have f8 := nI_le40 hc2
  refine e_aload_n dX6_answer_0 rfl ?_
  refine e_iconst (v := 0) dX6_answer_1 (by decide) ?_
  refine e_putI kX6 (by first | assumption | exact ⟨by decide, rfl⟩) (by decide) fX6_75 rfl rfl rfl dX6_answer_2 ?_
  rw [hz]
  refine e_aload_n dX6_answer_5 rfl ?_
  refine e_getI kX6 (by first | assumption | exact ⟨by decide, rfl⟩) (by decide) fX6_132 rfl dX6_answer_6 ?_
  refine e_if_eq (tgt := 33) dX6_answer_9 (by decide) (fun h9 => ?_) (fun h9 => ?_)
  ·
    refine e_iconst (v := 0) dX6_answer_33 (by decide) ?_
    exact e_ret0 rfl dX6_answer_34 (by grind) (by first | rw [if_neg (by grind)] | (rw [if_pos (by grind)]; first | (rw [if_neg (by grind)]; done) | (rw [if_pos (by grind)]; simp [up])))
  ·
    refine e_iload_n dX6_answer_12 rfl ?_
    refine e_if_lt (tgt := 33) dX6_answer_13 (by decide) (fun h13 => ?_) (fun h13 => ?_)
    ·
      refine e_iconst (v := 0) dX6_answer_33 (by decide) ?_
      exact e_ret0 rfl dX6_answer_34 (by grind) (by first | rw [if_neg (by grind)] | (rw [if_pos (by grind)]; first | (rw [if_neg (by grind)]; done) | (rw [if_pos (by grind)]; simp [up])))
    ·
      refine e_iload_n dX6_answer_16 rfl ?_
      refine e_aload_n dX6_answer_17 rfl ?_
      refine e_getI kX6 (by first | assumption | exact ⟨by decide, rfl⟩) (by decide) fX6_165 rfl dX6_answer_18 ?_
      refine e_icmp_ge (tgt := 33) dX6_answer_21 (by decide) (fun h21 => ?_) (fun h21 => ?_)
      ·
        refine e_iconst (v := 0) dX6_answer_33 (by decide) ?_
        exact e_ret0 rfl dX6_answer_34 (by grind) (by first | rw [if_neg (by grind)] | (rw [if_pos (by grind)]; first | (rw [if_neg (by grind)]; done) | (rw [if_pos (by grind)]; simp [up])))
      ·
        refine e_aload_n dX6_answer_24 rfl ?_
        refine e_getA kX6 (by first | assumption | exact ⟨by decide, rfl⟩) (by decide) fX6_60 rfl dX6_answer_25 ?_
        refine e_iload_n dX6_answer_28 rfl ?_
        refine e_iald (ci := 6) (by first | assumption | exact ⟨by decide, rfl⟩) rfl (vin 40 (by decide) (by grind)) dX6_answer_29 ?_
        refine e_if_eq (tgt := 35) dX6_answer_30 (by decide) (fun h30 => ?_) (fun h30 => ?_)
        ·
          refine e_iload_n dX6_answer_35 rfl ?_
          refine e_if_eq (tgt := 54) dX6_answer_36 (by decide) (fun h36 => ?_) (fun h36 => ?_)
          ·
            refine e_aload_n dX6_answer_54 rfl ?_
            refine e_getA kX6 (by first | assumption | exact ⟨by decide, rfl⟩) (by decide) fX6_60 rfl dX6_answer_55 ?_
            refine e_iload_n dX6_answer_58 rfl ?_
            refine e_iconst (v := 1) dX6_answer_59 (by decide) ?_
            refine e_iast (ci := 6) (by first | assumption | exact ⟨by decide, rfl⟩) rfl (vin 40 (by decide) (by grind)) dX6_answer_60 ?_
            refine e_aload_n dX6_answer_61 rfl ?_
            refine e_getA kX6 (by first | assumption | exact ⟨by decide, rfl⟩) (by decide) fX6_63 rfl dX6_answer_62 ?_
            refine e_iload_n dX6_answer_65 rfl ?_
            refine e_aload_n dX6_answer_66 rfl ?_
            refine e_getI kX6 (by first | assumption | exact ⟨by decide, rfl⟩) (by decide) fX6_162 rfl dX6_answer_67 ?_
            refine e_aload_n dX6_answer_70 rfl ?_
            refine e_getA kX6 (by first | assumption | exact ⟨by decide, rfl⟩) (by decide) fX6_19 rfl dX6_answer_71 ?_
            refine e_iconst (v := 3) dX6_answer_74 (by decide) ?_
            refine e_iald (ci := 6) (by first | assumption | exact ⟨by decide, rfl⟩) rfl (vin 8 (by decide) (by grind)) dX6_answer_75 ?_
            refine e_iadd dX6_answer_76 ?_
            refine e_iast (ci := 6) (by first | assumption | exact ⟨by decide, rfl⟩) rfl (vin 40 (by decide) (by grind)) dX6_answer_77 ?_
            refine e_iconst (v := 1) dX6_answer_78 (by decide) ?_
            exact e_ret1 rfl dX6_answer_79 (by grind) (by first | rw [if_neg (by grind)] | (rw [if_pos (by grind)]; first | (rw [if_neg (by grind)]; done) | (rw [if_pos (by grind)]; simp [up])))
          ·
            refine e_aload_n dX6_answer_39 rfl ?_
            refine e_getA kX6 (by first | assumption | exact ⟨by decide, rfl⟩) (by decide) fX6_60 rfl dX6_answer_40 ?_
            refine e_iload_n dX6_answer_43 rfl ?_
            refine e_iconst (v := 2) dX6_answer_44 (by decide) ?_
            refine e_iast (ci := 6) (by first | assumption | exact ⟨by decide, rfl⟩) rfl (vin 40 (by decide) (by grind)) dX6_answer_45 ?_
            refine e_aload_n dX6_answer_46 rfl ?_
            refine e_iload_n dX6_answer_47 rfl ?_
            refine e_V1v oX6_over lX6_178 ⟨Nat.le_of_ble_eq_true rfl, Nat.le_of_ble_eq_true rfl⟩ dX6_answer_48 (by first | assumption | exact ⟨by decide, rfl⟩) (Nat.le_of_ble_eq_true rfl) (c_X6_over (by grind) (by have h9 := hg k (by grind) (by grind); unfold rgB; rw [up_k (by decide), up_k (by decide), up_k (by decide)]; exact h9)) ?_
            refine e_goto (tgt := 78) dX6_answer_51 (by decide) ?_
            refine e_iconst (v := 1) dX6_answer_78 (by decide) ?_
            exact e_ret1 rfl dX6_answer_79 (by grind) (by first | rw [if_neg (by grind)] | (rw [if_pos (by grind)]; first | (rw [if_neg (by grind)]; done) | (rw [if_pos (by grind)]; simp [up])))
        ·
          refine e_iconst (v := 0) dX6_answer_33 (by decide) ?_
          exact e_ret0 rfl dX6_answer_34 (by grind) (by first | rw [if_neg (by grind)] | (rw [if_pos (by grind)]; first | (rw [if_neg (by grind)]; done) | (rw [if_pos (by grind)]; simp [up])))
abbrev msB (τ : rS) (k b : Int32) : Prop := ¬ τ 8 16 0 = 0 ∧ 0 ≤ k ∧ k < τ 8 21 0 ∧ τ 8 26 k = 1 ∧ ((¬ b = 0 ∧ τ 8 28 k = 0) ∨ (b = 0 ∧ τ 8 29 k = 0))
def sSw1 (τ : rS) (k b : Int32) : rS := if b = 0 then up τ 8 29 k 1 else up τ 8 28 k 1
def sSw2 (τ : rS) (k : Int32) : rS := up (up (up (up (up τ 8 26 k 3) 8 11 (τ 8 22 k) (τ 8 11 (τ 8 23 k))) 8 11 (τ 8 23 k) (τ 8 11 (τ 8 22 k))) 8 12 (τ 8 22 k) (τ 8 12 (τ 8 23 k))) 8 12 (τ 8 23 k) (τ 8 12 (τ 8 22 k))
def sSw (τ : rS) (k b : Int32) : rS := if sSw1 τ k b 8 28 k = 0 ∨ sSw1 τ k b 8 29 k = 0 then sSw1 τ k b else sSw2 (sSw1 τ k b) k
theorem c_X6_swear {k b : Int32} {τ : rS} {c : Nat} {σ : rS} (hz : up σ 8 2 0 0 = τ) (hc : τ 8 21 0 = nI c) (hc2 : c ≤ 40) (hg : MIg τ c) : Ct mX6_swear [.inr (8, 0), .inl k, .inl b] σ (some (.inl (bI (msB τ k b)))) (if msB τ k b then sSw τ k b else τ) := by
  refine C_of_E rfl rfl (Nat.le_of_ble_eq_true rfl) ?_
  have f8 := nI_le40 hc2
  have S3 : ∀ S : rS, msB τ k b → (0 ≤ k ∧ k < 40) → rgB S k → E mX6_swear 102 [.inr (8, 0), .inl k, .inl b] [] S (some (.inl (bI (msB τ k b)))) (sSw2 S k) := by
    intro S hms hk hgS
    obtain ⟨q1, q2, q3, q4, q5, q6⟩ := hgS
    refine e_aload_n dX6_swear_102 rfl ?_
    refine e_getA kX6 (by first | assumption | exact ⟨by decide, rfl⟩) (by decide) fX6_60 rfl dX6_swear_103 ?_
    refine e_iload_n dX6_swear_106 rfl ?_
    refine e_iconst (v := 3) dX6_swear_107 (by decide) ?_
    refine e_iast (ci := 6) (by first | assumption | exact ⟨by decide, rfl⟩) rfl (vin 40 (by decide) hk) dX6_swear_108 ?_
    refine e_aload_n dX6_swear_109 rfl ?_
    refine e_getA kX6 (by first | assumption | exact ⟨by decide, rfl⟩) (by decide) fX6_48 rfl dX6_swear_110 ?_
    refine e_iload_n dX6_swear_113 rfl ?_
    refine e_iald (ci := 6) (by first | assumption | exact ⟨by decide, rfl⟩) rfl (vin 40 (by decide) hk) dX6_swear_114 ?_
    rw [up_k (by decide)]
    refine e_istore_n dX6_swear_115 (by decide) (Nat.le_of_ble_eq_true rfl) ?_
    refine e_aload_n dX6_swear_116 rfl ?_
    refine e_getA kX6 (by first | assumption | exact ⟨by decide, rfl⟩) (by decide) fX6_51 rfl dX6_swear_117 ?_
    refine e_iload_n dX6_swear_120 rfl ?_
    refine e_iald (ci := 6) (by first | assumption | exact ⟨by decide, rfl⟩) rfl (vin 40 (by decide) hk) dX6_swear_121 ?_
    rw [up_k (by decide)]
    refine e_istore dX6_swear_122 (by decide) (Nat.le_of_ble_eq_true rfl) ?_
    refine e_aload_n dX6_swear_124 rfl ?_
    refine e_getA kX6 (by first | assumption | exact ⟨by decide, rfl⟩) (by decide) fX6_29 rfl dX6_swear_125 ?_
    refine e_iload_n dX6_swear_128 rfl ?_
    refine e_iald (ci := 6) (by first | assumption | exact ⟨by decide, rfl⟩) rfl (vin 24 (by decide) ⟨by assumption, by grind⟩) dX6_swear_129 ?_
    refine e_istore dX6_swear_130 (by decide) (Nat.le_of_ble_eq_true rfl) ?_
    refine e_aload_n dX6_swear_132 rfl ?_
    refine e_getA kX6 (by first | assumption | exact ⟨by decide, rfl⟩) (by decide) fX6_29 rfl dX6_swear_133 ?_
    refine e_iload_n dX6_swear_136 rfl ?_
    refine e_aload_n dX6_swear_137 rfl ?_
    refine e_getA kX6 (by first | assumption | exact ⟨by decide, rfl⟩) (by decide) fX6_29 rfl dX6_swear_138 ?_
    refine e_iload dX6_swear_141 rfl ?_
    refine e_iald (ci := 6) (by first | assumption | exact ⟨by decide, rfl⟩) rfl (vin 24 (by decide) ⟨by assumption, by grind⟩) dX6_swear_143 ?_
    refine e_iast (ci := 6) (by first | assumption | exact ⟨by decide, rfl⟩) rfl (vin 24 (by decide) ⟨by assumption, by grind⟩) dX6_swear_144 ?_
    refine e_aload_n dX6_swear_145 rfl ?_
    refine e_getA kX6 (by first | assumption | exact ⟨by decide, rfl⟩) (by decide) fX6_29 rfl dX6_swear_146 ?_
    refine e_iload dX6_swear_149 rfl ?_
    refine e_iload dX6_swear_151 rfl ?_
    refine e_iast (ci := 6) (by first | assumption | exact ⟨by decide, rfl⟩) rfl (vin 24 (by decide) ⟨by assumption, by grind⟩) dX6_swear_153 ?_
    refine e_aload_n dX6_swear_154 rfl ?_
    refine e_getA kX6 (by first | assumption | exact ⟨by decide, rfl⟩) (by decide) fX6_32 rfl dX6_swear_155 ?_
    refine e_iload_n dX6_swear_158 rfl ?_
    refine e_iald (ci := 6) (by first | assumption | exact ⟨by decide, rfl⟩) rfl (vin 24 (by decide) ⟨by assumption, by grind⟩) dX6_swear_159 ?_
    refine e_istore dX6_swear_160 (by decide) (Nat.le_of_ble_eq_true rfl) ?_
    refine e_aload_n dX6_swear_162 rfl ?_
    refine e_getA kX6 (by first | assumption | exact ⟨by decide, rfl⟩) (by decide) fX6_32 rfl dX6_swear_163 ?_
    refine e_iload_n dX6_swear_166 rfl ?_
    refine e_aload_n dX6_swear_167 rfl ?_
    refine e_getA kX6 (by first | assumption | exact ⟨by decide, rfl⟩) (by decide) fX6_32 rfl dX6_swear_168 ?_
    refine e_iload dX6_swear_171 rfl ?_
    refine e_iald (ci := 6) (by first | assumption | exact ⟨by decide, rfl⟩) rfl (vin 24 (by decide) ⟨by assumption, by grind⟩) dX6_swear_173 ?_
    refine e_iast (ci := 6) (by first | assumption | exact ⟨by decide, rfl⟩) rfl (vin 24 (by decide) ⟨by assumption, by grind⟩) dX6_swear_174 ?_
    refine e_aload_n dX6_swear_175 rfl ?_
    refine e_getA kX6 (by first | assumption | exact ⟨by decide, rfl⟩) (by decide) fX6_32 rfl dX6_swear_176 ?_
    refine e_iload dX6_swear_179 rfl ?_
    refine e_iload dX6_swear_181 rfl ?_
    refine e_iast (ci := 6) (by first | assumption | exact ⟨by decide, rfl⟩) rfl (vin 24 (by decide) ⟨by assumption, by grind⟩) dX6_swear_183 ?_
    refine e_iconst (v := 1) dX6_swear_184 (by decide) ?_
    exact e_ret1 rfl dX6_swear_185 hms (by simp [sSw2, up])
  have S2 : ∀ S : rS, msB τ k b → (0 ≤ k ∧ k < 40) → rgB S k → E mX6_swear 82 [.inr (8, 0), .inl k, .inl b] [] S (some (.inl (bI (msB τ k b)))) (if S 8 28 k = 0 ∨ S 8 29 k = 0 then S else sSw2 S k) := by
    intro S hms hk hgS
    refine e_aload_n dX6_swear_82 rfl ?_
    refine e_getA kX6 (by first | assumption | exact ⟨by decide, rfl⟩) (by decide) fX6_66 rfl dX6_swear_83 ?_
    refine e_iload_n dX6_swear_86 rfl ?_
    refine e_zald (ci := 6) (by first | assumption | exact ⟨by decide, rfl⟩) rfl (vin 40 (by decide) hk) dX6_swear_87 ?_
    refine e_if_eq (tgt := 100) dX6_swear_88 (by decide) (fun h88 => ?_) (fun h88 => ?_)
    ·
      refine e_iconst (v := 1) dX6_swear_100 (by decide) ?_
      exact e_ret1 rfl dX6_swear_101 hms (by rw [if_pos (by grind)])
    ·
      refine e_aload_n dX6_swear_91 rfl ?_
      refine e_getA kX6 (by first | assumption | exact ⟨by decide, rfl⟩) (by decide) fX6_69 rfl dX6_swear_92 ?_
      refine e_iload_n dX6_swear_95 rfl ?_
      refine e_zald (ci := 6) (by first | assumption | exact ⟨by decide, rfl⟩) rfl (vin 40 (by decide) hk) dX6_swear_96 ?_
      refine e_if_ne (tgt := 102) dX6_swear_97 (by decide) (fun h97 => ?_) (fun h97 => ?_)
      ·
        rw [if_neg (by grind)]
        exact e_to (S3 S hms hk hgS) (by first | rfl | (simp [lset]; done) | (simp [lset]; grind)) rfl
      ·
        refine e_iconst (v := 1) dX6_swear_100 (by decide) ?_
        exact e_ret1 rfl dX6_swear_101 hms (by rw [if_pos (by grind)])
  have S1 : msB τ k b → (0 ≤ k ∧ k < 40) → rgB τ k → E mX6_swear 61 [.inr (8, 0), .inl k, .inl b] [] τ (some (.inl (bI (msB τ k b)))) (sSw τ k b) := by
    intro hms hk hgS
    have hb1 : b = 0 → sSw1 τ k b = up τ 8 29 k 1 := fun h => if_pos h
    have hb2 : ¬ b = 0 → sSw1 τ k b = up τ 8 28 k 1 := fun h => if_neg h
    have hg1 : ∀ k' v, (k' = 28 ∨ k' = 29) → rgB (up τ 8 k' k v) k := by
      intro k' v hk'
      unfold rgB
      rw [up_k (by grind), up_k (by grind), up_k (by grind)]
      exact hgS
    unfold sSw
    refine e_iload_n dX6_swear_61 rfl ?_
    refine e_if_eq (tgt := 75) dX6_swear_62 (by decide) (fun h62 => ?_) (fun h62 => ?_)
    ·
      refine e_aload_n dX6_swear_75 rfl ?_
      refine e_getA kX6 (by first | assumption | exact ⟨by decide, rfl⟩) (by decide) fX6_69 rfl dX6_swear_76 ?_
      refine e_iload_n dX6_swear_79 rfl ?_
      refine e_iconst (v := 1) dX6_swear_80 (by decide) ?_
      refine e_zast (ci := 6) (by first | assumption | exact ⟨by decide, rfl⟩) rfl (vin 40 (by decide) hk) (by first | exact bI_or | simp) dX6_swear_81 ?_
      first | rw [hb1 (by assumption)] | rw [hb2 (by assumption)]
      exact e_to (S2 _ hms hk (hg1 _ _ (by decide))) (by first | rfl | (simp [lset]; done) | (simp [lset]; grind)) rfl
    ·
      refine e_aload_n dX6_swear_65 rfl ?_
      refine e_getA kX6 (by first | assumption | exact ⟨by decide, rfl⟩) (by decide) fX6_66 rfl dX6_swear_66 ?_
      refine e_iload_n dX6_swear_69 rfl ?_
      refine e_iconst (v := 1) dX6_swear_70 (by decide) ?_
      refine e_zast (ci := 6) (by first | assumption | exact ⟨by decide, rfl⟩) rfl (vin 40 (by decide) hk) (by first | exact bI_or | simp) dX6_swear_71 ?_
      refine e_goto (tgt := 82) dX6_swear_72 (by decide) ?_
      first | rw [hb1 (by assumption)] | rw [hb2 (by assumption)]
      exact e_to (S2 _ hms hk (hg1 _ _ (by decide))) (by first | rfl | (simp [lset]; done) | (simp [lset]; grind)) rfl
  refine e_aload_n dX6_swear_0 rfl ?_
  refine e_iconst (v := 0) dX6_swear_1 (by decide) ?_
  refine e_putI kX6 (by first | assumption | exact ⟨by decide, rfl⟩) (by decide) fX6_75 rfl rfl rfl dX6_swear_2 ?_
  rw [hz]
  refine e_aload_n dX6_swear_5 rfl ?_
  refine e_getI kX6 (by first | assumption | exact ⟨by decide, rfl⟩) (by decide) fX6_132 rfl dX6_swear_6 ?_
  refine e_if_eq (tgt := 59) dX6_swear_9 (by decide) (fun h9 => ?_) (fun h9 => ?_)
  ·
    refine e_iconst (v := 0) dX6_swear_59 (by decide) ?_
    exact e_ret0 rfl dX6_swear_60 (by grind) (by rw [if_neg (by grind)])
  ·
    refine e_iload_n dX6_swear_12 rfl ?_
    refine e_if_lt (tgt := 59) dX6_swear_13 (by decide) (fun h13 => ?_) (fun h13 => ?_)
    ·
      refine e_iconst (v := 0) dX6_swear_59 (by decide) ?_
      exact e_ret0 rfl dX6_swear_60 (by grind) (by rw [if_neg (by grind)])
    ·
      refine e_iload_n dX6_swear_16 rfl ?_
      refine e_aload_n dX6_swear_17 rfl ?_
      refine e_getI kX6 (by first | assumption | exact ⟨by decide, rfl⟩) (by decide) fX6_165 rfl dX6_swear_18 ?_
      refine e_icmp_ge (tgt := 59) dX6_swear_21 (by decide) (fun h21 => ?_) (fun h21 => ?_)
      ·
        refine e_iconst (v := 0) dX6_swear_59 (by decide) ?_
        exact e_ret0 rfl dX6_swear_60 (by grind) (by rw [if_neg (by grind)])
      ·
        refine e_aload_n dX6_swear_24 rfl ?_
        refine e_getA kX6 (by first | assumption | exact ⟨by decide, rfl⟩) (by decide) fX6_60 rfl dX6_swear_25 ?_
        refine e_iload_n dX6_swear_28 rfl ?_
        refine e_iald (ci := 6) (by first | assumption | exact ⟨by decide, rfl⟩) rfl (vin 40 (by decide) (by grind)) dX6_swear_29 ?_
        refine e_iconst (v := 1) dX6_swear_30 (by decide) ?_
        refine e_icmp_ne (tgt := 59) dX6_swear_31 (by decide) (fun h31 => ?_) (fun h31 => ?_)
        ·
          refine e_iconst (v := 0) dX6_swear_59 (by decide) ?_
          exact e_ret0 rfl dX6_swear_60 (by grind) (by rw [if_neg (by grind)])
        ·
          refine e_iload_n dX6_swear_34 rfl ?_
          refine e_if_eq (tgt := 50) dX6_swear_35 (by decide) (fun h35 => ?_) (fun h35 => ?_)
          ·
            refine e_aload_n dX6_swear_50 rfl ?_
            refine e_getA kX6 (by first | assumption | exact ⟨by decide, rfl⟩) (by decide) fX6_69 rfl dX6_swear_51 ?_
            refine e_iload_n dX6_swear_54 rfl ?_
            refine e_zald (ci := 6) (by first | assumption | exact ⟨by decide, rfl⟩) rfl (vin 40 (by decide) (by grind)) dX6_swear_55 ?_
            refine e_if_eq (tgt := 61) dX6_swear_56 (by decide) (fun h56 => ?_) (fun h56 => ?_)
            ·
              have hms : msB τ k b := by grind
              rw [if_pos hms]
              exact e_to (S1 hms (by grind) (hg k (by grind) (by grind))) (by first | rfl | (simp [lset]; done) | (simp [lset]; grind)) rfl
            ·
              refine e_iconst (v := 0) dX6_swear_59 (by decide) ?_
              exact e_ret0 rfl dX6_swear_60 (by grind) (by rw [if_neg (by grind)])
          ·
            refine e_aload_n dX6_swear_38 rfl ?_
            refine e_getA kX6 (by first | assumption | exact ⟨by decide, rfl⟩) (by decide) fX6_66 rfl dX6_swear_39 ?_
            refine e_iload_n dX6_swear_42 rfl ?_
            refine e_zald (ci := 6) (by first | assumption | exact ⟨by decide, rfl⟩) rfl (vin 40 (by decide) (by grind)) dX6_swear_43 ?_
            refine e_if_eq (tgt := 61) dX6_swear_44 (by decide) (fun h44 => ?_) (fun h44 => ?_)
            ·
              have hms : msB τ k b := by grind
              rw [if_pos hms]
              exact e_to (S1 hms (by grind) (hg k (by grind) (by grind))) (by first | rfl | (simp [lset]; done) | (simp [lset]; grind)) rfl
            ·
              refine e_goto (tgt := 59) dX6_swear_47 (by decide) ?_
              refine e_iconst (v := 0) dX6_swear_59 (by decide) ?_
              exact e_ret0 rfl dX6_swear_60 (by grind) (by rw [if_neg (by grind)])
theorem c_X6_told {k w : Int32} {τ : rS} {c : Nat} {σ : rS} (hz : up σ 8 2 0 0 = τ) (hc : τ 8 21 0 = nI c) (hc2 : c ≤ 40) : Ct mX6_told [.inr (8, 0), .inl k, .inl w] σ (some (.inl (if 0 ≤ k ∧ k < nI c then (if w = 0 then τ 8 22 k else if w = 1 then τ 8 23 k else if w = 2 then τ 8 24 k else if w = 3 then τ 8 25 k else if w = 4 then τ 8 26 k else if w = 5 then (if τ 8 26 k < 2 then τ 8 27 k else -1) else -1) else -1))) (τ) := by
  refine C_of_E rfl rfl (Nat.le_of_ble_eq_true rfl) ?_
  have f8 := nI_le40 hc2
  refine e_aload_n dX6_told_0 rfl ?_
  refine e_iconst (v := 0) dX6_told_1 (by decide) ?_
  refine e_putI kX6 (by first | assumption | exact ⟨by decide, rfl⟩) (by decide) fX6_75 rfl rfl rfl dX6_told_2 ?_
  rw [hz]
  refine e_iload_n dX6_told_5 rfl ?_
  refine e_if_lt (tgt := 17) dX6_told_6 (by decide) (fun h6 => ?_) (fun h6 => ?_)
  ·
    refine e_iconst (v := -1) dX6_told_17 (by decide) ?_
    exact e_ireq rfl rfl dX6_told_18 (by grind) rfl
  ·
    refine e_iload_n dX6_told_9 rfl ?_
    refine e_aload_n dX6_told_10 rfl ?_
    refine e_getI kX6 (by first | assumption | exact ⟨by decide, rfl⟩) (by decide) fX6_165 rfl dX6_told_11 ?_
    refine e_icmp_lt (tgt := 19) dX6_told_14 (by decide) (fun h14 => ?_) (fun h14 => ?_)
    ·
      refine e_iload_n dX6_told_19 rfl ?_
      refine e_tab6 60 67 74 81 88 95 114 dX6_told_20 (by decide) (by decide) (by decide) (by decide) (by decide) (by decide) (by decide) (fun h20 => ?_) (fun h20 => ?_) (fun h20 => ?_) (fun h20 => ?_) (fun h20 => ?_) (fun h20 => ?_) (fun h20 => ?_)
      ·
        refine e_aload_n dX6_told_60 rfl ?_
        refine e_getA kX6 (by first | assumption | exact ⟨by decide, rfl⟩) (by decide) fX6_48 rfl dX6_told_61 ?_
        refine e_iload_n dX6_told_64 rfl ?_
        refine e_iald (ci := 6) (by first | assumption | exact ⟨by decide, rfl⟩) rfl (vin 40 (by decide) (by grind)) dX6_told_65 ?_
        exact e_ireq rfl rfl dX6_told_66 (by grind) rfl
      ·
        refine e_aload_n dX6_told_67 rfl ?_
        refine e_getA kX6 (by first | assumption | exact ⟨by decide, rfl⟩) (by decide) fX6_51 rfl dX6_told_68 ?_
        refine e_iload_n dX6_told_71 rfl ?_
        refine e_iald (ci := 6) (by first | assumption | exact ⟨by decide, rfl⟩) rfl (vin 40 (by decide) (by grind)) dX6_told_72 ?_
        exact e_ireq rfl rfl dX6_told_73 (by grind) rfl
      ·
        refine e_aload_n dX6_told_74 rfl ?_
        refine e_getA kX6 (by first | assumption | exact ⟨by decide, rfl⟩) (by decide) fX6_54 rfl dX6_told_75 ?_
        refine e_iload_n dX6_told_78 rfl ?_
        refine e_iald (ci := 6) (by first | assumption | exact ⟨by decide, rfl⟩) rfl (vin 40 (by decide) (by grind)) dX6_told_79 ?_
        exact e_ireq rfl rfl dX6_told_80 (by grind) rfl
      ·
        refine e_aload_n dX6_told_81 rfl ?_
        refine e_getA kX6 (by first | assumption | exact ⟨by decide, rfl⟩) (by decide) fX6_57 rfl dX6_told_82 ?_
        refine e_iload_n dX6_told_85 rfl ?_
        refine e_iald (ci := 6) (by first | assumption | exact ⟨by decide, rfl⟩) rfl (vin 40 (by decide) (by grind)) dX6_told_86 ?_
        exact e_ireq rfl rfl dX6_told_87 (by grind) rfl
      ·
        refine e_aload_n dX6_told_88 rfl ?_
        refine e_getA kX6 (by first | assumption | exact ⟨by decide, rfl⟩) (by decide) fX6_60 rfl dX6_told_89 ?_
        refine e_iload_n dX6_told_92 rfl ?_
        refine e_iald (ci := 6) (by first | assumption | exact ⟨by decide, rfl⟩) rfl (vin 40 (by decide) (by grind)) dX6_told_93 ?_
        exact e_ireq rfl rfl dX6_told_94 (by grind) rfl
      ·
        refine e_aload_n dX6_told_95 rfl ?_
        refine e_iload_n dX6_told_96 rfl ?_
        refine e_V1 oX6_isOpen lX6_182 ⟨Nat.le_of_ble_eq_true rfl, Nat.le_of_ble_eq_true rfl⟩ dX6_told_97 (by first | assumption | exact ⟨by decide, rfl⟩) (Nat.le_of_ble_eq_true rfl) (c_X6_isOpen (by grind)) ?_
        refine e_if_eqB (tgt := 112) dX6_told_100 (by decide) (fun h100 => ?_) (fun h100 => ?_)
        ·
          refine e_iconst (v := -1) dX6_told_112 (by decide) ?_
          exact e_ireq rfl rfl dX6_told_113 (by grind) rfl
        ·
          refine e_aload_n dX6_told_103 rfl ?_
          refine e_getA kX6 (by first | assumption | exact ⟨by decide, rfl⟩) (by decide) fX6_63 rfl dX6_told_104 ?_
          refine e_iload_n dX6_told_107 rfl ?_
          refine e_iald (ci := 6) (by first | assumption | exact ⟨by decide, rfl⟩) rfl (vin 40 (by decide) (by grind)) dX6_told_108 ?_
          refine e_goto (tgt := 113) dX6_told_109 (by decide) ?_
          exact e_ireq rfl rfl dX6_told_113 (by grind) rfl
      ·
        refine e_iconst (v := -1) dX6_told_114 (by decide) ?_
        exact e_ireq rfl rfl dX6_told_115 (by grind) rfl
    ·
      refine e_iconst (v := -1) dX6_told_17 (by decide) ?_
      exact e_ireq rfl rfl dX6_told_18 (by grind) rfl
theorem c_X6_count {w : Int32} {τ : rS} {σ : rS} (hz : up σ 8 2 0 0 = τ) : Ct mX6_count [.inr (8, 0), .inl w] σ (some (.inl (if w = 0 then τ 8 10 0 else if w = 1 then τ 8 6 0 else if w = 2 then τ 8 15 0 else if w = 3 then (if ¬ τ 8 16 0 = 0 then τ 8 17 0 else -1) else if w = 4 then τ 8 21 0 else if w = 5 then τ 8 20 0 else -1))) (τ) := by
  refine C_of_E rfl rfl (Nat.le_of_ble_eq_true rfl) ?_
  refine e_aload_n dX6_count_0 rfl ?_
  refine e_iconst (v := 0) dX6_count_1 (by decide) ?_
  refine e_putI kX6 (by first | assumption | exact ⟨by decide, rfl⟩) (by decide) fX6_75 rfl rfl rfl dX6_count_2 ?_
  rw [hz]
  refine e_iload_n dX6_count_5 rfl ?_
  refine e_tab6 44 49 54 59 75 80 85 dX6_count_6 (by decide) (by decide) (by decide) (by decide) (by decide) (by decide) (by decide) (fun h6 => ?_) (fun h6 => ?_) (fun h6 => ?_) (fun h6 => ?_) (fun h6 => ?_) (fun h6 => ?_) (fun h6 => ?_)
  ·
    refine e_aload_n dX6_count_44 rfl ?_
    refine e_getI kX6 (by first | assumption | exact ⟨by decide, rfl⟩) (by decide) fX6_142 rfl dX6_count_45 ?_
    exact e_ireq rfl rfl dX6_count_48 (by grind) rfl
  ·
    refine e_aload_n dX6_count_49 rfl ?_
    refine e_getI kX6 (by first | assumption | exact ⟨by decide, rfl⟩) (by decide) fX6_139 rfl dX6_count_50 ?_
    exact e_ireq rfl rfl dX6_count_53 (by grind) rfl
  ·
    refine e_aload_n dX6_count_54 rfl ?_
    refine e_getI kX6 (by first | assumption | exact ⟨by decide, rfl⟩) (by decide) fX6_155 rfl dX6_count_55 ?_
    exact e_ireq rfl rfl dX6_count_58 (by grind) rfl
  ·
    refine e_aload_n dX6_count_59 rfl ?_
    refine e_getI kX6 (by first | assumption | exact ⟨by decide, rfl⟩) (by decide) fX6_132 rfl dX6_count_60 ?_
    refine e_if_eq (tgt := 73) dX6_count_63 (by decide) (fun h63 => ?_) (fun h63 => ?_)
    ·
      refine e_iconst (v := -1) dX6_count_73 (by decide) ?_
      exact e_ireq rfl rfl dX6_count_74 (by grind) rfl
    ·
      refine e_aload_n dX6_count_66 rfl ?_
      refine e_getI kX6 (by first | assumption | exact ⟨by decide, rfl⟩) (by decide) fX6_162 rfl dX6_count_67 ?_
      refine e_goto (tgt := 74) dX6_count_70 (by decide) ?_
      exact e_ireq rfl rfl dX6_count_74 (by grind) rfl
  ·
    refine e_aload_n dX6_count_75 rfl ?_
    refine e_getI kX6 (by first | assumption | exact ⟨by decide, rfl⟩) (by decide) fX6_165 rfl dX6_count_76 ?_
    exact e_ireq rfl rfl dX6_count_79 (by grind) rfl
  ·
    refine e_aload_n dX6_count_80 rfl ?_
    refine e_getI kX6 (by first | assumption | exact ⟨by decide, rfl⟩) (by decide) fX6_191 rfl dX6_count_81 ?_
    exact e_ireq rfl rfl dX6_count_84 (by grind) rfl
  ·
    refine e_iconst (v := -1) dX6_count_85 (by decide) ?_
    exact e_ireq rfl rfl dX6_count_86 (by grind) rfl
theorem cl_lt24 {i : Int32} {N : Nat} (L : Int32) (hL : L.toInt = N) (h : 0 ≤ i ∧ i < L) : i.toNatClampNeg < N := by
  have h1 := Int32.lt_iff_toInt_lt.mp h.2
  have h3 := Int32.le_iff_toInt_le.mp h.1
  have h2 : i.toNatClampNeg = i.toInt.toNat := rfl
  have h4 : (0 : Int32).toInt = 0 := rfl
  omega
theorem c_X6_part {p : Int32} {τ : rS} {n mm c : Nat} {σ : rS} (hz : up σ 8 2 0 0 = τ) (hM : MI τ n mm c) : Ct mX6_part [.inr (8, 0), .inl p] σ (some (.inl (if ¬ τ 8 16 0 = 0 ∧ 0 ≤ p ∧ p < nI mm ∧ 0 ≤ τ 8 18 p then paM τ p 0 p.toNatClampNeg else -1))) (τ) := by
  refine C_of_E rfl rfl (Nat.le_of_ble_eq_true rfl) ?_
  obtain ⟨hn, hn2, hpl, hmm, hc, hc2, hu, hr, hg⟩ := hM
  have f9 := nI_le24 hmm
  refine e_aload_n dX6_part_0 rfl ?_
  refine e_iconst (v := 0) dX6_part_1 (by decide) ?_
  refine e_putI kX6 (by first | assumption | exact ⟨by decide, rfl⟩) (by decide) fX6_75 rfl rfl rfl dX6_part_2 ?_
  rw [hz]
  refine e_aload_n dX6_part_5 rfl ?_
  refine e_getI kX6 (by first | assumption | exact ⟨by decide, rfl⟩) (by decide) fX6_132 rfl dX6_part_6 ?_
  refine e_if_eq (tgt := 33) dX6_part_9 (by decide) (fun h9 => ?_) (fun h9 => ?_)
  ·
    refine e_iconst (v := -1) dX6_part_33 (by decide) ?_
    refine e_goto (tgt := 43) dX6_part_34 (by decide) ?_
    exact e_ireq rfl rfl dX6_part_43 (by first | rw [if_neg (by grind)] | rw [if_pos (by grind)]) rfl
  ·
    refine e_iload_n dX6_part_12 rfl ?_
    refine e_if_lt (tgt := 33) dX6_part_13 (by decide) (fun h13 => ?_) (fun h13 => ?_)
    ·
      refine e_iconst (v := -1) dX6_part_33 (by decide) ?_
      refine e_goto (tgt := 43) dX6_part_34 (by decide) ?_
      exact e_ireq rfl rfl dX6_part_43 (by first | rw [if_neg (by grind)] | rw [if_pos (by grind)]) rfl
    ·
      refine e_iload_n dX6_part_16 rfl ?_
      refine e_aload_n dX6_part_17 rfl ?_
      refine e_getI kX6 (by first | assumption | exact ⟨by decide, rfl⟩) (by decide) fX6_139 rfl dX6_part_18 ?_
      refine e_icmp_ge (tgt := 33) dX6_part_21 (by decide) (fun h21 => ?_) (fun h21 => ?_)
      ·
        refine e_iconst (v := -1) dX6_part_33 (by decide) ?_
        refine e_goto (tgt := 43) dX6_part_34 (by decide) ?_
        exact e_ireq rfl rfl dX6_part_43 (by first | rw [if_neg (by grind)] | rw [if_pos (by grind)]) rfl
      ·
        refine e_aload_n dX6_part_24 rfl ?_
        refine e_getA kX6 (by first | assumption | exact ⟨by decide, rfl⟩) (by decide) fX6_41 rfl dX6_part_25 ?_
        refine e_iload_n dX6_part_28 rfl ?_
        refine e_iald (ci := 6) (by first | assumption | exact ⟨by decide, rfl⟩) rfl (vin 48 (by decide) (by grind)) dX6_part_29 ?_
        refine e_if_ge (tgt := 37) dX6_part_30 (by decide) (fun h30 => ?_) (fun h30 => ?_)
        ·
          refine e_aload_n dX6_part_37 rfl ?_
          refine e_iload_n dX6_part_38 rfl ?_
          refine e_iconst (v := 0) dX6_part_39 (by decide) ?_
          refine e_V2 oX6_pays lX6_172 ⟨Nat.le_of_ble_eq_true rfl, Nat.le_of_ble_eq_true rfl⟩ dX6_part_40 (by first | assumption | exact ⟨by decide, rfl⟩) (Nat.le_of_ble_eq_true rfl) (c_X6_pays (j0 := p.toNatClampNeg) (nI_cl (by grind)).symm (cl_lt24 24 (by decide) (by grind)) (by decide) (hu p (by grind) (by grind))) ?_
          exact e_ireq rfl rfl dX6_part_43 (by first | rw [if_neg (by grind)] | rw [if_pos (by grind)]) rfl
        ·
          refine e_iconst (v := -1) dX6_part_33 (by decide) ?_
          refine e_goto (tgt := 43) dX6_part_34 (by decide) ?_
          exact e_ireq rfl rfl dX6_part_43 (by first | rw [if_neg (by grind)] | rw [if_pos (by grind)]) rfl
theorem beF_lt {σ : rS} {m base : Int32} : ∀ c j, j + c ≤ 24 → beF σ m base c j < 0 ∨ (nI j ≤ beF σ m base c j ∧ beF σ m base c j < nI (j + c)) := by
  intro c
  induction c with
  | zero => intro j _; left; show (-1 : Int32) < 0; decide
  | succ c ih =>
    intro j hj
    rw [beF]
    split
    · right
      exact ⟨by grind, nI_lt (by omega) (by omega)⟩
    · rcases ih (j + 1) (by omega) with h | h
      · left; exact h
      · right
        have e : j + 1 + c = j + (c + 1) := by omega
        rw [e] at h
        have h2 : nI j < nI (j + 1) := nI_lt (by omega) (by omega)
        grind
abbrev mgaB (τ : rS) (x y : Int32) (mm : Nat) : Prop := ¬ τ 8 16 0 = 0 ∧ mnB τ x ∧ mnB τ y ∧ ¬ x = y ∧ ¬ beF τ x 0 mm 0 < 0
abbrev woR (τ : rS) (x : Int32) : Int32 := τ 8 11 x + τ 8 12 x
abbrev mgD (τ : rS) (x : Int32) (mm : Nat) : Int32 := paM τ (beF τ x 0 mm 0) 0 (beF τ x 0 mm 0).toNatClampNeg
