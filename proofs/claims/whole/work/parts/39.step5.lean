-- the two readers in step: a line
theorem Dr_burden {τ μ : rS} {q : Nat} {x c h : Int32} (hq : ¬ q = 2) (hx : 65 ≤ x ∧ x ≤ 70) (hh : 1 ≤ h) (hD : Dr τ μ q) : Dr (sTell τ q (x - 65) c h) (up (up (up (up μ 8 36 0 c) 8 3 (6 + x - 65) c) 8 36 0 h) 8 4 (6 + x - 65) h) q := by
  have hr : 0 ≤ x - 65 ∧ x - 65 < 6 := by grind
  have e : sTell τ q (x - 65) c h = up (up τ q 0 (x - 65) c) q 1 (x - 65) h := if_pos hr
  rw [e]
  obtain ⟨d1, d2⟩ := hD
  refine ⟨fun b h1 h2 => ?_, fun k h1 h2 => ?_⟩
  · have d := d1 b h1 h2
    clear d1 d2 e
    have eb : 6 + b = 6 + x - 65 ↔ b = x - 65 := by grind
    simp only [up]
    grind
  · have d := d2 k h1 h2
    clear d1 d2 e
    simp only [up]
    grind
theorem Dr_setting {τ μ : rS} {q : Nat} {wh v : Int32} (hq : ¬ q = 2) (hw : 1 ≤ wh ∧ wh ≤ 4) (hv : 0 ≤ v) (hD : Dr τ μ q) : Dr (up (up τ 2 1 (wh - 1) 1) q 2 (wh - 1) v) (up (up μ 8 36 0 v) 8 5 (3 + wh) v) q := by
  obtain ⟨d1, d2⟩ := hD
  refine ⟨fun b h1 h2 => ?_, fun k h1 h2 => ?_⟩
  · have d := d1 b h1 h2
    clear d1 d2
    simp only [up]
    grind
  · have d := d2 k h1 h2
    clear d1 d2
    have ek : 4 + k = 3 + wh ↔ k = wh - 1 := by grind
    simp only [up]
    grind
