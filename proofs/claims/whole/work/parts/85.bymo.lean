/-! byAtMost, fewest: the model. -/
section
variable {t : List (Nat × Nat)} {I : Nat → Nat → Int32} {J : Nat → Nat → Int64} {D : Nat → Nat → Option Nat} {K : Nat → Int32}
set_option maxRecDepth 20000 in
theorem sp_by_row {n a b k m : Nat} {ln G : Nat → Nat} {I : Nat → Nat → Int32} (hne : a ≠ b) (hm : 0 < m) (e0 : ln 0 = a) (h : zr_byK I (sp_lg K n) b m ln k G) : I 128 (8 * k) = Int32.ofNat (G 0) ∧ G 0 ≤ 100000000 ∧ sp_by K n k a b = dec (G 0) := by
  obtain ⟨h1, h2, h3⟩ := h 0 hm
  rw [e0] at h3
  exact ⟨h1, h2, by unfold sp_by; rw [if_neg hne]; exact sp_min_eq h3⟩
end
