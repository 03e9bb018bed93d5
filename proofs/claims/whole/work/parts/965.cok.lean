/-! The steps of a whole text run. -/
section
variable {c v : Nat → Int32} {ord : Bool} {size : Nat}
def tx_gd (ord : Bool) (size : Nat) (x : Nat ⊕ (Nat × Nat × tx_C)) : Prop := ∀ r, x = .inr r → r.1 ≤ size ∧ r.2.1 ≤ 50 ∧ tx_cok ord r.2.2
set_option maxRecDepth 20000 in
theorem tx_po_nil : tx_po ord [] := ⟨fun x hx => (by cases hx), Or.inl rfl⟩
set_option maxRecDepth 20000 in
theorem tx_gd_l {f : Nat} : tx_gd ord size (.inl f) := fun r e => by cases e
set_option maxRecDepth 20000 in
theorem tx_ltv (hc : ∀ k, size ≤ k → c k = 0) {p : Nat} {x : Int32} (h : c p = x) (hx : x ≠ 0) : p < size := by
  rcases Nat.lt_or_ge p size with h1 | h1
  · exact h1
  · exact absurd ((hc p h1).symm.trans h).symm hx
set_option maxRecDepth 20000 in
theorem tx_po_r {par : Nat → Nat → tx_R} (h : tx_ok ord size par) {p l : Nat} {r : Nat × Nat × tx_L} (hp : p ≤ size) (hl : l ≤ 50) (e : par p l = .inr r) : r.1 ≤ size ∧ r.2.1 ≤ 50 ∧ tx_po ord r.2.2 := by
  obtain ⟨h1, h2, h3, h4, h5, h6, h7, h8⟩ := h.r hp hl e
  exact ⟨h2, h6, h8, Or.inr ⟨_, by omega, h7⟩⟩
set_option maxRecDepth 20000 in
theorem tx_gd_if (hv : ∀ k, 0 ≤ v k) (hc : ∀ k, size ≤ k → c k = 0) (hs4 : size ≤ 400) {kind times : Int32} {xs ys : tx_L} (hx : tx_po ord xs) (hy : tx_po ord ys) {p l : Nat} (hp : p ≤ size) (hl : l ≤ 50) : tx_gd ord size (tx_if c v ord kind times xs ys p l) := by
  unfold tx_if
  by_cases h : c p = 3
  · rw [if_pos h]
    have := tx_ltv hc h (by decide)
    cases ht : tx_test c v ord 8 (p + 1) l with
    | inl f => exact tx_gd_l
    | inr r =>
      obtain ⟨h1, h2, h3⟩ := tx_po_r (tx_ok_test hv hc hs4 8) (show p + 1 ≤ size by omega) hl ht
      intro q e
      cases e
      exact ⟨h1, h2, hx, hy, h3⟩
  · rw [if_neg h]
    intro q e
    cases e
    exact ⟨hp, hl, hx, hy, tx_po_nil⟩
set_option maxRecDepth 20000 in
theorem tx_gd_times (hv : ∀ k, 0 ≤ v k) (hc : ∀ k, size ≤ k → c k = 0) (hs4 : size ≤ 400) {kind : Int32} {xs ys : tx_L} (hx : tx_po ord xs) (hy : tx_po ord ys) {p l : Nat} (hp : p ≤ size) (hl : l ≤ 50) : tx_gd ord size (tx_times c v ord kind xs ys p l) := by
  unfold tx_times
  split
  · split
    · next h => 
      have := tx_ltv hc h.1 (by decide)
      exact tx_gd_if hv hc hs4 hx hy (by omega) hl
    · exact tx_gd_l
  · exact tx_gd_if hv hc hs4 hx hy hp hl
set_option maxRecDepth 20000 in
theorem tx_gd_two (hv : ∀ k, 0 ≤ v k) (hc : ∀ k, size ≤ k → c k = 0) (hs4 : size ≤ 400) {kind : Int32} {p l : Nat} (hp : p < size) (hl : l ≤ 50) : tx_gd ord size (tx_two c v ord kind p l) := by
  unfold tx_two
  cases ht : tx_sum c v ord 8 (p + 1) l with
  | inl f => exact tx_gd_l
  | inr r =>
    obtain ⟨h1, h2, h3⟩ := tx_po_r (tx_ok_sum hv hc hs4 8) (show p + 1 ≤ size by omega) hl ht
    show tx_gd ord size (if c r.1 = 12 then _ else _)
    by_cases h : c r.1 = 12
    · rw [if_pos h]
      have := tx_ltv hc h (by decide)
      cases ht2 : tx_sum c v ord 8 (r.1 + 1) r.2.1 with
      | inl f => exact tx_gd_l
      | inr s =>
        obtain ⟨g1, g2, g3⟩ := tx_po_r (tx_ok_sum hv hc hs4 8) (show r.1 + 1 ≤ size by omega) h2 ht2
        exact tx_gd_times hv hc hs4 h3 g3 g1 g2
    · rw [if_neg h]; exact tx_gd_l
set_option maxRecDepth 20000 in
theorem tx_gd_cl (hv : ∀ k, 0 ≤ v k) (hc : ∀ k, size ≤ k → c k = 0) (hs4 : size ≤ 400) {p l : Nat} (hp : p ≤ size) (hl : l ≤ 50) : tx_gd ord size (tx_cl c v ord p l) := by
  unfold tx_cl
  by_cases ho : ord = true
  · rw [if_pos ho]
    unfold tx_ordC
    by_cases h1 : c p = 20
    · rw [if_pos h1]; exact tx_gd_two hv hc hs4 (tx_ltv hc h1 (by decide)) hl
    rw [if_neg h1]
    by_cases h2 : c p = 11
    · rw [if_pos h2]; exact tx_gd_two hv hc hs4 (tx_ltv hc h2 (by decide)) hl
    rw [if_neg h2]
    by_cases h3 : c p = 21
    · rw [if_pos h3]; exact tx_gd_two hv hc hs4 (tx_ltv hc h3 (by decide)) hl
    rw [if_neg h3]
    by_cases h4 : c p = 22
    · rw [if_pos h4]
      have := tx_ltv hc h4 (by decide)
      cases ht : tx_sum c v ord 8 (p + 1) l with
      | inl f => exact tx_gd_l
      | inr r =>
        obtain ⟨g1, g2, g3⟩ := tx_po_r (tx_ok_sum hv hc hs4 8) (show p + 1 ≤ size by omega) hl ht
        exact tx_gd_times hv hc hs4 g3 tx_po_nil g1 g2
    rw [if_neg h4]
    by_cases h5 : c p = 23
    · rw [if_pos h5]
      have := tx_ltv hc h5 (by decide)
      exact tx_gd_times hv hc hs4 tx_po_nil tx_po_nil (by omega) hl
    · rw [if_neg h5]; exact tx_gd_l
  · rw [if_neg ho]
    unfold tx_lawC
    by_cases h1 : c p = 1
    · rw [if_pos h1]
      have := tx_ltv hc h1 (by decide)
      cases ht : tx_sum c v ord 8 (p + 1) l with
      | inl f => exact tx_gd_l
      | inr r =>
        obtain ⟨g1, g2, g3⟩ := tx_po_r (tx_ok_sum hv hc hs4 8) (show p + 1 ≤ size by omega) hl ht
        exact tx_gd_if hv hc hs4 g3 tx_po_nil g1 g2
    rw [if_neg h1]
    by_cases h2 : c p = 2
    · rw [if_pos h2]
      have := tx_ltv hc h2 (by decide)
      exact tx_gd_if hv hc hs4 tx_po_nil tx_po_nil (by omega) hl
    · rw [if_neg h2]; exact tx_gd_l
set_option maxRecDepth 20000 in
theorem tx_text_cok (hv : ∀ k, 0 ≤ v k) (hc : ∀ k, size ≤ k → c k = 0) (hs4 : size ≤ 400) : ∀ (n p l : Nat), p ≤ size → l ≤ 50 → ∀ cs, tx_text c v ord size n p l = .inr cs → ∀ cl, cl ∈ cs → tx_cok ord cl
  | 0, p, l, _, _, cs, e => by cases e
  | n + 1, p, l, hp, hl, cs, e => by
    have hg := tx_gd_cl (ord := ord) hv hc hs4 hp hl
    unfold tx_text at e
    cases ht : tx_cl c v ord p l with
    | inl f => rw [ht] at e; cases e
    | inr r =>
      rw [ht] at e hg
      obtain ⟨g1, g2, g3⟩ := hg r rfl
      have e' : (if size ≤ r.1 then (.inr [r.2.2] : Nat ⊕ List tx_C) else if c r.1 = 159 then (match tx_text c v ord size n (r.1 + 1) r.2.1 with
        | .inl f => .inl f
        | .inr cs => .inr (r.2.2 :: cs))
      else .inl r.1) = .inr cs := e
      by_cases h1 : size ≤ r.1
      · rw [if_pos h1] at e'
        cases e'
        intro cl hcl
        rw [List.mem_singleton] at hcl; subst hcl; exact g3
      · rw [if_neg h1] at e'
        by_cases h2 : c r.1 = 159
        · rw [if_pos h2] at e'
          cases hr : tx_text c v ord size n (r.1 + 1) r.2.1 with
          | inl f => rw [hr] at e'; cases e'
          | inr cs' =>
            rw [hr] at e'
            cases e'
            intro cl hcl
            rcases List.mem_cons.mp hcl with rfl | hcl
            · exact g3
            · exact tx_text_cok hv hc hs4 n (r.1 + 1) r.2.1 (by omega) g2 cs' hr cl hcl
        · rw [if_neg h2] at e'; cases e'
end
