/-! CLAUSES and whole TEXTS; their bounds. -/
abbrev tx_C : Type := Int32 × Int32 × tx_L × tx_L × tx_L
section
variable (c v : Nat → Int32) (ord : Bool)
def tx_if (kind times : Int32) (xs ys : tx_L) (p l : Nat) : Nat ⊕ (Nat × Nat × tx_C) :=
  if c p = 3 then match tx_test c v ord 8 (p + 1) l with
    | .inl f => .inl f
    | .inr r => .inr (r.1, r.2.1, (kind, times, xs, ys, r.2.2))
  else .inr (p, l, (kind, times, xs, ys, []))
def tx_lawC (p l : Nat) : Nat ⊕ (Nat × Nat × tx_C) :=
  if c p = 1 then match tx_sum c v ord 8 (p + 1) l with
    | .inl f => .inl f
    | .inr r => tx_if c v ord 0 1 r.2.2 [] r.1 r.2.1
  else if c p = 2 then tx_if c v ord 1 1 [] [] (p + 1) l
  else .inl p
def tx_times (kind : Int32) (xs ys : tx_L) (p l : Nat) : Nat ⊕ (Nat × Nat × tx_C) :=
  if c p = 24 then (if c (p + 1) = 50 ∧ 1 ≤ v (p + 1) ∧ v (p + 1) ≤ 20 then tx_if c v ord kind (v (p + 1)) xs ys (p + 2) l else .inl (p + 1))
  else tx_if c v ord kind 1 xs ys p l
def tx_two (kind : Int32) (p l : Nat) : Nat ⊕ (Nat × Nat × tx_C) := match tx_sum c v ord 8 (p + 1) l with
  | .inl f => .inl f
  | .inr r => if c r.1 = 12 then (match tx_sum c v ord 8 (r.1 + 1) r.2.1 with
      | .inl f => .inl f
      | .inr s => tx_times c v ord kind r.2.2 s.2.2 s.1 s.2.1)
    else .inl r.1
def tx_ordC (p l : Nat) : Nat ⊕ (Nat × Nat × tx_C) :=
  if c p = 20 then tx_two c v ord 0 p l
  else if c p = 11 then tx_two c v ord 1 p l
  else if c p = 21 then tx_two c v ord 2 p l
  else if c p = 22 then match tx_sum c v ord 8 (p + 1) l with
    | .inl f => .inl f
    | .inr r => tx_times c v ord 3 r.2.2 [] r.1 r.2.1
  else if c p = 23 then tx_times c v ord 4 [] [] (p + 1) l
  else .inl p
def tx_cl (p l : Nat) : Nat ⊕ (Nat × Nat × tx_C) := if ord = true then tx_ordC c v ord p l else tx_lawC c v ord p l
def tx_text (size : Nat) : Nat → Nat → Nat → Nat ⊕ List tx_C
  | 0, p, _ => .inl p
  | n + 1, p, l => match tx_cl c v ord p l with
    | .inl f => .inl f
    | .inr r => if size ≤ r.1 then .inr [r.2.2] else if c r.1 = 159 then (match tx_text size n (r.1 + 1) r.2.1 with
        | .inl f => .inl f
        | .inr cs => .inr (r.2.2 :: cs))
      else .inl r.1
end
/-- what the steps' second ints may be -/
def tx_ag (ord : Bool) (xs : tx_L) : Prop := ∀ x, x ∈ xs → (x.1 = 0 → zs_in 0 x.2 1000 = true) ∧ (x.1 = 1 → zs_in 0 x.2 (if ord = true then 11 else 6) = true) ∧ (x.1 = 3 ∨ x.1 = 4 → zs_in 0 x.2 400 = true)
theorem tx_ag.app {ord : Bool} {xs ys : tx_L} (h : tx_ag ord xs) (h' : tx_ag ord ys) : tx_ag ord (xs ++ ys) := fun x hx => by
  rcases List.mem_append.mp hx with h1 | h1
  · exact h x h1
  · exact h' x h1
theorem tx_ag.one {ord : Bool} {o a : Int32} (h0 : o = 0 → zs_in 0 a 1000 = true) (h1 : o = 1 → zs_in 0 a (if ord = true then 11 else 6) = true) (h2 : o = 3 ∨ o = 4 → zs_in 0 a 400 = true) : tx_ag ord [(o, a)] := fun x hx => by
  rw [List.mem_singleton] at hx; subst hx; exact ⟨h0, h1, h2⟩
theorem tx_ag.op {ord : Bool} {o : Int32} (h : o ≠ 1 ∧ o ≠ 3 ∧ o ≠ 4) : tx_ag ord [(o, 0)] := tx_ag.one (fun _ => by decide) (fun e => absurd e h.1) (fun e => e.elim (fun e => absurd e h.2.1) (fun e => absurd e h.2.2))
theorem tx_ag.num {ord : Bool} {a : Int32} (h : zs_in 0 a 1000 = true) : tx_ag ord [(0, a)] := tx_ag.one (fun _ => h) (fun e => absurd e (by decide)) (fun e => absurd e (by decide))
theorem tx_ag.word {ord : Bool} {a : Int32} (h : zs_in 0 a (if ord = true then 11 else 6) = true) : tx_ag ord [(1, a)] := tx_ag.one (fun e => absurd e (by decide)) (fun _ => h) (fun e => absurd e (by decide))
theorem tx_ag.skip {ord : Bool} {o : Int32} {ys : tx_L} (ho : o = 3 ∨ o = 4) (h : tx_ag ord ys) (hl : ys.length ≤ 400) : tx_ag ord (tx_jnS o ys) := by
  unfold tx_jnS
  refine tx_ag.app (xs := [_]) (tx_ag.one (fun e => ?_) (fun e => ?_) (fun _ => ?_)) h
  · rcases ho with rfl | rfl <;> cases e
  · rcases ho with rfl | rfl <;> cases e
  · rw [zs_inT, Int32.le_iff_toInt_le, Int32.le_iff_toInt_le, zi_ofNat (by omega)]; exact ⟨by show (0 : Int) ≤ _; omega, by show _ ≤ (400 : Int); omega⟩
def tx_ok (ord : Bool) (size : Nat) (par : Nat → Nat → tx_R) : Prop := ∀ p l, p ≤ size → l ≤ 50 → match par p l with
  | .inl f => p ≤ f ∧ f ≤ size
  | .inr r => p < r.1 ∧ r.1 ≤ size ∧ r.2.2.length ≤ r.1 - p ∧ r.2.2 ≠ [] ∧ l < r.2.1 ∧ r.2.1 ≤ 50 ∧ tx_Sem r.2.2 (r.2.1 - l) ∧ tx_ag ord r.2.2
theorem tx_ok.l {ord : Bool} {size : Nat} {par : Nat → Nat → tx_R} (h : tx_ok ord size par) {p l f : Nat} (hp : p ≤ size) (hl : l ≤ 50) (e : par p l = .inl f) : p ≤ f ∧ f ≤ size := by
  have := h p l hp hl; rw [e] at this; exact this
theorem tx_ok.r {ord : Bool} {size : Nat} {par : Nat → Nat → tx_R} (h : tx_ok ord size par) {p l : Nat} {r : Nat × Nat × tx_L} (hp : p ≤ size) (hl : l ≤ 50) (e : par p l = .inr r) : p < r.1 ∧ r.1 ≤ size ∧ r.2.2.length ≤ r.1 - p ∧ r.2.2 ≠ [] ∧ l < r.2.1 ∧ r.2.1 ≤ 50 ∧ tx_Sem r.2.2 (r.2.1 - l) ∧ tx_ag ord r.2.2 := by
  have := h p l hp hl; rw [e] at this; exact this
section
variable {c v : Nat → Int32} {ord : Bool} {size : Nat}
theorem tx_lt (hc : ∀ k, size ≤ k → c k = 0) {p : Nat} (h : c p ≠ 0) : p < size := by
  rcases Nat.lt_or_ge p size with h1 | h1
  · exact h1
  · exact absurd (hc p h1) h
theorem tx_ok_bot : tx_ok ord size (fun p _ => .inl p) := fun p l hp _ => ⟨Nat.le_refl _, hp⟩
/-- how a level joins: two by an operator behind them, or by a skip between them -/
def tx_jOK (op : Int32 → Option Int32) (jn : Int32 → tx_L → tx_L) : Prop := ∀ x o, op x = some o → x ≠ 0 ∧ ((jn = tx_jnB ∧ tx_bin o) ∨ (jn = tx_jnS ∧ (o = 3 ∨ o = 4)))
theorem tx_jnlen {jn : Int32 → tx_L → tx_L} (h : jn = tx_jnB ∨ jn = tx_jnS) (o : Int32) (ys : tx_L) : (jn o ys).length = ys.length + 1 := by
  rcases h with rfl | rfl <;> simp [tx_jnB, tx_jnS]
theorem tx_ok_loop (hc : ∀ k, size ≤ k → c k = 0) (hs4 : size ≤ 400) {sub : Nat → Nat → tx_R} {op : Int32 → Option Int32} {jn : Int32 → tx_L → tx_L} (hj : tx_jOK op jn) (hs : tx_ok ord size sub) (p0 l0 : Nat) :
    ∀ n p l xs, p0 < p → p ≤ size → xs.length ≤ p - p0 → xs ≠ [] → l0 < l → l ≤ 50 → tx_Sem xs (l - l0) → tx_ag ord xs → match tx_loop c sub op jn n p l xs with
      | .inl f => p0 ≤ f ∧ f ≤ size
      | .inr r => p0 < r.1 ∧ r.1 ≤ size ∧ r.2.2.length ≤ r.1 - p0 ∧ r.2.2 ≠ [] ∧ l0 < r.2.1 ∧ r.2.1 ≤ 50 ∧ tx_Sem r.2.2 (r.2.1 - l0) ∧ tx_ag ord r.2.2 := by
  intro n
  induction n with
  | zero => intro p l xs h1 h2 _ _ _ _ _ _; exact ⟨by omega, h2⟩
  | succ n ih =>
    intro p l xs h1 h2 h3 h4 h5 h6 h7 h8
    unfold tx_loop
    cases ho : op (c p) with
    | none => exact ⟨h1, h2, h3, h4, h5, h6, h7, h8⟩
    | some o =>
      obtain ⟨hx, hj'⟩ := hj _ _ ho
      have hlt := tx_lt hc hx
      simp only
      cases hsub : sub (p + 1) l with
      | inl f => have := hs.l (by omega) h6 hsub; exact ⟨by omega, this.2⟩
      | inr r =>
        obtain ⟨a1, a2, a3, a4, a5, a6, a7, a8⟩ := hs.r (by omega) h6 hsub
        have hlen : (jn o r.2.2).length = r.2.2.length + 1 := tx_jnlen (hj'.imp And.left And.left) o r.2.2
        refine ih r.1 r.2.1 _ (by omega) a2 (by rw [List.length_append, hlen]; omega) (by simp [h4]) (by omega) a6 ?_ ?_
        · rcases hj' with ⟨rfl, hb⟩ | ⟨rfl, hb⟩
          · exact (tx_Sem_bin hb h7 a7 (by omega) (by omega)).1.mono (by omega)
          · exact (tx_Sem_jmp hb h7 a7 (by omega) (by omega) (by omega)).1.mono (by omega)
        · rcases hj' with ⟨rfl, hb⟩ | ⟨rfl, hb⟩
          · exact h8.app (a8.app (tx_ag.op ⟨hb.2.1, hb.2.2.2⟩))
          · exact h8.app (tx_ag.skip hb a8 (by omega))
theorem tx_ok_lev (hc : ∀ k, size ≤ k → c k = 0) (hs4 : size ≤ 400) {sub : Nat → Nat → tx_R} {op : Int32 → Option Int32} {jn : Int32 → tx_L → tx_L} (hj : tx_jOK op jn) (hs : tx_ok ord size sub) : tx_ok ord size (tx_lev c sub op jn) := by
  intro p l hp hl
  unfold tx_lev
  cases hsub : sub p l with
  | inl f => exact hs.l hp hl hsub
  | inr r =>
    obtain ⟨a1, a2, a3, a4, a5, a6, a7, a8⟩ := hs.r hp hl hsub
    exact tx_ok_loop hc hs4 hj hs p l 401 r.1 r.2.1 r.2.2 a1 a2 a3 a4 a5 a6 a7 a8
theorem tx_jT : tx_jOK tx_opT tx_jnB := by
  intro x o h; unfold tx_opT at h; (repeat' split at h) <;> first | (cases h; subst_vars; exact ⟨by decide, Or.inl ⟨rfl, by unfold tx_bin; decide⟩⟩) | cases h
theorem tx_jS : tx_jOK tx_opS tx_jnB := by
  intro x o h; unfold tx_opS at h; (repeat' split at h) <;> first | (cases h; subst_vars; exact ⟨by decide, Or.inl ⟨rfl, by unfold tx_bin; decide⟩⟩) | cases h
theorem tx_jA : tx_jOK tx_opA tx_jnS := by
  intro x o h; unfold tx_opA at h; split at h
  · cases h; subst_vars; exact ⟨by decide, Or.inr ⟨rfl, Or.inr rfl⟩⟩
  · cases h
theorem tx_jO : tx_jOK tx_opO tx_jnS := by
  intro x o h; unfold tx_opO at h; split at h
  · cases h; subst_vars; exact ⟨by decide, Or.inr ⟨rfl, Or.inl rfl⟩⟩
  · cases h
theorem tx_ok_br (hc : ∀ k, size ≤ k → c k = 0) {sub : Nat → Nat → tx_R} {close : Int32} (hz : close ≠ 0) (hs : tx_ok ord size sub) {p l : Nat} (hp : c p ≠ 0) (hl : l ≤ 50) : match tx_br c sub close p l with
  | .inl f => p ≤ f ∧ f ≤ size
  | .inr r => p < r.1 ∧ r.1 ≤ size ∧ r.2.2.length ≤ r.1 - p ∧ r.2.2 ≠ [] ∧ l < r.2.1 ∧ r.2.1 ≤ 50 ∧ tx_Sem r.2.2 (r.2.1 - l) ∧ tx_ag ord r.2.2 := by
  have hlt := tx_lt hc hp
  unfold tx_br
  cases hsub : sub (p + 1) l with
  | inl f => have := hs.l (by omega) hl hsub; exact ⟨by omega, this.2⟩
  | inr r =>
    obtain ⟨a1, a2, a3, a4, a5, a6, a7, a8⟩ := hs.r (by omega) hl hsub
    simp only
    by_cases h : c r.1 = close
    · have := tx_lt hc (show c r.1 ≠ 0 by rw [h]; exact hz)
      rw [if_pos h]
      exact ⟨by show p < r.1 + 1; omega, by show r.1 + 1 ≤ size; omega, by show r.2.2.length ≤ r.1 + 1 - p; omega, a4, a5, a6, a7, a8⟩
    · rw [if_neg h]; exact ⟨by omega, a2⟩
def tx_okB (ord : Bool) (c : Nat → Int32) (size : Nat) (x : Int32) (par : Nat → Nat → tx_R) : Prop := ∀ p l, p ≤ size → c p = x → l ≤ 50 → match par p l with
  | .inl f => p ≤ f ∧ f ≤ size
  | .inr r => p < r.1 ∧ r.1 ≤ size ∧ r.2.2.length ≤ r.1 - p ∧ r.2.2 ≠ [] ∧ l < r.2.1 ∧ r.2.1 ≤ 50 ∧ tx_Sem r.2.2 (r.2.1 - l) ∧ tx_ag ord r.2.2
theorem tx_wd_stops {x : Int32} (h : x ≤ 5) (h0 : 0 ≤ x) : zs_in 0 (6 + x) 11 = true := by rw [zs_inT]; constructor <;> (simp only [Int32.le_iff_toInt_le, Int32.lt_iff_toInt_lt, ← Int32.toInt_inj, Int32.toInt_ofNat', Int32.reduceToInt, zi_ix, Int32.toInt_add, Int32.toInt_sub, Int32.toInt_mul, Int32.toInt_neg, zi_bm, zi_bms, zp_in] at *; omega)
theorem tx_wd_wi {x : Int32} (h : tx_isw ord x = true) : zs_in 0 (tx_wi ord x) (if ord = true then 11 else 6) = true := by
  unfold tx_isw at h; unfold tx_wi
  cases ord
  · simp only [Bool.false_eq_true, if_false]; (repeat' split) <;> decide
  · simp only [if_true, zs_inT] at h ⊢; constructor <;> (simp only [Int32.le_iff_toInt_le, Int32.lt_iff_toInt_lt, ← Int32.toInt_inj, Int32.toInt_ofNat', Int32.reduceToInt, zi_ix, Int32.toInt_add, Int32.toInt_sub, Int32.toInt_mul, Int32.toInt_neg, zi_bm, zi_bms, zp_in] at *; omega)
theorem tx_ok_part (hv : ∀ k, 0 ≤ v k) (hc : ∀ k, size ≤ k → c k = 0) {inner : Nat → Nat → tx_R} (hi : tx_okB ord c size 191 inner) : tx_ok ord size (tx_part c v ord inner) := by
  intro p l hp hl
  unfold tx_part
  by_cases h1 : c p = 191
  · rw [if_pos h1]; exact hi p l hp h1 hl
  · rw [if_neg h1]
    by_cases h2 : c p = 50 ∧ v p ≤ 1000
    · have := tx_lt hc (show c p ≠ 0 by rw [h2.1]; decide)
      rw [if_pos h2]
      by_cases h3 : 50 ≤ l
      · rw [if_pos h3]; exact ⟨Nat.le_refl _, hp⟩
      · rw [if_neg h3]; exact ⟨by show p < p + 1; omega, by show p + 1 ≤ size; omega, by show 1 ≤ p + 1 - p; omega, by simp, by show l < l + 1; omega, by show l + 1 ≤ 50; omega, (tx_Sem_num _).1.mono (by show 1 ≤ l + 1 - l; omega), tx_ag.num (by rw [zs_inT]; exact ⟨hv _, h2.2⟩)⟩
    · rw [if_neg h2]
      by_cases h4 : tx_isw ord (c p) = true
      · have hne : c p ≠ 0 := by
          intro h0; rw [h0] at h4; revert h4; unfold tx_isw zs_in; cases ord <;> decide
        have := tx_lt hc hne
        rw [if_pos h4]
        by_cases h3 : 50 ≤ l
        · rw [if_pos h3]; exact ⟨Nat.le_refl _, hp⟩
        · rw [if_neg h3]
          by_cases h5 : ord = true ∧ c p = 19
          · rw [if_pos h5]
            by_cases h6 : c (p + 1) = 50 ∧ v (p + 1) ≤ 5
            · have := tx_lt hc (show c (p + 1) ≠ 0 by rw [h6.1]; decide)
              rw [if_pos h6]; exact ⟨by show p < p + 2; omega, by show p + 2 ≤ size; omega, by show 1 ≤ p + 2 - p; omega, by simp, by show l < l + 1; omega, by show l + 1 ≤ 50; omega, (tx_Sem_word _).1.mono (by show 1 ≤ l + 1 - l; omega), tx_ag.word (by rw [if_pos h5.1]; exact tx_wd_stops h6.2 (hv _))⟩
            · rw [if_neg h6]; exact ⟨by omega, by omega⟩
          · rw [if_neg h5]; exact ⟨by show p < p + 1; omega, by show p + 1 ≤ size; omega, by show 1 ≤ p + 1 - p; omega, by simp, by show l < l + 1; omega, by show l + 1 ≤ 50; omega, (tx_Sem_word _).1.mono (by show 1 ≤ l + 1 - l; omega), tx_ag.word (tx_wd_wi h4)⟩
      · rw [if_neg h4]; exact ⟨Nat.le_refl _, hp⟩
theorem tx_ok_inS (hv : ∀ k, 0 ≤ v k) (hc : ∀ k, size ≤ k → c k = 0) (hs4 : size ≤ 400) : ∀ b, tx_okB ord c size 191 (tx_inS c v ord b) ∧ tx_ok ord size (tx_sum c v ord b) := by
  intro b
  induction b with
  | zero =>
    have h0 : tx_okB ord c size 191 (tx_inS c v ord 0) := fun p l hp _ _ => ⟨Nat.le_refl _, hp⟩
    exact ⟨h0, by rw [tx_sum_eq]; exact tx_ok_lev hc hs4 tx_jS (tx_ok_lev hc hs4 tx_jT (tx_ok_part hv hc h0))⟩
  | succ b ih =>
    have h0 : tx_okB ord c size 191 (tx_inS c v ord (b + 1)) := fun p l hp hx hl => tx_ok_br hc (by decide) ih.2 (by rw [hx]; decide) hl
    exact ⟨h0, by rw [tx_sum_eq]; exact tx_ok_lev hc hs4 tx_jS (tx_ok_lev hc hs4 tx_jT (tx_ok_part hv hc h0))⟩
theorem tx_ok_sum (hv : ∀ k, 0 ≤ v k) (hc : ∀ k, size ≤ k → c k = 0) (hs4 : size ≤ 400) (b : Nat) : tx_ok ord size (tx_sum c v ord b) := (tx_ok_inS hv hc hs4 b).2
theorem tx_nots_le (hc : ∀ k, size ≤ k → c k = 0) : ∀ n p t, p ≤ size → p ≤ (tx_nots c n p t).1 ∧ (tx_nots c n p t).1 ≤ size := by
  intro n
  induction n with
  | zero => intro p t h; exact ⟨Nat.le_refl _, h⟩
  | succ n ih =>
    intro p t h
    unfold tx_nots
    by_cases h6 : c p = 6
    · have := tx_lt hc (show c p ≠ 0 by rw [h6]; decide)
      rw [if_pos h6]
      have := ih (p + 1) (!t) (by omega)
      exact ⟨by omega, this.2⟩
    · rw [if_neg h6]; exact ⟨Nat.le_refl _, h⟩
theorem tx_cmp_ne {x o : Int32} (h : tx_cmp x = some o) : x ≠ 0 ∧ tx_bin o ∧ (o = 10 ∨ o = 11 ∨ o = 12) := by
  unfold tx_cmp at h; (repeat' split at h) <;> first | (cases h; subst_vars; exact ⟨by decide, by unfold tx_bin; decide, by decide⟩) | cases h
/-- behind the "not"s -/
theorem tx_ok_pos (hc : ∀ k, size ≤ k → c k = 0) {sum inner : Nat → Nat → tx_R} (hs : tx_ok ord size sum) (hi : tx_okB ord c size 140 inner) : tx_ok ord size (tx_pos c sum inner) := by
  intro q l hq hl
  unfold tx_pos
  by_cases h1 : c q = 140
  · rw [if_pos h1]; exact hi q l hq h1 hl
  · rw [if_neg h1]
    cases hsub : sum q l with
    | inl f => exact hs.l hq hl hsub
    | inr r =>
      obtain ⟨a1, a2, a3, a4, a5, a6, a7, a8⟩ := hs.r hq hl hsub
      simp only
      cases hcmp : tx_cmp (c r.1) with
      | none => exact ⟨by omega, a2⟩
      | some o =>
        obtain ⟨hne, hb, -⟩ := tx_cmp_ne hcmp
        have := tx_lt hc hne
        simp only
        cases hsub2 : sum (r.1 + 1) r.2.1 with
        | inl f => have := hs.l (by omega) a6 hsub2; exact ⟨by omega, this.2⟩
        | inr r2 =>
          obtain ⟨b1, b2, b3, b4, b5, b6, b7, b8⟩ := hs.r (by omega) a6 hsub2
          refine ⟨by show q < r2.1; omega, b2, ?_, by simp [a4], by show l < r2.2.1; omega, b6, (tx_Sem_bin hb a7 b7 (by omega) (by omega)).1.mono (by show _ ≤ r2.2.1 - l; omega), a8.app (b8.app (tx_ag.op ⟨hb.2.1, hb.2.2.2⟩))⟩
          show (r.2.2 ++ (r2.2.2 ++ [(o, 0)])).length ≤ r2.1 - q
          simp only [List.length_append, List.length_singleton]; omega
theorem tx_ok_plain (hc : ∀ k, size ≤ k → c k = 0) {sum inner : Nat → Nat → tx_R} (hs : tx_ok ord size sum) (hi : tx_okB ord c size 140 inner) : tx_ok ord size (tx_plain c sum inner) := by
  intro p l hp hl
  have hn := tx_nots_le hc 401 p false hp
  have hq := tx_ok_pos hc hs hi
  unfold tx_plain
  cases hsub : tx_pos c sum inner (tx_nots c 401 p false).1 l with
  | inl f => have := hq.l hn.2 hl hsub; exact ⟨by omega, this.2⟩
  | inr r =>
    obtain ⟨a1, a2, a3, a4, a5, a6, a7, a8⟩ := hq.r hn.2 hl hsub
    by_cases ht : (tx_nots c 401 p false).2 = true
    · have hlt : p < (tx_nots c 401 p false).1 := by
        rcases Nat.lt_or_ge p (tx_nots c 401 p false).1 with h | h
        · exact h
        · exfalso
          have he : (tx_nots c 401 p false).1 = p := by omega
          have hh : ∀ n t, t = false → (tx_nots c n p t).1 = p → (tx_nots c n p t).2 = false := by
            intro n t h0 h1
            cases n with
            | zero => exact h0
            | succ n =>
              unfold tx_nots at h1 ⊢
              by_cases h6 : c p = 6
              · rw [if_pos h6] at h1
                have := tx_lt hc (show c p ≠ 0 by rw [h6]; decide)
                have := (tx_nots_le hc n (p + 1) (!t) (by omega)).1
                omega
              · rw [if_neg h6]; exact h0
          rw [hh 401 false rfl he] at ht; cases ht
      simp only [ht, if_true]
      exact ⟨by show p < r.1; omega, a2, by show (r.2.2 ++ [(2, 0)]).length ≤ r.1 - p; simp only [List.length_append, List.length_singleton]; omega, by simp, a5, a6, (tx_Sem_not a7 (by omega)).1, a8.app (tx_ag.op (by decide))⟩
    · have ht' : (tx_nots c 401 p false).2 = false := by simpa using ht
      simp only [ht']
      exact ⟨by show p < r.1; omega, a2, by show r.2.2.length ≤ r.1 - p; omega, a4, a5, a6, a7, a8⟩
theorem tx_ok_inT (hv : ∀ k, 0 ≤ v k) (hc : ∀ k, size ≤ k → c k = 0) (hs4 : size ≤ 400) : ∀ b, tx_okB ord c size 140 (tx_inT c v ord b) ∧ tx_ok ord size (tx_test c v ord b) := by
  intro b
  induction b with
  | zero =>
    have h0 : tx_okB ord c size 140 (tx_inT c v ord 0) := fun p l hp _ _ => ⟨Nat.le_refl _, hp⟩
    exact ⟨h0, by rw [tx_test_eq]; exact tx_ok_lev hc hs4 tx_jO (tx_ok_lev hc hs4 tx_jA (tx_ok_plain hc (tx_ok_sum hv hc hs4 0) h0))⟩
  | succ b ih =>
    have h0 : tx_okB ord c size 140 (tx_inT c v ord (b + 1)) := fun p l hp hx hl => tx_ok_br hc (by decide) ih.2 (by rw [hx]; decide) hl
    exact ⟨h0, by rw [tx_test_eq]; exact tx_ok_lev hc hs4 tx_jO (tx_ok_lev hc hs4 tx_jA (tx_ok_plain hc (tx_ok_sum hv hc hs4 (b + 1)) h0))⟩
theorem tx_ok_test (hv : ∀ k, 0 ≤ v k) (hc : ∀ k, size ≤ k → c k = 0) (hs4 : size ≤ 400) (b : Nat) : tx_ok ord size (tx_test c v ord b) := (tx_ok_inT hv hc hs4 b).2
end
