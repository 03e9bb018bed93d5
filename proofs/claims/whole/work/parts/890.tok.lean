/-! Tokens of a text, as predicates of its bytes. -/
def tk_k (b : Int32) : Int32 := if zs_in 97 b 122 = true then 1 else if zs_in 48 b 57 = true then 2 else if b = 32 then 4 else 3
set_option maxRecDepth 20000 in
theorem tk_k_cases (b : Int32) : tk_k b = 1 ∨ tk_k b = 2 ∨ tk_k b = 4 ∨ tk_k b = 3 := by
  unfold tk_k; split
  · exact Or.inl rfl
  · split
    · exact Or.inr (Or.inl rfl)
    · split
      · exact Or.inr (Or.inr (Or.inl rfl))
      · exact Or.inr (Or.inr (Or.inr rfl))
section
variable (T : Nat → Int32)
def tk_go : Nat → Bool
  | 0 => false
  | i + 1 => decide (tk_k (T (i + 1)) = tk_k (T i)) && (decide (tk_k (T (i + 1)) = 1) || decide (tk_k (T (i + 1)) = 2))
def tk_st (i : Nat) : Bool := !decide (tk_k (T i) = 4) && !tk_go T i
def tk_n : Nat → Nat
  | 0 => 0
  | i + 1 => tk_n i + if tk_st T i = true then 1 else 0
def tk_e (s : Nat) : Nat → Nat
  | 0 => s + 1
  | i + 1 => if s < i ∧ tk_go T i = true ∧ tk_e s i = i then i + 1 else tk_e s i
end
section
variable {T : Nat → Int32}
set_option maxRecDepth 20000 in
theorem tk_e_lo {s : Nat} : ∀ i, i ≤ s + 1 → tk_e T s i = s + 1
  | 0, _ => rfl
  | i + 1, h => by unfold tk_e; rw [if_neg (by omega)]; exact tk_e_lo i (by omega)
set_option maxRecDepth 20000 in
theorem tk_e_bd {s : Nat} : ∀ i, s + 1 ≤ tk_e T s i ∧ (tk_e T s i ≤ s + 1 ∨ tk_e T s i ≤ i)
  | 0 => ⟨Nat.le_refl _, Or.inl (Nat.le_refl _)⟩
  | i + 1 => by
    have := tk_e_bd (s := s) i
    unfold tk_e; split
    · exact ⟨by omega, Or.inr (Nat.le_refl _)⟩
    · exact ⟨this.1, by omega⟩
set_option maxRecDepth 20000 in
theorem tk_e_le {s i : Nat} (h : s < i) : tk_e T s i ≤ i := by have := tk_e_bd (T := T) (s := s) i; omega
set_option maxRecDepth 20000 in
theorem tk_e_go {s : Nat} : ∀ i j, s < j → j < tk_e T s i → tk_go T j = true
  | 0, j, h1, h2 => by have : j < s + 1 := h2; omega
  | i + 1, j, h1, h2 => by
    unfold tk_e at h2
    split at h2
    · rename_i h
      by_cases e : j = i
      · rw [e]; exact h.2.1
      · exact tk_e_go i j h1 (by omega)
    · exact tk_e_go i j h1 h2
set_option maxRecDepth 20000 in
theorem tk_e_end {s : Nat} : ∀ i, s < i → tk_e T s i < i → tk_go T (tk_e T s i) = false
  | 0, h, _ => absurd h (Nat.not_lt_zero _)
  | i + 1, h, h2 => by
    have hst : tk_e T s (i + 1) = if s < i ∧ tk_go T i = true ∧ tk_e T s i = i then i + 1 else tk_e T s i := rfl
    by_cases hc : s < i ∧ tk_go T i = true ∧ tk_e T s i = i
    · rw [hst, if_pos hc] at h2; omega
    · rw [hst, if_neg hc] at h2 ⊢
      by_cases hs : s < i
      · by_cases he : tk_e T s i = i
        · rw [he]
          cases hg : tk_go T i with
          | false => rfl
          | true => exact absurd ⟨hs, hg, he⟩ hc
        · exact tk_e_end i hs (by have := tk_e_le (T := T) hs; omega)
      · have := tk_e_lo (T := T) (s := s) i (by omega); omega
set_option maxRecDepth 20000 in
/-- the run from s ends where it no longer goes on -/
theorem tk_e_is {s n to : Nat} (h1 : s < to) (h2 : to ≤ n) (hg : ∀ j, s < j → j < to → tk_go T j = true) (he : to = n ∨ tk_go T to = false) : tk_e T s n = to := by
  have h3 : to ≤ tk_e T s n := by
    by_cases h : to ≤ tk_e T s n
    · exact h
    · have hb := tk_e_bd (T := T) (s := s) n
      have := tk_e_end (T := T) n (by omega : s < n) (by omega)
      rw [hg (tk_e T s n) (by omega) (by omega)] at this; cases this
  by_cases e : tk_e T s n = to
  · exact e
  · rcases he with rfl | he
    · have := tk_e_le (T := T) (s := s) (i := to) h1; omega
    · rw [tk_e_go n to h1 (by omega)] at he; cases he
set_option maxRecDepth 20000 in
theorem tk_n_mono {i j : Nat} (h : i ≤ j) : tk_n T i ≤ tk_n T j := by
  induction j with
  | zero => rw [show i = 0 by omega]; exact Nat.le_refl _
  | succ j ih =>
    by_cases e : i = j + 1
    · rw [e]; exact Nat.le_refl _
    · have := ih (by omega); show _ ≤ tk_n T j + _; omega
set_option maxRecDepth 20000 in
theorem tk_n_lt {s i : Nat} (hs : tk_st T s = true) (h : s < i) : tk_n T s < tk_n T i := by
  have h1 : tk_n T (s + 1) = tk_n T s + 1 := by show tk_n T s + _ = _; rw [if_pos hs]
  have := tk_n_mono (T := T) (show s + 1 ≤ i from h)
  omega
set_option maxRecDepth 20000 in
theorem tk_n_le : ∀ i, tk_n T i ≤ i
  | 0 => Nat.le_refl _
  | i + 1 => by have := tk_n_le i; show tk_n T i + _ ≤ _; split <;> omega
set_option maxRecDepth 20000 in
theorem tk_n_inj {s s' : Nat} (hs : tk_st T s = true) (hs' : tk_st T s' = true) (e : tk_n T s = tk_n T s') : s = s' := by
  rcases Nat.lt_trichotomy s s' with h | h | h
  · have := tk_n_lt hs h; omega
  · exact h
  · have := tk_n_lt hs' h; omega
set_option maxRecDepth 20000 in
theorem tk_n_sur : ∀ n j, j < tk_n T n → ∃ s, s < n ∧ tk_st T s = true ∧ tk_n T s = j
  | 0, j, h => absurd h (Nat.not_lt_zero _)
  | n + 1, j, h => by
    have hn : tk_n T (n + 1) = tk_n T n + if tk_st T n = true then 1 else 0 := rfl
    by_cases hj : j < tk_n T n
    · obtain ⟨s, h1, h2, h3⟩ := tk_n_sur n j hj
      exact ⟨s, by omega, h2, h3⟩
    · rw [hn] at h
      by_cases hs : tk_st T n = true
      · rw [if_pos hs] at h; exact ⟨n, by omega, hs, by omega⟩
      · rw [if_neg hs] at h; omega
set_option maxRecDepth 20000 in
theorem tk_n_s {i : Nat} : tk_n T (i + 1) = tk_n T i + if tk_st T i = true then 1 else 0 := rfl
set_option maxRecDepth 20000 in
theorem tk_go_k {i : Nat} (h : tk_go T (i + 1) = true) : tk_k (T (i + 1)) = tk_k (T i) ∧ (tk_k (T (i + 1)) = 1 ∨ tk_k (T (i + 1)) = 2) := by
  unfold tk_go at h
  rw [Bool.and_eq_true, Bool.or_eq_true, decide_eq_true_eq, decide_eq_true_eq, decide_eq_true_eq] at h
  exact h
set_option maxRecDepth 20000 in
theorem tk_last : ∀ i, tk_go T i = true → ∃ s, s < i ∧ tk_st T s = true ∧ tk_n T s + 1 = tk_n T i ∧ tk_e T s i = i
  | 0, h => by cases h
  | i + 1, h => by
    obtain ⟨hk, h12⟩ := tk_go_k h
    have hn4 : ¬ tk_k (T i) = 4 := by rw [← hk]; intro e; rcases h12 with h | h <;> rw [h] at e <;> exact absurd e (by decide)
    cases hg : tk_go T i with
    | false =>
      have hs : tk_st T i = true := by unfold tk_st; rw [hg, decide_eq_false hn4]; rfl
      refine ⟨i, by omega, hs, by rw [tk_n_s, if_pos hs], tk_e_lo (i + 1) (Nat.le_refl _)⟩
    | true =>
      obtain ⟨s, h1, h2, h3, h4⟩ := tk_last i hg
      have hs : ¬ tk_st T i = true := by unfold tk_st; rw [hg]; simp
      refine ⟨s, by omega, h2, by rw [tk_n_s, if_neg hs]; exact h3, ?_⟩
      unfold tk_e; rw [if_pos ⟨h1, hg, h4⟩]
end
-- words: their bytes, by their number less one
def tk_wp : List Nat := [18, 19, 20, 21, 22, 23, 12, 14, 15, 16, 1, 13, 5, 6, 7, 8, 9, 10, 11, 0, 2, 3, 4, 17]
def tk_w (n : Nat) : List Int32 := sf_strB.getD (tk_wp.getD n 0) []
def tk_eq (T : Nat → Int32) (s e : Nat) (l : List Int32) : Bool := decide (e - s = l.length) && (List.range l.length).all (fun i => decide (T (s + i) = l.getD i 0))
def tk_f (T : Nat → Int32) (s e : Nat) : Nat → Nat
  | 0 => 0
  | n + 1 => if tk_f T s e n = 0 then (if tk_eq T s e (tk_w n) = true then n + 1 else 0) else tk_f T s e n
set_option maxRecDepth 20000 in
theorem tk_eq_T {T : Nat → Int32} {s e : Nat} {l : List Int32} (h : tk_eq T s e l = true) : e - s = l.length ∧ ∀ i, i < l.length → T (s + i) = l.getD i 0 := by
  unfold tk_eq at h
  rw [Bool.and_eq_true, decide_eq_true_eq, List.all_eq_true] at h
  exact ⟨h.1, fun i hi => by have := h.2 i (List.mem_range.mpr hi); rw [decide_eq_true_eq] at this; exact this⟩
set_option maxRecDepth 20000 in
theorem tk_eq_I {T : Nat → Int32} {s e : Nat} {l : List Int32} (h1 : e - s = l.length) (h2 : ∀ i, i < l.length → T (s + i) = l.getD i 0) : tk_eq T s e l = true := by
  unfold tk_eq
  rw [Bool.and_eq_true, decide_eq_true_eq, List.all_eq_true]
  exact ⟨h1, fun i hi => by rw [decide_eq_true_eq]; exact h2 i (List.mem_range.mp hi)⟩
set_option maxRecDepth 20000 in
theorem tk_w_inj : ∀ m, m < 24 → ∀ n, n < 24 → (tk_w m).length = (tk_w n).length → (∀ i, i < (tk_w m).length → (tk_w m).getD i 0 = (tk_w n).getD i 0) → m = n := by decide +kernel
set_option maxRecDepth 20000 in
theorem tk_f_le {T : Nat → Int32} {s e : Nat} : ∀ n, tk_f T s e n ≤ n
  | 0 => Nat.le_refl _
  | n + 1 => by have := tk_f_le (T := T) (s := s) (e := e) n; unfold tk_f; split <;> (try split) <;> omega
set_option maxRecDepth 20000 in
theorem tk_f_T {T : Nat → Int32} {s e : Nat} : ∀ n k, tk_f T s e n = k + 1 → tk_eq T s e (tk_w k) = true ∧ k < n
  | 0, k, h => by cases h
  | n + 1, k, h => by
    unfold tk_f at h
    split at h
    · split at h
      · rename_i h2; cases h; exact ⟨h2, Nat.lt_succ_self _⟩
      · cases h
    · have := tk_f_T n k h; exact ⟨this.1, by omega⟩
set_option maxRecDepth 20000 in
theorem tk_f_I {T : Nat → Int32} {s e : Nat} : ∀ n k, n ≤ 24 → k < n → tk_eq T s e (tk_w k) = true → tk_f T s e n = k + 1
  | 0, k, _, h, _ => absurd h (Nat.not_lt_zero _)
  | n + 1, k, hn, h, he => by
    show (if tk_f T s e n = 0 then (if tk_eq T s e (tk_w n) = true then n + 1 else 0) else tk_f T s e n) = _
    by_cases hk : k < n
    · have := tk_f_I n k (by omega) hk he
      rw [if_neg (by omega)]; exact this
    · have e1 : k = n := by omega
      subst e1
      by_cases h0 : tk_f T s e k = 0
      · rw [if_pos h0, if_pos he]
      · exfalso
        obtain ⟨j, hj⟩ : ∃ j, tk_f T s e k = j + 1 := ⟨tk_f T s e k - 1, by omega⟩
        obtain ⟨h1, h2⟩ := tk_f_T k j hj
        obtain ⟨l1, e1⟩ := tk_eq_T h1
        obtain ⟨l2, e2⟩ := tk_eq_T he
        have := tk_w_inj j (by omega) k (by omega) (by omega) (fun i hi => by rw [← e1 i hi, ← e2 i (by omega)])
        omega
/-- the number that a row of digits tells, as the model reckons it, and as the class does -/
def tk_val (T : Nat → Int32) (s : Nat) : Nat → Int32
  | 0 => 0
  | l + 1 => if tk_val T s l ≤ 1000000 then 10 * tk_val T s l + T (s + l) - 48 else tk_val T s l
def tk_num (T : Nat → Int32) (s : Nat) : Nat → Int32
  | 0 => 0
  | l + 1 => if (tk_num T s l * 10 + T (s + l)) - 48 < 1000000 then (tk_num T s l * 10 + T (s + l)) - 48 else 1000000
def tk_c (T : Nat → Int32) (n s : Nat) : Int32 := if tk_k (T s) = 1 then Int32.ofNat (tk_f T s (tk_e T s n) 24) else if tk_k (T s) = 2 then 50 else 100 + T s
def tk_v (T : Nat → Int32) (n s : Nat) : Int32 := if tk_k (T s) = 2 then tk_val T s (tk_e T s n - s) else 0
set_option maxRecDepth 20000 in
theorem tk_digit {b : Int32} (h : tk_k b = 2) : ∃ d, d ≤ 9 ∧ b = Int32.ofNat (48 + d) := by
  unfold tk_k at h
  split at h
  · exact absurd h (by decide)
  · split at h
    · rename_i h2
      rw [zs_inT] at h2
      obtain ⟨k, hk, rfl⟩ := zi_rng (n := 57) (Int32.le_trans (by decide) h2.1) h2.2 (by omega)
      have h1 := h2.1
      rw [show (48 : Int32) = Int32.ofNat 48 from rfl, zi_le (by omega) (by omega)] at h1
      exact ⟨k - 48, by omega, by rw [show 48 + (k - 48) = k by omega]⟩
    · split at h <;> exact absurd h (by decide)
set_option maxRecDepth 20000 in
theorem i_val {v d : Nat} (hd : d ≤ 9) : 10 * Int32.ofNat v + Int32.ofNat (48 + d) - 48 = Int32.ofNat (10 * v + d) := by
  rw [show (10 : Int32) = Int32.ofNat 10 from rfl, zi_mul, zi_add, show (48 : Int32) = Int32.ofNat 48 from rfl, zi_sub (by omega), show 10 * v + (48 + d) - 48 = 10 * v + d by omega]
set_option maxRecDepth 20000 in
theorem tk_vn {T : Nat → Int32} {s : Nat} : ∀ l, (∀ i, i < l → tk_k (T (s + i)) = 2) → ∃ x y, tk_val T s l = Int32.ofNat x ∧ tk_num T s l = Int32.ofNat y ∧ x ≤ 10000009 ∧ y ≤ 1000000 ∧ ((x = y ∧ x ≤ 1000000) ∨ (1000000 ≤ x ∧ y = 1000000))
  | 0, _ => ⟨0, 0, rfl, rfl, by omega, by omega, Or.inl ⟨rfl, by omega⟩⟩
  | l + 1, h => by
    obtain ⟨x, y, hx, hy, bx, bd, hxy⟩ := tk_vn l (fun i hi => h i (by omega))
    obtain ⟨d, hd, e⟩ := tk_digit (h l (by omega))
    have hn : tk_num T s (l + 1) = Int32.ofNat (if 10 * y + d < 1000000 then 10 * y + d else 1000000) := by
      show (if (tk_num T s l * 10 + T (s + l)) - 48 < 1000000 then (tk_num T s l * 10 + T (s + l)) - 48 else 1000000) = _
      rw [hy, e, Int32.mul_comm, i_val hd]
      by_cases hl : 10 * y + d < 1000000
      · rw [if_pos hl, if_pos (show Int32.ofNat (10 * y + d) < 1000000 from zi_ltL (b := 1000000) hl (by omega))]
      · rw [if_neg hl, if_neg (show ¬ Int32.ofNat (10 * y + d) < 1000000 from zi_nlt (b := 1000000) (by omega) (by omega))]; rfl
    have hv : tk_val T s (l + 1) = Int32.ofNat (if x ≤ 1000000 then 10 * x + d else x) := by
      show (if tk_val T s l ≤ 1000000 then 10 * tk_val T s l + T (s + l) - 48 else tk_val T s l) = _
      rw [hx, e, i_val hd]
      by_cases hl : x ≤ 1000000
      · rw [if_pos hl, if_pos (show Int32.ofNat x ≤ 1000000 from zi_leL (b := 1000000) hl (by omega))]
      · rw [if_neg hl, if_neg (show ¬ Int32.ofNat x ≤ 1000000 from zi_nle (b := 1000000) (by omega) (by omega))]
    refine ⟨_, _, hv, hn, by split <;> omega, by split <;> omega, ?_⟩
    split <;> split <;> omega
