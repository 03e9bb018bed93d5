/-! The class's Machine runs steps. -/
theorem lg_c1 (x y : Int64) : (0 < lg_cmp x y) = (y < x) := by
  unfold lg_cmp; by_cases h : y < x
  · rw [if_pos h]; exact propext ⟨fun _ => h, fun _ => by decide⟩
  · rw [if_neg h]; refine propext ⟨fun e => ?_, fun e => absurd e h⟩
    split at e <;> exact absurd e (by decide)
theorem lg_c4 (x y : Int64) : (lg_cmp x y = 0) = (x = y) := by
  unfold lg_cmp; by_cases h : x > y
  · simp only [h, if_true]; refine propext ⟨fun e => absurd e (by decide), fun e => ?_⟩
    subst e; exact absurd h (Int64.lt_irrefl)
  · simp only [h, if_false]; by_cases e : x = y <;> simp [e] <;> decide
theorem lg_c2 (x y : Int64) : (0 ≤ lg_cmp x y) = (y ≤ x) := by
  unfold lg_cmp; by_cases h : x > y
  · simp only [h, if_true]; exact propext ⟨fun _ => Int64.le_of_lt h, fun _ => by decide⟩
  · simp only [h, if_false]; by_cases e : x = y
    · subst e; simp only [if_true]; exact propext ⟨fun _ => Int64.le_refl _, fun _ => by decide⟩
    · simp only [e, if_false]; refine propext ⟨fun q => absurd q (by decide), fun q => ?_⟩
      exact absurd (Int64.le_antisymm (Int64.not_lt.mp h) q) e
theorem lg_c3 (x y : Int64) : (lg_cmp x y ≤ 0) = (x ≤ y) := by
  unfold lg_cmp; by_cases h : x > y
  · simp only [h, if_true]; exact propext ⟨fun q => absurd q (by decide), fun q => absurd h (Int64.not_lt.mpr q)⟩
  · simp only [h, if_false]; refine propext ⟨fun _ => Int64.not_lt.mp h, fun _ => ?_⟩
    split <;> decide
def tx_jv (o : Int32) (x y : Int64) : Int64 := if o = 5 then x + y else if o = 6 then x - y else if o = 7 then x * y
    else if o = 8 then (if y = 0 then 2000000000 else x / y) else if o = 9 then (if y = 0 then 2000000000 else x - x / y * y)
    else if o = 10 then (if x < y then 1 else 0) else if o = 11 then (if y < x then 1 else 0) else if o = 12 then (if x = y then 1 else 0) else 2000000000
theorem tx_join_eq (o a b : Int32) : tx_join o a b = if 1000000000 < tx_jv o a.toInt64 b.toInt64 then none else if tx_jv o a.toInt64 b.toInt64 < -1000000000 then none else some (tx_jv o a.toInt64 b.toInt64).toInt32 := rfl
theorem ez_joined (o : Int32) (x y : Int64) (σ : sf_St) : jx_Machine_joined o x y σ = some (tx_jv o x y, σ) := by
  unfold jx_Machine_joined tx_jv
  simp only [lg_c1, lg_c2, lg_c3, lg_c4]
  by_cases h5 : o = 5
  · simp only [h5, if_true]; rfl
  by_cases h6 : o = 6
  · simp +decide only [h5, h6, if_true, if_false]; rfl
  by_cases h7 : o = 7
  · simp +decide only [h5, h6, h7, if_true, if_false]; rfl
  by_cases h8 : o = 8
  · simp +decide only [h5, h6, h7, h8, if_true, if_false]
    by_cases hy : y = 0
    · simp only [hy, if_true]; rfl
    · simp [hy, sf_bnd, sf_dvL, sf_ret]
  by_cases h9 : o = 9
  · simp +decide only [h5, h6, h7, h8, h9, if_true, if_false]
    by_cases hy : y = 0
    · simp only [hy, if_true]; rfl
    · simp [hy, sf_bnd, sf_rmL, sf_ret]
  by_cases h10 : o = 10
  · simp +decide only [h5, h6, h7, h8, h9, h10, if_true, if_false]
    by_cases hy : x < y
    · simp only [hy, if_true, Int64.not_le.mpr hy, if_false]; rfl
    · simp only [hy, if_false, Int64.not_lt.mp hy, if_true]; rfl
  by_cases h11 : o = 11
  · simp +decide only [h5, h6, h7, h8, h9, h10, h11, if_true, if_false]
    by_cases hy : y < x
    · simp only [hy, if_true, Int64.not_le.mpr hy, if_false]; rfl
    · simp only [hy, if_false, Int64.not_lt.mp hy, if_true]; rfl
  by_cases h12 : o = 12
  · simp +decide only [h5, h6, h7, h8, h9, h10, h11, h12, if_true, if_false]
    by_cases hy : x = y
    · simp only [hy, if_true]; rfl
    · simp only [hy, if_false]; rfl
  simp only [h5, h6, h7, h8, h9, h10, h11, h12, if_false]; rfl
-- a Program somewhere
def zr_pp (t : List (Nat × Nat)) (D : Nat → Nat → Option Nat) (p : Nat) : Prop :=
  (zp_sh0 ++ t).getD p (999, 0) = (16, 5) ∧ (zp_sh0 ++ t).getD (p + 1) (999, 0) = (0, 400) ∧ (zp_sh0 ++ t).getD (p + 2) (999, 0) = (0, 400) ∧ (zp_sh0 ++ t).getD (p + 3) (999, 0) = (0, 72) ∧
  zp_rfs D p 0 = some (p + 1) ∧ zp_rfs D p 1 = some (p + 2) ∧ zp_rfs D p 2 = some (p + 3)
section
variable {t : List (Nat × Nat)} {I : Nat → Nat → Int32} {J : Nat → Nat → Int64} {D : Nat → Nat → Option Nat} {p : Nat}
set_option maxRecDepth 20000 in
theorem zr_pp98 : zr_pp t D 98 := ⟨rfl, rfl, rfl, rfl, rfl, rfl, rfl⟩
theorem pp_X {β : Type} {Q : β → sf_St → Prop} (h : zr_pp t D p) :
    (∀ (k : Nat) (g : Int32 → sf_M β), zp_wp (sf_bnd (sf_gI 6 k (some p)) g) Q (zp_Z t I J D) = zp_wp (g (I p k)) Q (zp_Z t I J D)) ∧
    (∀ (k : Nat) (v : Int32) (g : Unit → sf_M β), zp_wp (sf_bnd (sf_pI 6 k (some p) v) g) Q (zp_Z t I J D) = zp_wp (g ()) Q (zp_Z t (sf_u2 I p k v) J D)) ∧
    (∀ {α : Type} (f : sf_M α) (g : α → sf_M β), zp_wp (sf_bnd (sf_rc 6 (some p) f) g) Q (zp_Z t I J D) = zp_wp (sf_bnd f g) Q (zp_Z t I J D)) ∧
    (∀ (g : Option Nat → sf_M β), zp_wp (sf_bnd (sf_gR 6 0 (some p)) g) Q (zp_Z t I J D) = zp_wp (g (some (p + 1))) Q (zp_Z t I J D)) ∧
    (∀ (g : Option Nat → sf_M β), zp_wp (sf_bnd (sf_gR 6 1 (some p)) g) Q (zp_Z t I J D) = zp_wp (g (some (p + 2))) Q (zp_Z t I J D)) ∧
    (∀ (g : Option Nat → sf_M β), zp_wp (sf_bnd (sf_gR 6 2 (some p)) g) Q (zp_Z t I J D) = zp_wp (g (some (p + 3))) Q (zp_Z t I J D)) ∧
    (∀ (x : Int32) (g : Int32 → sf_M β), zp_in x 400 → zp_wp (sf_bnd (sf_aI 0 (some (p + 1)) x) g) Q (zp_Z t I J D) = zp_wp (g (I (p + 1) (sf_ix x))) Q (zp_Z t I J D)) ∧
    (∀ (x : Int32) (g : Int32 → sf_M β), zp_in x 400 → zp_wp (sf_bnd (sf_aI 0 (some (p + 2)) x) g) Q (zp_Z t I J D) = zp_wp (g (I (p + 2) (sf_ix x))) Q (zp_Z t I J D)) ∧
    (∀ (x : Int32) (g : Int32 → sf_M β), zp_in x 72 → zp_wp (sf_bnd (sf_aI 0 (some (p + 3)) x) g) Q (zp_Z t I J D) = zp_wp (g (I (p + 3) (sf_ix x))) Q (zp_Z t I J D)) ∧
    (∀ (g : Int32 → sf_M β), zp_wp (sf_bnd (sf_len (some (p + 3))) g) Q (zp_Z t I J D) = zp_wp (g 72) Q (zp_Z t I J D)) := by
  obtain ⟨h1, h2, h3, h4, h5, h6, h7⟩ := h
  exact ⟨fun k g => pz_gI (ci := 6) h1, fun k v g => pz_pI (ci := 6) h1, fun f g => pz_rc (ci := 6) h1, fun g => by rw [pz_gR (ci := 6) h1, h5], fun g => by rw [pz_gR (ci := 6) h1, h6], fun g => by rw [pz_gR (ci := 6) h1, h7],
    fun x g h => pz_aI h2 h, fun x g h => pz_aI h3 h, fun x g h => pz_aI h4 h, fun g => pz_len h4 (by decide)⟩
theorem ez_noted (h : zr_pp t D p) {x y : Int32} {j : Nat} (e : x * 6 + y = Int32.ofNat j) (hj : j < 72) : jx_Program_noted (some p) x y (zp_Z t I J D) = some (I (p + 3) j, zp_Z t I J D) := by
  apply zp_wp_eq
  unfold jx_Program_noted
  have h0 : ¬ Int32.ofNat j < 0 := by (simp only [Int32.le_iff_toInt_le, Int32.lt_iff_toInt_lt, ← Int32.toInt_inj, Int32.toInt_ofNat', Int32.reduceToInt, zi_ix, Int32.toInt_add, Int32.toInt_sub, Int32.toInt_mul, Int32.toInt_neg, zi_bm, zi_bms, zp_in] at *; omega)
  have h1 : ¬ 72 ≤ Int32.ofNat j := by (simp only [Int32.le_iff_toInt_le, Int32.lt_iff_toInt_lt, ← Int32.toInt_inj, Int32.toInt_ofNat', Int32.reduceToInt, zi_ix, Int32.toInt_add, Int32.toInt_sub, Int32.toInt_mul, Int32.toInt_neg, zi_bm, zi_bms, zp_in] at *; omega)
  simp +decide (maxSteps := 10000000) (disch := first | assumption | decide | (refine zi_in ?_ ?_ <;> omega) | omega) only [↓pd_C, ↓reduceIte, ↓pp_X h, e, h0, h1, zp_in, zi_ixn, zi_ixl, zu_eq, zu_a, zu_r, zu1_a, zu1_e, if_false, and_self]
theorem ez_opAt (h : zr_pp t D p) {z j : Nat} (hz : I p 3 = Int32.ofNat z) (hz4 : z ≤ 400) (hj : j < z) : jx_Program_opAt (some p) (Int32.ofNat j) (zp_Z t I J D) = some (I (p + 1) j, zp_Z t I J D) := by
  apply zp_wp_eq
  unfold jx_Program_opAt
  have h0 : ¬ Int32.ofNat j < 0 := by (simp only [Int32.le_iff_toInt_le, Int32.lt_iff_toInt_lt, ← Int32.toInt_inj, Int32.toInt_ofNat', Int32.reduceToInt, zi_ix, Int32.toInt_add, Int32.toInt_sub, Int32.toInt_mul, Int32.toInt_neg, zi_bm, zi_bms, zp_in] at *; omega)
  have h1 : ¬ Int32.ofNat z ≤ Int32.ofNat j := by (simp only [Int32.le_iff_toInt_le, Int32.lt_iff_toInt_lt, ← Int32.toInt_inj, Int32.toInt_ofNat', Int32.reduceToInt, zi_ix, Int32.toInt_add, Int32.toInt_sub, Int32.toInt_mul, Int32.toInt_neg, zi_bm, zi_bms, zp_in] at *; omega)
  simp +decide (maxSteps := 10000000) (disch := first | assumption | decide | (refine zi_in ?_ ?_ <;> omega) | omega) only [↓pd_C, ↓reduceIte, ↓pp_X h, hz, h0, h1, zp_in, zi_ixn, zi_ixl, zu_eq, zu_a, zu_r, zu1_a, zu1_e, if_false, and_self]
theorem ez_argAt (h : zr_pp t D p) {z j : Nat} (hz : I p 3 = Int32.ofNat z) (hz4 : z ≤ 400) (hj : j < z) : jx_Program_argAt (some p) (Int32.ofNat j) (zp_Z t I J D) = some (I (p + 2) j, zp_Z t I J D) := by
  apply zp_wp_eq
  unfold jx_Program_argAt
  have h0 : ¬ Int32.ofNat j < 0 := by (simp only [Int32.le_iff_toInt_le, Int32.lt_iff_toInt_lt, ← Int32.toInt_inj, Int32.toInt_ofNat', Int32.reduceToInt, zi_ix, Int32.toInt_add, Int32.toInt_sub, Int32.toInt_mul, Int32.toInt_neg, zi_bm, zi_bms, zp_in] at *; omega)
  have h1 : ¬ Int32.ofNat z ≤ Int32.ofNat j := by (simp only [Int32.le_iff_toInt_le, Int32.lt_iff_toInt_lt, ← Int32.toInt_inj, Int32.toInt_ofNat', Int32.reduceToInt, zi_ix, Int32.toInt_add, Int32.toInt_sub, Int32.toInt_mul, Int32.toInt_neg, zi_bm, zi_bms, zp_in] at *; omega)
  simp +decide (maxSteps := 10000000) (disch := first | assumption | decide | (refine zi_in ?_ ?_ <;> omega) | omega) only [↓pd_C, ↓reduceIte, ↓pp_X h, hz, h0, h1, zp_in, zi_ixn, zi_ixl, zu_eq, zu_a, zu_r, zu1_a, zu1_e, if_false, and_self]
end
