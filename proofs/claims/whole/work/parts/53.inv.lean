/-! What the office's cells hold, told by a row K of ints (the places of the model's own row). -/
def zr_off (I : Nat → Nat → Int32) (o : Nat) (K : Nat → Int32) : Prop :=
  (∀ i, i < 192 → I (o + 2) i = K i) ∧ I (o + 1) 2 = K 192 ∧ I (o + 1) 1 = K 193 ∧ I (o + 1) 3 = K 194 ∧
  (∀ i, i < 6 → I (o + 3) i = K (195 + i)) ∧ (∀ i, i < 6 → I (o + 4) i = K (201 + i)) ∧ (∀ i, i < 6 → I (o + 5) i = K (207 + i)) ∧
  (∀ i, i < 6 → I (o + 7) i = K (213 + 2 * i)) ∧ (∀ i, i < 6 → I (o + 8) i = K (214 + 2 * i)) ∧
  I o 11 = K 225 ∧ I o 12 = K 226 ∧ I o 1 = K 227 ∧ I o 8 = K 228 ∧ I o 5 = K 229 ∧ I o 6 = K 230
def zv (K : Nat → Int32) : Prop :=
  (∀ i, i < 192 → 0 ≤ K i ∧ K i ≤ 9) ∧ (0 ≤ K 192 ∧ K 192 ≤ 7) ∧ (0 ≤ K 193 ∧ K 193 ≤ 99999) ∧ (0 ≤ K 194 ∧ K 194 ≤ 999) ∧
  (∀ i, i < 6 → 0 ≤ K (195 + i) ∧ K (195 + i) ≤ 255) ∧ (∀ i, i < 6 → 0 ≤ K (213 + 2 * i) ∧ K (213 + 2 * i) ≤ 7) ∧
  (0 ≤ K 225 ∧ K 225 ≤ 10) ∧ (0 ≤ K 226 ∧ K 226 ≤ 9) ∧ (0 ≤ K 227 ∧ K 227 ≤ 6) ∧ (0 ≤ K 228 ∧ K 228 ≤ 6) ∧ (0 ≤ K 229 ∧ K 229 ≤ 6) ∧ (-1 ≤ K 230 ∧ K 230 < K 229)
theorem zi_rng {x : Int32} {n : Nat} (h0 : 0 ≤ x) (h : x ≤ Int32.ofNat n) (hn : n < 2147483647) : ∃ m, m ≤ n ∧ x = Int32.ofNat m := by
  obtain ⟨m, h1, h2⟩ := zi_nat (n := n + 1) h0 (by simp only [Int32.le_iff_toInt_le, Int32.lt_iff_toInt_lt, zi_ofNat (show n < 2147483648 by omega), zi_ofNat (show n + 1 < 2147483648 by omega)] at *; omega) (by omega)
  exact ⟨m, by omega, h2⟩
section
variable {t : List (Nat × Nat)} {I : Nat → Nat → Int32} {J : Nat → Nat → Int64} {D : Nat → Nat → Option Nat} {K : Nat → Int32}
theorem zx_addTrain_bad (hO : zr_off I 2 K) {a b c : Int32} (h : (zs_in 0 a 255 && decide (2 ≤ zs_pop a) && zs_in 0 b 1 && zs_in 0 c 23) = false) : jx_Office_addTrain (some 2) a b c (zp_Z t I J D) = some (-1, zp_Z t I J D) := by
  apply zp_wp_eq
  unfold jx_Office_addTrain
  simp only [Bool.and_eq_false_iff, zs_inF, decide_eq_false_iff_not] at h
  simp only [ze_abs, ze_min, ze_max, ze_lesser, ze_greater, ze_lies, ze_isStation, ze_isLeg, ze_MisStation, ze_areTwo, ze_isBought, ze_pairAt, ze_ticketAt, ze_sign, ze_far, ze_termAt, ze_isTerm, ze_isSmall, ze_isDigit, ze_kindOf, ze_isIn, ze_bitCount, ze_ones, zm_rz, zb_0, zb_1, zb_T, zb_F, zs_bitT, ↓pb_C, ↓reduceIte, ↓pb_X]
  done
end
