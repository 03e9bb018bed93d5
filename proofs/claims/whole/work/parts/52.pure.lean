/-! Functions that look at no cell. -/
def zb (p : Bool) : Int32 := if p = true then 1 else 0
theorem zb_0 (p : Bool) : (zb p = 0) = (p = false) := by cases p <;> simp [zb]
theorem zb_1 (p : Bool) : (zb p = 1) = (p = true) := by cases p <;> simp [zb]
theorem zb_T : zb true = 1 := rfl
theorem zb_F : zb false = 0 := rfl
theorem zm_ret {α β : Type} {a : α} {g : α → sf_M β} : sf_bnd (sf_ret a) g = g a := rfl
theorem zm_rz (p : Bool) : sf_rz (zb p) = sf_ret (zb p) := by
  funext σ; unfold sf_rz zb; split <;> rfl
theorem zm_ite {α β : Type} {c : Prop} [Decidable c] {f g : sf_M α} {k : α → sf_M β} : sf_bnd (if c then f else g) k = if c then sf_bnd f k else sf_bnd g k := by split <;> rfl
theorem ze_abs (p : Int32) : jx_Math_abs p = sf_ret (if 0 ≤ p then p else -p) := by
  unfold jx_Math_abs; split <;> rfl
theorem ze_min (p q : Int32) : jx_Math_min p q = sf_ret (if q < p then q else p) := by
  unfold jx_Math_min; split <;> rfl
theorem ze_max (p q : Int32) : jx_Math_max p q = sf_ret (if p < q then q else p) := by
  unfold jx_Math_max; split <;> rfl
theorem ze_lesser (p q : Int32) : jx_Mo_lesser p q = sf_ret (if q < p then q else p) := by
  unfold jx_Mo_lesser; (repeat' split) <;> first | rfl | (congr 1; (simp only [Int32.le_iff_toInt_le, Int32.lt_iff_toInt_lt, ← Int32.toInt_inj, Int32.toInt_ofNat', Int32.reduceToInt, zi_ix, Int32.toInt_add, Int32.toInt_sub, Int32.toInt_mul, Int32.toInt_neg, zi_bm, zi_bms, zp_in] at *; omega))
theorem ze_greater (p q : Int32) : jx_Mo_greater p q = sf_ret (if p < q then q else p) := by
  unfold jx_Mo_greater; (repeat' split) <;> first | rfl | (congr 1; (simp only [Int32.le_iff_toInt_le, Int32.lt_iff_toInt_lt, ← Int32.toInt_inj, Int32.toInt_ofNat', Int32.reduceToInt, zi_ix, Int32.toInt_add, Int32.toInt_sub, Int32.toInt_mul, Int32.toInt_neg, zi_bm, zi_bms, zp_in] at *; omega))
def zs_in (l p h : Int32) : Bool := decide (l ≤ p) && decide (p ≤ h)
theorem zs_inT {l p h : Int32} : (zs_in l p h = true) = (l ≤ p ∧ p ≤ h) := by simp [zs_in]
theorem zs_inF {l p h : Int32} : (zs_in l p h = false) = (p < l ∨ h < p) := by
  rw [← Bool.not_eq_true, zs_inT]; apply propext; constructor <;> intro h <;> (simp only [Int32.le_iff_toInt_le, Int32.lt_iff_toInt_lt, ← Int32.toInt_inj, Int32.toInt_ofNat', Int32.reduceToInt, zi_ix, Int32.toInt_add, Int32.toInt_sub, Int32.toInt_mul, Int32.toInt_neg, zi_bm, zi_bms, zp_in] at *; omega)
theorem ze_lies (p l h : Int32) : jx_Mo_lies p l h = sf_ret (zb (zs_in l p h)) := by
  unfold jx_Mo_lies; cases hb : zs_in l p h <;> simp only [zs_inT, zs_inF] at hb <;> unfold zb <;> (repeat' split) <;> first | rfl | (exfalso; simp_all; done) | (exfalso; (simp only [Int32.le_iff_toInt_le, Int32.lt_iff_toInt_lt, ← Int32.toInt_inj, Int32.toInt_ofNat', Int32.reduceToInt, zi_ix, Int32.toInt_add, Int32.toInt_sub, Int32.toInt_mul, Int32.toInt_neg, zi_bm, zi_bms, zp_in] at *; omega))
def zs_st (p : Int32) : Bool := zs_in 0 p 7
def zs_leg (p q : Int32) : Bool := zs_st p && zs_st q && decide (p ≠ q)
theorem ze_isStation (p : Int32) : jx_SF_isStation p = sf_ret (zb (zs_st p)) := by
  unfold jx_SF_isStation zs_st; cases hb : zs_in 0 p 7 <;> simp only [zs_inT, zs_inF] at hb <;> unfold zb <;> (repeat' split) <;> first | rfl | (exfalso; simp_all; done) | (exfalso; (simp only [Int32.le_iff_toInt_le, Int32.lt_iff_toInt_lt, ← Int32.toInt_inj, Int32.toInt_ofNat', Int32.reduceToInt, zi_ix, Int32.toInt_add, Int32.toInt_sub, Int32.toInt_mul, Int32.toInt_neg, zi_bm, zi_bms, zp_in] at *; omega))
theorem ze_isLeg (p q : Int32) : jx_SF_isLeg p q = sf_ret (zb (zs_leg p q)) := by
  unfold jx_SF_isLeg; simp only [ze_isStation, zm_ret, zb_0]; cases h1 : zs_st p <;> cases h2 : zs_st q <;> by_cases h3 : p = q <;> simp [h1, h2, h3, zb, zs_leg] <;> simp [← h3, h1]
theorem ze_MisStation (p : Int32) : jx_Mo_isStation p = sf_ret (zb (zs_st p)) := by
  unfold jx_Mo_isStation zs_st; simp only [ze_lies, zm_ret, zm_rz]
theorem ze_areTwo (p q : Int32) : jx_Mo_areTwo p q = sf_ret (zb (zs_leg p q)) := by
  unfold jx_Mo_areTwo; simp only [ze_MisStation, zm_ret, zb_0]; cases h1 : zs_st p <;> cases h2 : zs_st q <;> by_cases h3 : p = q <;> simp [h1, h2, h3, zb, zs_leg] <;> simp [← h3, h1]
def zs_bought (s p q : Int32) : Bool := (decide (s = 0) || decide (s = 1)) && zs_leg p q
theorem ze_isBought (s p q : Int32) : jx_SF_isBought s p q = sf_ret (zb (zs_bought s p q)) := by
  unfold jx_SF_isBought sf_or; simp only [ze_isLeg, zm_ret, zb_0, zm_ite]; by_cases h1 : s = 0 <;> by_cases h2 : s = 1 <;> cases h3 : zs_leg p q <;> simp [h1, h2, h3, zb, zs_bought, zm_ret]
theorem ze_pairAt (p q : Int32) : jx_Mo_pairAt p q = sf_ret (8 * p + q) := rfl
theorem ze_ticketAt (s p q : Int32) : jx_Mo_ticketAt s p q = sf_ret (64 * s + (8 * p + q)) := by
  unfold jx_Mo_ticketAt; simp only [ze_pairAt, zm_ret]; congr 1; simp
theorem ze_sign (p : Int32) : jx_Mo_sign p = sf_ret (100 + p) := rfl
theorem ze_far (p q : Int32) : jx_Mo_far p q = sf_ret (if p < q then q - p else p - q) := by
  unfold jx_Mo_far; (repeat' split) <;> first | rfl | (exfalso; (simp only [Int32.le_iff_toInt_le, Int32.lt_iff_toInt_lt, ← Int32.toInt_inj, Int32.toInt_ofNat', Int32.reduceToInt, zi_ix, Int32.toInt_add, Int32.toInt_sub, Int32.toInt_mul, Int32.toInt_neg, zi_bm, zi_bms, zp_in] at *; omega))
theorem ze_termAt (p : Int32) : jx_Mo_termAt p = sf_ret (if p = 0 then 194 else if p = 1 then 225 else 226) := by
  unfold jx_Mo_termAt; (repeat' split) <;> rfl
def zs_term (p v : Int32) : Bool := (decide (p = 0) && zs_in 0 v 999) || (decide (p = 1) && zs_in 0 v 10) || (decide (p = 2) && zs_in 0 v 9)
theorem ze_isTerm (p v : Int32) : jx_Mo_isTerm p v = sf_ret (zb (zs_term p v)) := by
  unfold jx_Mo_isTerm; simp only [ze_lies, zm_ret, zm_rz]
  by_cases h1 : p = 0
  · simp [h1, zs_term]
  · by_cases h2 : p = 1
    · simp [h2, zs_term]
    · by_cases h3 : p = 2
      · simp [h3, zs_term]
      · simp [h1, h2, h3, zs_term, zb]
theorem ze_isSmall (p : Int32) : jx_Mo_isSmall p = sf_ret (zb (zs_in 97 p 122)) := by
  rw [← ze_lies]; rfl
theorem ze_isDigit (p : Int32) : jx_Mo_isDigit p = sf_ret (zb (zs_in 48 p 57)) := by
  rw [← ze_lies]; rfl
theorem ze_kindOf (p : Int32) : jx_Tokens_kindOf p = sf_ret (if zs_in 97 p 122 = true then 1 else if zs_in 48 p 57 = true then 2 else if p = 32 then 4 else 3) := by
  unfold jx_Tokens_kindOf sf_or; simp only [zm_ret, zm_ite]; simp only [zs_inT]; (repeat' split) <;> first | rfl | (exfalso; (simp only [Int32.le_iff_toInt_le, Int32.lt_iff_toInt_lt, ← Int32.toInt_inj, Int32.toInt_ofNat', Int32.reduceToInt, zi_ix, Int32.toInt_add, Int32.toInt_sub, Int32.toInt_mul, Int32.toInt_neg, zi_bm, zi_bms, zp_in] at *; omega))
def zs_bit (s k : Int32) : Bool := ((s >>> (k &&& 31)) &&& (1 : Int32)) == 1
theorem zs_bitT {s k : Int32} : (((s >>> (k &&& 31)) &&& (1 : Int32)) = 1) = (zs_bit s k = true) := by simp [zs_bit]
theorem ze_isIn (s k : Int32) : jx_Mo_isIn s k = sf_ret (zb (zs_bit s k)) := by
  unfold jx_Mo_isIn; simp only [zs_bitT]; cases zs_bit s k <;> rfl
def zs_pop (p : Int32) : Int32 :=
  let y1 := (p - (((p.toUInt32 >>> ((1 : Int32).toUInt32 &&& Int32.toUInt32 31)).toInt32) &&& (1431655765 : Int32)))
  let y2 := (((y1 &&& (858993459 : Int32)) + (((y1.toUInt32 >>> ((2 : Int32).toUInt32 &&& Int32.toUInt32 31)).toInt32) &&& (858993459 : Int32))))
  let y3 := (((y2 + ((y2.toUInt32 >>> ((4 : Int32).toUInt32 &&& Int32.toUInt32 31)).toInt32)) &&& (252645135 : Int32)))
  let y4 := ((y3 + ((y3.toUInt32 >>> ((8 : Int32).toUInt32 &&& Int32.toUInt32 31)).toInt32)))
  let y5 := ((y4 + ((y4.toUInt32 >>> ((16 : Int32).toUInt32 &&& Int32.toUInt32 31)).toInt32)))
  y5 &&& (63 : Int32)
theorem ze_bitCount (p : Int32) : jx_Integer_bitCount p = sf_ret (zs_pop p) := rfl
def zs_ones (p : Int32) : Int32 := ((List.range 8).map (fun k => (p >>> (Int32.ofNat k &&& 31)) &&& 1)).foldl (· + ·) 0
theorem zs_ones_pop : ∀ n, n < 256 → zs_ones (Int32.ofNat n) = zs_pop (Int32.ofNat n) := by decide +kernel
theorem zs_pop_le : ∀ n, n < 256 → 0 ≤ zs_pop (Int32.ofNat n) ∧ zs_pop (Int32.ofNat n) ≤ 8 := by decide +kernel
theorem zl_s {β γ : Type} {body : β → sf_M (β ⊕ γ)} {n : Nat} {b : β} : sf_loop body (n + 1) b = sf_bnd (body b) (fun r => match r with | .inl b' => sf_loop body n b' | .inr g => sf_ret g) := rfl
theorem ze_ones (p : Int32) : jx_Mo_ones p = sf_ret (zs_ones p) := by
  unfold jx_Mo_ones zs_ones
  obtain ⟨F, hF⟩ : ∃ F, sf_fuel = F + 9 := ⟨999991, rfl⟩
  rw [hF]
  simp only [zl_s, zm_ret]
  simp only [Int32.reduceLE, Int32.reduceAdd, if_true, if_false, zm_ret, List.range, List.range.loop, List.map, List.foldl]
  rfl
