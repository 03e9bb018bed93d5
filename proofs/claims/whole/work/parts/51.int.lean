/-! Ints of 32 bits: by their Int, by a Nat. -/
theorem zi_ix (x : Int32) : sf_ix x = x.toInt.toNat := rfl
theorem zi_bm (x : Int) : x.bmod (2 ^ 32) = (x + 2147483648) % 4294967296 - 2147483648 := by
  rw [Int.bmod_def]; split <;> omega
theorem zi_bms (x : Int) : x.bmod Int32.size = (x + 2147483648) % 4294967296 - 2147483648 := zi_bm x
theorem zi_in {n m : Nat} (h : n < m) (hm : m ≤ 2147483648) : zp_in (Int32.ofNat n) m := by
  unfold zp_in; simp only [Int32.toInt_ofNat', zi_bms]; omega
theorem zi_ofNat {n : Nat} (h : n < 2147483648) : (Int32.ofNat n).toInt = n := by
  simp only [Int32.toInt_ofNat', zi_bms]; omega
theorem zi_ixn {n : Nat} (h : n < 2147483648) : sf_ix (Int32.ofNat n) = n := by
  rw [zi_ix, zi_ofNat h]; rfl
theorem zi_add (a b : Nat) : Int32.ofNat a + Int32.ofNat b = Int32.ofNat (a + b) := (Int32.ofNat_add a b).symm
theorem zi_mul (a b : Nat) : Int32.ofNat a * Int32.ofNat b = Int32.ofNat (a * b) := (Int32.ofNat_mul a b).symm
theorem zi_lit (n : Nat) : (no_index (OfNat.ofNat n) : Int32) = Int32.ofNat n := rfl
theorem zi_sub {a b : Nat} (h : b ≤ a) : Int32.ofNat a - Int32.ofNat b = Int32.ofNat (a - b) := (Int32.ofNat_sub a b h).symm
theorem zi_le {a b : Nat} (ha : a < 2147483648) (hb : b < 2147483648) : (Int32.ofNat a ≤ Int32.ofNat b) = (a ≤ b) := by
  rw [Int32.le_iff_toInt_le, zi_ofNat ha, zi_ofNat hb]; exact propext Int.ofNat_le
theorem zi_lt {a b : Nat} (ha : a < 2147483648) (hb : b < 2147483648) : (Int32.ofNat a < Int32.ofNat b) = (a < b) := by
  rw [Int32.lt_iff_toInt_lt, zi_ofNat ha, zi_ofNat hb]; exact propext Int.ofNat_lt
theorem zi_eq {a b : Nat} (ha : a < 2147483648) (hb : b < 2147483648) : (Int32.ofNat a = Int32.ofNat b) = (a = b) := by
  rw [← Int32.toInt_inj, zi_ofNat ha, zi_ofNat hb]; exact propext Int.ofNat_inj
theorem zi_nat {x : Int32} {n : Nat} (h0 : 0 ≤ x) (h : x < Int32.ofNat n) (hn : n < 2147483648) : ∃ m, m < n ∧ x = Int32.ofNat m := by
  refine ⟨x.toInt.toNat, ?_, ?_⟩
  · rw [Int32.lt_iff_toInt_lt, zi_ofNat hn] at h; rw [Int32.le_iff_toInt_le] at h0; simp only [Int32.reduceToInt] at h0; omega
  · rw [← Int32.toInt_inj, zi_ofNat]
    · rw [Int32.le_iff_toInt_le] at h0; simp only [Int32.reduceToInt] at h0; omega
    · have := Int32.toInt_lt x; omega
