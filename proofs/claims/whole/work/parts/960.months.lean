/-! months: the draws. -/
set_option maxRecDepth 20000 in
theorem tI (n : Nat) (h : n < 2147483648) : (Int32.ofNat n).toInt = n := by rw [Int32.toInt_ofNat_of_lt (by omega)]
set_option maxRecDepth 20000 in
theorem zi_div {a b : Nat} (ha : a < 2147483648) (hb : b < 2147483648) (h0 : 0 < b) : Int32.ofNat a / Int32.ofNat b = Int32.ofNat (a / b) := by
  rw [← Int32.toInt_inj, Int32.toInt_div, tI a ha, tI b hb, tI (a / b) (by have := Nat.div_le_self a b; omega)]
  have : (a : Int).tdiv b = ((a / b : Nat) : Int) := by
    rw [Int.tdiv_eq_ediv_of_nonneg (by omega)]; rfl
  rw [this]
  have := Nat.div_le_self a b
  generalize a / b = q at this ⊢
  exact Int.bmod_eq_of_le (by omega) (by omega)
set_option maxRecDepth 20000 in
theorem tJ (n : Nat) (h : n < 9223372036854775808) : (Int64.ofNat n).toInt = n := by rw [Int64.toInt_ofNat_of_lt (by omega)]
set_option maxRecDepth 20000 in
theorem zj_div {a b : Nat} (ha : a < 9223372036854775808) (hb : b < 9223372036854775808) (h0 : 0 < b) : Int64.ofNat a / Int64.ofNat b = Int64.ofNat (a / b) := by
  rw [← Int64.toInt_inj, Int64.toInt_div, tJ a ha, tJ b hb, tJ (a / b) (by have := Nat.div_le_self a b; omega)]
  have : (a : Int).tdiv b = ((a / b : Nat) : Int) := by
    rw [Int.tdiv_eq_ediv_of_nonneg (by omega)]; rfl
  rw [this]
  have := Nat.div_le_self a b
  generalize a / b = q at this ⊢
  exact Int.bmod_eq_of_le (by omega) (by omega)
set_option maxRecDepth 20000 in
theorem zj_of (n : Nat) (h : n < 2147483648) : (Int32.ofNat n).toInt64 = Int64.ofNat n := by
  rw [← Int64.toInt_inj, Int32.toInt_toInt64, tI n h, tJ n (by omega)]
set_option maxRecDepth 20000 in
theorem zj_to (n : Nat) (h : n < 2147483648) : (Int64.ofNat n).toInt32 = Int32.ofNat n := by
  rw [← Int32.toInt_inj, Int64.toInt_toInt32, tJ n (by omega), tI n h]
  exact Int.bmod_eq_of_le (by omega) (by omega)
set_option maxRecDepth 20000 in
theorem zj_sub {a b : Nat} (ha : a < 9223372036854775808) (h : b ≤ a) : Int64.ofNat a - Int64.ofNat b = Int64.ofNat (a - b) := by
  rw [← Int64.toInt_inj, Int64.toInt_sub, tJ a ha, tJ b (by omega), tJ (a - b) (by omega)]
  rw [Int.bmod_eq_of_le (by omega) (by omega)]
  omega
def dr (x : Nat) : Nat := (x * 1103 + 12345) % 1000003
set_option maxRecDepth 20000 in
theorem drM {x : Nat} (hx : x ≤ 1000002) : (((1103 : Int64) * (Int32.ofNat x).toInt64 + (12345 : Int64)) - (((1103 : Int64) * (Int32.ofNat x).toInt64) + (12345 : Int64)) / (1000003 : Int64) * (1000003 : Int64)).toInt32 = Int32.ofNat (dr x) := by
  have e1 : (1103 : Int64) * (Int32.ofNat x).toInt64 + 12345 = Int64.ofNat (x * 1103 + 12345) := by
    rw [zj_of x (by omega), show (1103 : Int64) = Int64.ofNat 1103 from rfl, show (12345 : Int64) = Int64.ofNat 12345 from rfl, ← Int64.ofNat_mul, ← Int64.ofNat_add, Nat.mul_comm]
  have e2 : Int64.ofNat (x * 1103 + 12345) / (1000003 : Int64) = Int64.ofNat ((x * 1103 + 12345) / 1000003) := zj_div (b := 1000003) (by omega) (by omega) (by omega)
  have e3 : Int64.ofNat ((x * 1103 + 12345) / 1000003) * (1000003 : Int64) = Int64.ofNat ((x * 1103 + 12345) / 1000003 * 1000003) := by
    rw [show (1000003 : Int64) = Int64.ofNat 1000003 from rfl, ← Int64.ofNat_mul]
  rw [e1, e2, e3]
  unfold dr
  have hv : x * 1103 + 12345 < 2147483648 := by omega
  generalize x * 1103 + 12345 = v at hv ⊢
  have h1 : v / 1000003 * 1000003 ≤ v := Nat.div_mul_le_self v 1000003
  have h2 := Nat.div_add_mod v 1000003
  rw [zj_sub (by omega) h1, zj_to _ (by omega)]
  have h3 : v - v / 1000003 * 1000003 = v % 1000003 := by omega
  rw [h3]
set_option maxRecDepth 20000 in
theorem zi_modN {a b : Nat} (ha : a < 2147483648) (hb : b < 2147483648) (h0 : 0 < b) : Int32.ofNat a - Int32.ofNat a / Int32.ofNat b * Int32.ofNat b = Int32.ofNat (a % b) := by
  have h1 : a / b * b ≤ a := Nat.div_mul_le_self a b
  rw [zi_div ha hb h0, ← Int32.ofNat_mul, zi_sub h1]
  congr 1
  have := Nat.div_add_mod a b
  rw [Nat.mul_comm] at this
  omega
set_option maxRecDepth 20000 in
theorem drX {x : Nat} (hx : x ≤ 1000002) : ((Int32.ofNat x * 1103 + 12345) - (Int32.ofNat x * 1103 + 12345) / 1000003 * 1000003) = Int32.ofNat (dr x) := by
  have e1 : Int32.ofNat x * 1103 + 12345 = Int32.ofNat (x * 1103 + 12345) := by
    rw [show (1103 : Int32) = Int32.ofNat 1103 from rfl, show (12345 : Int32) = Int32.ofNat 12345 from rfl, ← Int32.ofNat_mul, ← Int32.ofNat_add]
  have hv : x * 1103 + 12345 < 2147483648 := by omega
  rw [e1]
  unfold dr
  generalize x * 1103 + 12345 = v at hv ⊢
  exact zi_modN (a := v) (b := 1000003) hv (by omega) (by omega)
set_option maxRecDepth 20000 in
theorem zn_has {K : Nat → Int32} (hv : zv K) {j : Nat} (hj : j < sf_ix (K 227)) : sp_has K (Int32.ofNat j) = true ∧ j < 6 := by
  obtain ⟨c, hc6, hc⟩ := zv_227 hv
  rw [hc, zi_ixn (by omega)] at hj
  refine ⟨?_, by omega⟩
  unfold sp_has
  rw [hc]
  simp only [Bool.and_eq_true, decide_eq_true_eq]
  exact ⟨zi_leL (a := 0) (by omega) (by omega), zi_ltL hj (by omega)⟩
noncomputable def mo_do (x : Nat) : DSp := fun K L =>
  if dr (dr (dr x)) % 4 = 0 then sp_buy 0 (K 192) (Int32.ofNat (dr (dr x) % 8)) K L
  else if dr (dr (dr x)) % 4 = 1 then sp_buy 1 (K 192) (Int32.ofNat (dr (dr x) % 8)) K L
  else if dr (dr (dr x)) % 4 = 2 then sp_ride (Int32.ofNat (dr x % sf_ix (K 227))) (Int32.ofNat (dr (dr x) % 8)) K L
  else sp_pass K L
def mo_gain (x : Nat) (r : Int32) : Nat := if dr (dr (dr x)) % 4 = 2 then (if 0 ≤ r then sf_ix r else 0) else 0
noncomputable def moF : Nat → (Nat → Int32) → lg_L → Nat → Nat → (Nat → Int32) × lg_L × Nat
  | 0, K, L, _, a => (K, L, a)
  | f + 1, K, L, x, a => if 999 ≤ K 194 then (K, L, a) else moF f (mo_do x K L).2.1 (mo_do x K L).2.2 (dr (dr (dr x))) (a + mo_gain x (mo_do x K L).1)
set_option maxRecDepth 20000 in
theorem dr_le (x : Nat) : dr x ≤ 1000002 := by
  unfold dr
  have := Nat.mod_lt (x * 1103 + 12345) (show 0 < 1000003 by decide)
  generalize (x * 1103 + 12345) % 1000003 = v at this ⊢
  omega
set_option maxRecDepth 20000 in
theorem DO_mo (x : Nat) : DO (mo_do x) := by
  intro K L hv
  unfold mo_do
  split
  · exact DO_buy 0 (K 192) _ K L hv
  · split
    · exact DO_buy 1 (K 192) _ K L hv
    · split
      · exact DO_ride _ _ K L hv
      · exact DO_pass K L hv
set_option maxRecDepth 20000 in
theorem ride_le {K : Nat → Int32} {L : lg_L} (hv : zv K) (x q : Int32) : (sp_ride x q K L).1 < 0 ∨ ∃ c, c ≤ 7 ∧ (sp_ride x q K L).1 = Int32.ofNat c := by
  unfold sp_ride
  split
  · split
    · cases hr : sp_ron K x q with
      | none => left; show (-3 : Int32) < 0; decide
      | some c =>
        obtain ⟨n, p, b, hn, hp, hb, rfl, e, rfl, hc, hle⟩ := sp_ron_T hv hr
        exact Or.inr ⟨c, sp_rd7 hp hb hc, rfl⟩
    · left; show (-2 : Int32) < 0; decide
  · left; show (-1 : Int32) < 0; decide
set_option maxRecDepth 20000 in
theorem mo_gain_le {K : Nat → Int32} {L : lg_L} (hv : zv K) (x : Nat) : mo_gain x (mo_do x K L).1 ≤ 7 := by
  unfold mo_gain
  by_cases h : dr (dr (dr x)) % 4 = 2
  · rw [if_pos h]
    have e : mo_do x K L = sp_ride (Int32.ofNat (dr x % sf_ix (K 227))) (Int32.ofNat (dr (dr x) % 8)) K L := by
      unfold mo_do; rw [if_neg (by omega), if_neg (by omega), if_pos h]
    rw [e]
    rcases ride_le (L := L) hv (Int32.ofNat (dr x % sf_ix (K 227))) (Int32.ofNat (dr (dr x) % 8)) with h1 | ⟨c, hc, h1⟩
    · rw [if_neg (fun h2 => absurd (Int32.lt_of_le_of_lt h2 h1) (by decide))]; omega
    · rw [h1]; split
      · rw [zi_ixn (by omega)]; exact hc
      · omega
  · rw [if_neg h]; omega
section
variable {t : List (Nat × Nat)} {I : Nat → Nat → Int32} {J : Nat → Nat → Int64} {D : Nat → Nat → Option Nat} {K K' : Nat → Int32} {L : lg_L}
set_option maxRecDepth 20000 in
theorem ze_drawAfter {x : Nat} (hx : x ≤ 1000002) : jx_Desk_drawAfter (Int32.ofNat x) = sf_ret (Int32.ofNat (dr x)) := by
  unfold jx_Desk_drawAfter; rw [drX hx]
set_option maxRecDepth 20000 in
theorem cx_drawMonths (hC : zr_cl t I D K) (hL : cx_lg 20 I L) {m : Nat} (hm : K 227 = Int32.ofNat m) (hm0 : 0 < m) (hm6 : m ≤ 6) {x n : Nat} (hx : x ≤ 1000002) (hn : n ≤ 60) : zp_wp (jx_Desk_drawMonths (some 1) (Int32.ofNat x) (Int32.ofNat n)) (fun r τ => r = Int32.ofNat (moF n K L x 0).2.2 ∧ ∃ I', τ = zp_Z t I' J D ∧ zf zk_dk I I' ∧ zr_cl t I' D (moF n K L x 0).1 ∧ cx_lg 20 I' (moF n K L x 0).2.1) (zp_Z t I J D) := by
  unfold jx_Desk_drawMonths
  refine zl_g (fun i (s : Nat × Nat) => (Int32.ofNat s.1, Int32.ofNat s.2, Int32.ofNat i)) 0 n (s0 := (0, x)) rfl (by omega) (by omega)
    (fun i s I' => ∃ Ki Li, zf zk_dk I I' ∧ zr_cl t I' D Ki ∧ cx_lg 20 I' Li ∧ moF n K L x 0 = moF (n - i) Ki Li s.2 s.1 ∧ s.2 ≤ 1000002 ∧ s.1 ≤ 7 * i ∧ Ki 227 = Int32.ofNat m) ⟨K, L, zf_refl _ _, hC, hL, rfl, hx, by omega, hm⟩ ?step ?fin
  case step =>
    rintro i ⟨a, y⟩ I' - hi ⟨Ki, Li, f1, c1, l1, e1, hy, ha, hk⟩
    have n1 : ¬ Int32.ofNat n ≤ Int32.ofNat i := zi_nle hi (by omega)
    have k194 : I' 3 3 = Ki 194 := c1.1.2.2.2.1
    have k227 : I' 2 1 = Int32.ofNat m := by
      have := c1.1.2.2.2.2.2.2.2.2.2.2.2.1
      rw [this]; exact hk
    have k192 : I' 3 2 = Ki 192 := c1.1.2.1
    have hs : n - i = (n - (i + 1)) + 1 := by omega
    refine ss_iF n1 ?_
    refine ss_pt rfl rfl ?_
    refine ss_pt rfl rfl ?_
    refine ss_gI rfl k194 ?_
    by_cases h9 : 999 ≤ Ki 194
    · refine ss_iT h9 ?_
      have e2 : moF n K L x 0 = (Ki, Li, a) := by
        rw [e1, hs]
        show (if _ then _ else _) = _
        rw [if_pos h9]
      refine ss_ret (Or.inr ⟨_, rfl, ss_ret ?_⟩)
      rw [e2]
      exact ⟨rfl, I', rfl, f1, c1, l1⟩
    · have hnz : ¬ Int32.ofNat m ≤ 0 := zi_nle (b := 0) hm0 (by omega)
      have hd1 := ze_drawAfter hy
      have hd2 := ze_drawAfter (dr_le y)
      have hd3 := ze_drawAfter (dr_le (dr y))
      have q1 := dr_le y
      have q2 := dr_le (dr y)
      have q3 := dr_le (dr (dr y))
      have hmod1 : Int32.ofNat (dr y) - Int32.ofNat (dr y) / Int32.ofNat m * Int32.ofNat m = Int32.ofNat (dr y % m) := zi_modN (by omega) (by omega) hm0
      have hmod2 : Int32.ofNat (dr (dr y)) - Int32.ofNat (dr (dr y)) / 8 * 8 = Int32.ofNat (dr (dr y) % 8) := zi_modN (b := 8) (by omega) (by omega) (by omega)
      have hmod3 : Int32.ofNat (dr (dr (dr y))) - Int32.ofNat (dr (dr (dr y))) / 4 * 4 = Int32.ofNat (dr (dr (dr y)) % 4) := zi_modN (b := 4) (by omega) (by omega) (by omega)
      have hmz : Int32.ofNat m ≠ 0 := zi_ne (b := 0) (by omega) (by omega) (by omega)
      have e2 : moF n K L x 0 = moF (n - (i + 1)) (mo_do y Ki Li).2.1 (mo_do y Ki Li).2.2 (dr (dr (dr y))) (a + mo_gain y (mo_do y Ki Li).1) := by
        rw [e1, hs]
        show (if _ then _ else _) = _
        rw [if_neg h9]
      have hDO := DO_mo y Ki Li c1.2.1
      have hgl := mo_gain_le (L := Li) c1.2.1 y
      refine ss_iF h9 ?_
      refine ss_pt rfl rfl ?_
      refine ss_gI rfl k227 ?_
      refine ss_iF hnz ?_
      refine ss_pure hd1 ?_
      refine ss_pt rfl rfl ?_
      refine ss_gI rfl k227 ?_
      refine ss_rmI hmz ?_
      rw [hmod1]
      refine ss_pure hd2 ?_
      rw [hmod2]
      refine ss_bret ?_
      refine ss_pure hd3 ?_
      rw [hmod3]
      have close : ∀ I2 r, r = (mo_do y Ki Li).1 → zf zk_dk I' I2 → zr_cl t I2 D (mo_do y Ki Li).2.1 → cx_lg 20 I2 (mo_do y Ki Li).2.2 → ∀ g, g = mo_gain y (mo_do y Ki Li).1 → (∃ (s' : Nat × Nat) (I3 : Nat → Nat → Int32), (Sum.inl (Int32.ofNat (a + g), Int32.ofNat (dr (dr (dr y))), Int32.ofNat i + 1) : (Int32 × Int32 × Int32) ⊕ Int32) = .inl (Int32.ofNat s'.1, Int32.ofNat s'.2, Int32.ofNat (i + 1)) ∧ zp_Z t I2 J D = zp_Z t I3 J D ∧ ∃ Ki Li, zf zk_dk I I3 ∧ zr_cl t I3 D Ki ∧ cx_lg 20 I3 Li ∧ moF n K L x 0 = moF (n - (i + 1)) Ki Li s'.2 s'.1 ∧ s'.2 ≤ 1000002 ∧ s'.1 ≤ 7 * (i + 1) ∧ Ki 227 = Int32.ofNat m) := by
        intro I2 r hr f2 c2 l2 g hg
        rw [hg]
        refine ⟨(a + mo_gain y (mo_do y Ki Li).1, dr (dr (dr y))), I2, by rw [zi_s], rfl, _, _, zf_trans f1 f2, c2, l2, e2, q3, ?_, ?_⟩
        · show a + _ ≤ _
          have : a ≤ 7 * i := ha
          omega
        · rw [hDO.2.2.2 227 (by omega)]; exact hk
      by_cases h0 : dr (dr (dr y)) % 4 = 0
      · have em : mo_do y Ki Li = sp_buy 0 (Ki 192) (Int32.ofNat (dr (dr y) % 8)) Ki Li := by unfold mo_do; rw [if_pos h0]
        have eg : mo_gain y (mo_do y Ki Li).1 = 0 := by unfold mo_gain; rw [if_neg (by omega)]
        rw [h0]
        refine ss_iT rfl ?_
        refine ss_pt rfl rfl ?_
        refine ss_pt rfl rfl ?_
        refine ss_gI rfl k192 ?_
        refine ss_rc rfl ?_
        refine zp_wp_call (DX_buy 0 (Ki 192) (Int32.ofNat (dr (dr y) % 8)) t I' J D Ki Li c1 l1) ?_
        rintro r τ ⟨hr, I2, rfl, f2, c2, l2⟩
        rw [← em] at hr c2 l2
        refine ss_bret ?_
        exact ss_ret (Or.inl (close I2 r hr f2 c2 l2 0 eg.symm))
      by_cases h1 : dr (dr (dr y)) % 4 = 1
      · have em : mo_do y Ki Li = sp_buy 1 (Ki 192) (Int32.ofNat (dr (dr y) % 8)) Ki Li := by unfold mo_do; rw [if_neg h0, if_pos h1]
        have eg : mo_gain y (mo_do y Ki Li).1 = 0 := by unfold mo_gain; rw [if_neg (by omega)]
        rw [h1]
        refine ss_iF (by decide) ?_
        refine ss_iT rfl ?_
        refine ss_pt rfl rfl ?_
        refine ss_pt rfl rfl ?_
        refine ss_gI rfl k192 ?_
        refine ss_rc rfl ?_
        refine zp_wp_call (DX_buy 1 (Ki 192) (Int32.ofNat (dr (dr y) % 8)) t I' J D Ki Li c1 l1) ?_
        rintro r τ ⟨hr, I2, rfl, f2, c2, l2⟩
        rw [← em] at hr c2 l2
        refine ss_bret ?_
        exact ss_ret (Or.inl (close I2 r hr f2 c2 l2 0 eg.symm))
      by_cases h2 : dr (dr (dr y)) % 4 = 2
      · have em : mo_do y Ki Li = sp_ride (Int32.ofNat (dr y % m)) (Int32.ofNat (dr (dr y) % 8)) Ki Li := by
          unfold mo_do; rw [if_neg h0, if_neg h1, if_pos h2, hk, zi_ixn (by omega)]
        rw [h2]
        refine ss_iF (by decide) ?_
        refine ss_iF (by decide) ?_
        refine ss_iT rfl ?_
        refine ss_rc rfl ?_
        refine zp_wp_call (DX_ride (Int32.ofNat (dr y % m)) (Int32.ofNat (dr (dr y) % 8)) t I' J D Ki Li c1 l1) ?_
        rintro r τ ⟨hr, I2, rfl, f2, c2, l2⟩
        rw [← em] at hr c2 l2
        have hmax := ze_max 0 r
        refine ss_pure hmax ?_
        refine ss_bret ?_
        refine ss_bret ?_
        have ev : (if 0 < r then r else 0) = Int32.ofNat (mo_gain y (mo_do y Ki Li).1) := by
          unfold mo_gain
          rw [if_pos h2, ← hr]
          have hr' := hr
          rw [em] at hr'
          rcases ride_le (L := Li) c1.2.1 (Int32.ofNat (dr y % m)) (Int32.ofNat (dr (dr y) % 8)) with g | ⟨c, hc, g⟩
          · rw [← hr'] at g
            rw [if_neg (by (simp only [Int32.le_iff_toInt_le, Int32.lt_iff_toInt_lt, ← Int32.toInt_inj, Int32.toInt_ofNat', Int32.reduceToInt, zi_ix, Int32.toInt_add, Int32.toInt_sub, Int32.toInt_mul, Int32.toInt_neg, zi_bm, zi_bms, zp_in] at *; omega)), if_neg (by (simp only [Int32.le_iff_toInt_le, Int32.lt_iff_toInt_lt, ← Int32.toInt_inj, Int32.toInt_ofNat', Int32.reduceToInt, zi_ix, Int32.toInt_add, Int32.toInt_sub, Int32.toInt_mul, Int32.toInt_neg, zi_bm, zi_bms, zp_in] at *; omega))]; rfl
          · rw [← hr'] at g
            subst g
            rw [if_pos (show (0 : Int32) ≤ Int32.ofNat c from zi_leL (a := 0) (b := c) (by omega) (by omega)), zi_ixn (by omega)]
            by_cases g0 : 0 < Int32.ofNat c
            · rw [if_pos g0]
            · rw [if_neg g0]
              have : c = 0 := by
                rcases Nat.eq_zero_or_pos c with g1 | g1
                · exact g1
                · exact absurd (zi_ltL (a := 0) g1 (by omega)) g0
              rw [this]; rfl
        rw [ev, zi_add]
        exact ss_ret (Or.inl (close I2 r hr f2 c2 l2 _ rfl))
      · have em : mo_do y Ki Li = sp_pass Ki Li := by unfold mo_do; rw [if_neg h0, if_neg h1, if_neg h2]
        have eg : mo_gain y (mo_do y Ki Li).1 = 0 := by unfold mo_gain; rw [if_neg h2]
        have h3 : dr (dr (dr y)) % 4 = 3 := by omega
        rw [h3]
        refine ss_iF (by decide) ?_
        refine ss_iF (by decide) ?_
        refine ss_iF (by decide) ?_
        refine ss_rc rfl ?_
        refine zp_wp_call (DX_pass t I' J D Ki Li c1 l1) ?_
        rintro r τ ⟨hr, I2, rfl, f2, c2, l2⟩
        rw [← em] at hr c2 l2
        refine ss_bret ?_
        exact ss_ret (Or.inl (close I2 r hr f2 c2 l2 0 eg.symm))
  case fin =>
    rintro ⟨a, y⟩ I' ⟨Ki, Li, f1, c1, l1, e1, hy, ha, hk⟩
    have n1 : Int32.ofNat n ≤ Int32.ofNat n := Int32.le_refl _
    have e2 : moF n K L x 0 = (Ki, Li, a) := by rw [e1, Nat.sub_self]; rfl
    refine ss_iT n1 ?_
    refine ss_ret ⟨_, rfl, ss_ret ?_⟩
    rw [e2]
    exact ⟨rfl, I', rfl, f1, c1, l1⟩
end
