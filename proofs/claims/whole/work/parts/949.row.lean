/-! row. -/
/-- after g groups of three bytes: the row, how many trains, how many not -/
def rwS (T : Nat → Int32) (K : Nat → Int32) : Nat → (Nat → Int32) × Nat × Nat
  | 0 => (K, 0, 0)
  | g + 1 => ((sp_add (rwS T K g).1 (T (3 * g)) (T (3 * g + 1)) (T (3 * g + 2))).2,
      if (sp_add (rwS T K g).1 (T (3 * g)) (T (3 * g + 1)) (T (3 * g + 2))).1 < 0 then (rwS T K g).2.1 else (rwS T K g).2.1 + 1,
      if (sp_add (rwS T K g).1 (T (3 * g)) (T (3 * g + 1)) (T (3 * g + 2))).1 < 0 then (rwS T K g).2.2 + 1 else (rwS T K g).2.2)
set_option maxRecDepth 20000 in
theorem rwS_le (T K : Nat → Int32) : ∀ g, (rwS T K g).2.1 ≤ g ∧ (rwS T K g).2.2 ≤ g
  | 0 => ⟨Nat.le_refl _, Nat.le_refl _⟩
  | g + 1 => by
    have := rwS_le T K g
    constructor
    · show (if _ then _ else _) ≤ g + 1
      split
      · exact Nat.le_succ_of_le this.1
      · exact Nat.succ_le_succ this.1
    · show (if _ then _ else _) ≤ g + 1
      split
      · exact Nat.succ_le_succ this.2
      · exact Nat.le_succ_of_le this.2
set_option maxRecDepth 20000 in
theorem nw_b1 : ∀ r, r < 256 → (sf_nw 2 (Int32.ofNat r) &&& 255 = Int32.ofNat r) ∧ (zs_in 0 (sf_nw 2 (Int32.ofNat r)) 1 = zs_in 0 (Int32.ofNat r) 1) ∧ (zs_in 0 (sf_nw 2 (Int32.ofNat r)) 23 = zs_in 0 (Int32.ofNat r) 23) ∧ (zs_in 0 (Int32.ofNat r) 23 = true → sf_nw 2 (Int32.ofNat r) = Int32.ofNat r) := by decide +kernel
set_option maxRecDepth 20000 in
theorem nw_b {x : Int32} (h : 0 ≤ x ∧ x ≤ 255) : (sf_nw 2 x &&& 255 = x) ∧ (zs_in 0 (sf_nw 2 x) 1 = zs_in 0 x 1) ∧ (zs_in 0 (sf_nw 2 x) 23 = zs_in 0 x 23) ∧ (zs_in 0 x 23 = true → sf_nw 2 x = x) := by
  obtain ⟨r, hr, rfl⟩ := zi_rng (n := 255) h.1 h.2 (by omega)
  exact nw_b1 r (by omega)
section
variable {t : List (Nat × Nat)} {I : Nat → Nat → Int32} {J : Nat → Nat → Int64} {D : Nat → Nat → Option Nat} {K : Nat → Int32} {L : lg_L}
set_option maxRecDepth 20000 in
theorem cx_tapeAt2 {n k : Nat} (h1 : I 95 1 = Int32.ofNat n) (hn : n ≤ 400) (hk : k < n) : jx_Tape_at (some 95) (Int32.ofNat k) (zp_Z t I J D) = some (I 96 k, zp_Z t I J D) := by
  apply zp_wp_eq
  unfold jx_Tape_at
  have n0 : ¬ Int32.ofNat k < 0 := zi_nlt (b := 0) (by omega) (by omega)
  have n1 : ¬ Int32.ofNat n ≤ Int32.ofNat k := zi_nle hk (by omega)
  have n2 : ¬ Int32.ofNat 400 ≤ Int32.ofNat k := zi_nle (by omega) (by omega)
  have l1 : k < 400 := by omega
  refine ss_iF n0 ?_
  refine ss_gI rfl h1 ?_
  refine ss_iF n1 ?_
  refine ss_iF n2 ?_
  refine ss_pt rfl rfl ?_
  refine ss_aI rfl rfl l1 (by decide) rfl ?_
  exact ss_ret ⟨rfl, rfl⟩
set_option maxRecDepth 20000 in
theorem sp_add_neg (hv : zv K) (a b c : Int32) : (sp_add K a b c).1 < 0 ↔ ¬ (zs_can a b c = true ∧ ¬ K 227 = 6) := by
  unfold sp_add
  have h0 := hv.2.2.2.2.2.2.2.2.1.1
  by_cases h1 : zs_can a b c = true
  · rw [if_pos h1]
    by_cases h2 : K 227 = 6
    · rw [if_pos h2]
      exact ⟨fun _ h => h.2 h2, fun _ => (by show (-5 : Int32) < 0; decide)⟩
    · rw [if_neg h2]
      refine ⟨fun h => ?_, fun h => absurd ⟨h1, h2⟩ h⟩
      exfalso
      have : K 227 < 0 := h
      (simp only [Int32.le_iff_toInt_le, Int32.lt_iff_toInt_lt, ← Int32.toInt_inj, Int32.toInt_ofNat', Int32.reduceToInt, zi_ix, Int32.toInt_add, Int32.toInt_sub, Int32.toInt_mul, Int32.toInt_neg, zi_bm, zi_bms, zp_in] at *; omega)
  · rw [if_neg h1]
    exact ⟨fun _ h => h1 h.1, fun _ => (by show (-1 : Int32) < 0; decide)⟩
set_option maxRecDepth 20000 in
theorem sp_add_K (hv : zv K) (a b c : Int32) (h : ¬ (zs_can a b c = true ∧ ¬ K 227 = 6)) : (sp_add K a b c).2 = K := by
  unfold sp_add
  split
  · next h1 =>
    split
    · rfl
    · next h2 => exact absurd ⟨h1, h2⟩ h
  · rfl
set_option maxRecDepth 20000 in
/-- the class's side -/
theorem cx_rowL (hC : zr_cl t I D K) {n : Nat} (h1 : I 95 1 = Int32.ofNat n) (hn : n ≤ 400) (hn0 : 0 < n) {S : Nat → Int32} (hS : I 96 = S) : zp_wp (jx_SF_row (some 0)) (fun r τ => r = Int32.ofNat (rwS S K (n / 3)).2.1 ∧ ∃ I', τ = zp_Z t I' J D ∧ zf zk_dx I I' ∧ zf (fun a k => a == 2 || a == 5 || a == 6 || a == 7 || a == 95 || a == 0) I I' ∧ zr_cl t I' D (rwS S K (n / 3)).1 ∧ I' 95 1 = 0 ∧ I' 0 11 = Int32.ofNat ((rwS S K (n / 3)).2.2 + (n + 2) / 3 - n / 3) ∧ I' 0 9 = I 0 9 ∧ I' 0 10 = I 0 10 ∧ I' 0 8 = I 0 8 ∧ an_at 0 12 108 I I' r) (zp_Z t I J D) := by
  have hz : ¬ Int32.ofNat n = 0 := zi_ne (b := 0) (by omega) (by omega) (by omega)
  unfold jx_SF_row
  refine ss_pt rfl rfl ?_
  refine ss_gI rfl h1 ?_
  refine ss_iF hz ?_
  refine zl_g (fun i (s : Nat × Nat) => (Int32.ofNat s.1, Int32.ofNat s.2, Int32.ofNat (3 * i))) 0 ((n + 2) / 3) (s0 := (0, 0)) rfl (by omega) (by omega)
    (fun i s I' => zf (fun x _ => x == 2 || x == 5 || x == 6 || x == 7) I I' ∧ zr_cl t I' D (rwS S K (min i (n / 3))).1 ∧ s.1 = (rwS S K (min i (n / 3))).2.1 ∧ s.2 = (rwS S K (min i (n / 3))).2.2 + (i - min i (n / 3))) ⟨zf_refl _ _, by rw [Nat.zero_min]; exact hC, by rw [Nat.zero_min]; rfl, by rw [Nat.zero_min]; rfl⟩ ?step ?fin
  case step =>
    rintro i ⟨a, b⟩ I' - hi ⟨f1, c1, ra, rb⟩
    have h1' : I' 95 1 = Int32.ofNat n := by rw [f1 95 1 rfl]; exact h1
    have n1 : ¬ Int32.ofNat n ≤ Int32.ofNat (3 * i) := zi_nle (by omega) (by omega)
    have e3 : Int32.ofNat (3 * i) + 3 = Int32.ofNat (3 * (i + 1)) := zi_add (3 * i) 3
    refine ss_pt rfl rfl ?_
    refine ss_gI rfl h1' ?_
    refine ss_iF n1 ?_
    refine ss_pt rfl rfl ?_
    refine ss_gI rfl h1' ?_
    have hle := rwS_le S K (min i (n / 3))
    by_cases hg : i < n / 3
    · have n2 : ¬ Int32.ofNat n < Int32.ofNat (3 * i) + 3 := by rw [e3]; exact zi_nlt (by omega) (by omega)
      have hmin : min i (n / 3) = i := by omega
      have hmin' : min (i + 1) (n / 3) = i + 1 := by omega
      rw [hmin] at c1 ra rb hle
      refine ss_biF n2 ?_
      refine ss_bret ?_
      refine ss_iF (by decide) ?_
      refine ss_pt rfl rfl ?_
      refine ss_pt rfl rfl ?_
      refine ss_pt rfl rfl ?_
      refine ss_rc rfl ?_
      refine ss_call (cx_tapeAt2 h1' hn (by omega)) ?_
      refine ss_pt rfl rfl ?_
      refine ss_rc rfl ?_
      refine ss_call (τ := zp_Z t I' J D) (v := I' 96 (3 * i + 1)) (by rw [show Int32.ofNat (3 * i) + 1 = Int32.ofNat (3 * i + 1) from zi_s _]; exact cx_tapeAt2 h1' hn (by omega)) ?_
      refine ss_pt rfl rfl ?_
      refine ss_rc rfl ?_
      refine ss_call (τ := zp_Z t I' J D) (v := I' 96 (3 * i + 2)) (by rw [show Int32.ofNat (3 * i) + 2 = Int32.ofNat (3 * i + 2) from zi_add _ 2]; exact cx_tapeAt2 h1' hn (by omega)) ?_
      refine ss_rc rfl ?_
      refine zp_wp_call (cx_addTrain c1 _ _ _) ?_
      rintro r τ ⟨rfl, I2, rfl, f2, c2⟩
      have e96 : I' 96 = S := by rw [← hS]; exact zf_row f1 (fun k => rfl)
      rw [e96] at c2 ⊢
      by_cases hneg : (sp_add (rwS S K i).1 (S (3 * i)) (S (3 * i + 1)) (S (3 * i + 2))).1 < 0
      · refine ss_iT hneg ?_
        refine ss_bret ?_
        refine ss_bret ?_
        refine ss_ret (Or.inl ⟨(a, b + 1), I2, ?_, rfl, zf_trans f1 f2, ?_, ?_, ?_⟩)
        · rw [e3, zi_s]
        · rw [hmin']; exact c2
        · rw [hmin']
          show a = if _ then _ else _
          rw [if_pos hneg]; exact ra
        · rw [hmin']
          show b + 1 = (if _ then _ else _) + _
          rw [if_pos hneg]
          have : b = (rwS S K i).2.2 + (i - i) := rb
          omega
      · refine ss_iF hneg ?_
        refine ss_bret ?_
        refine ss_bret ?_
        refine ss_ret (Or.inl ⟨(a + 1, b), I2, ?_, rfl, zf_trans f1 f2, ?_, ?_, ?_⟩)
        · rw [e3, zi_s]
        · rw [hmin']; exact c2
        · rw [hmin']
          show a + 1 = if _ then _ else _
          rw [if_neg hneg]
          have : a = (rwS S K i).2.1 := ra
          omega
        · rw [hmin']
          show b = (if _ then _ else _) + _
          rw [if_neg hneg]
          have : b = (rwS S K i).2.2 + (i - i) := rb
          omega
    · have n2 : Int32.ofNat n < Int32.ofNat (3 * i) + 3 := by rw [e3]; exact zi_ltL (by omega) (by omega)
      have hmin : min i (n / 3) = n / 3 := by omega
      have hmin' : min (i + 1) (n / 3) = n / 3 := by omega
      rw [hmin] at c1 ra rb
      refine ss_biT n2 ?_
      refine ss_bret ?_
      refine ss_iT rfl ?_
      refine ss_bret ?_
      refine ss_bret ?_
      refine ss_ret (Or.inl ⟨(a, b + 1), I', ?_, rfl, f1, ?_, ?_, ?_⟩)
      · rw [e3, zi_s]
      · rw [hmin']; exact c1
      · rw [hmin']; exact ra
      · rw [hmin']
        show b + 1 = _
        have : b = (rwS S K (n / 3)).2.2 + (i - n / 3) := rb
        omega
  case fin =>
    rintro ⟨a, b⟩ I' ⟨f1, c1, ra, rb⟩
    have h1' : I' 95 1 = Int32.ofNat n := by rw [f1 95 1 rfl]; exact h1
    have n1 : Int32.ofNat n ≤ Int32.ofNat (3 * ((n + 2) / 3)) := zi_leL (by omega) (by omega)
    have hmin : min ((n + 2) / 3) (n / 3) = n / 3 := by omega
    rw [hmin] at c1 ra rb
    have hle := rwS_le S K (n / 3)
    refine ss_pt rfl rfl ?_
    refine ss_gI rfl h1' ?_
    refine ss_iT n1 ?_
    refine ss_ret ⟨_, rfl, ?_⟩
    refine ss_pt rfl rfl ?_
    refine ss_pI rfl ?_
    refine ss_pI rfl ?_
    refine ss_rc rfl ?_
    refine ss_call (cx_accepted _) ?_
    have fm : zf (fun a k => a == 2 || a == 5 || a == 6 || a == 7 || a == 95 || a == 0) I (sf_u2 (sf_u2 (sf_u2 I' 95 1 0) 0 11 (Int32.ofNat b)) 0 12 0) := by
      refine zf_u2 (zf_u2 (zf_u2 (zf_mono f1 ?_) rfl) rfl) rfl
      intro a k e
      simp only [Bool.or_eq_true, beq_iff_eq] at e ⊢
      omega
    refine ss_ret ⟨by rw [show a = _ from ra], _, rfl, zf_u2 (zf_u2 (zf_u2 (zf_mono f1 ?_) rfl) rfl) rfl, fm, zr_cl_fr2 (fun x hx => by rw [zu_r (by omega), zu_r (by omega), zu_r (by omega)]) c1, ?_, ?_, ?_, ?_, ?_, an_l (I := sf_u2 (sf_u2 I' 95 1 0) 0 11 (Int32.ofNat b)) (fun k => ?_) (an_acc 0 12 108 (by decide) (zi_leL (a := 0) (b := a) (by omega) (by have : a = _ := ra; omega)))⟩
    · intro x k e
      simp only [Bool.or_eq_true, beq_iff_eq] at e
      have : 1 < x ∧ x < 11 := by omega
      simp [zk_dx, this]
    · rw [zu_a (by decide), zu_a (by decide), zu_eq]
    · rw [zu_k (by decide), zu_eq]
      have hb : b = (rwS S K (n / 3)).2.2 + ((n + 2) / 3 - n / 3) := rb
      have hb2 : b = (rwS S K (n / 3)).2.2 + (n + 2) / 3 - n / 3 := by rw [hb]; omega
      show Int32.ofNat b = _
      rw [hb2]
    · rw [zu_k (by decide), zu_k (by decide), zu_a (by decide)]; exact f1 0 9 rfl
    · rw [zu_k (by decide), zu_k (by decide), zu_a (by decide)]; exact f1 0 10 rfl
    · rw [zu_k (by decide), zu_k (by decide), zu_a (by decide)]; exact f1 0 8 rfl
    · rw [zu_a (by decide), zu_a (by decide)]; exact (f1 108 k rfl).symm
set_option maxRecDepth 20000 in
/-- the model's side -/
theorem mx_rowL (hK : I 114 = K) (hM : zr_ml K) {n : Nat} (h1 : I 112 13 = Int32.ofNat n) (hn : n ≤ 400) (hn0 : 0 < n) {S : Nat → Int32} (hS : ∀ k, k < 400 → I 119 k = sf_nw 2 (S k) ∧ 0 ≤ S k ∧ S k ≤ 255) : zp_wp (jx_Mo_row (some 112)) (fun r τ => r = Int32.ofNat (rwS S K (n / 3)).2.1 ∧ ∃ I', τ = zp_Z t I' J D ∧ zf (fun a k => a == 114 || (a == 112 && (k == 0 || k == 6 || k == 13))) I I' ∧ I' 114 = (rwS S K (n / 3)).1 ∧ I' 112 13 = 0 ∧ I' 112 6 = Int32.ofNat ((rwS S K (n / 3)).2.2 + (n + 2) / 3 - n / 3) ∧ an_at 112 0 113 I I' r) (zp_Z t I J D) := by
  have hz : ¬ Int32.ofNat n = 0 := zi_ne (b := 0) (by omega) (by omega) (by omega)
  have hmod : Int32.ofNat n - Int32.ofNat n / 3 * 3 = Int32.ofNat (n % 3) := by
    have : ∀ n, n < 401 → Int32.ofNat n - Int32.ofNat n / 3 * 3 = Int32.ofNat (n % 3) := by decide +kernel
    exact this n (by omega)
  have hv0 : ∀ g, zv (rwS S K g).1 → ∀ a b c, zv (sp_add (rwS S K g).1 a b c).2 := by
    intro g hv a b c
    unfold sp_add
    split
    · next hc =>
      split
      · exact hv
      · next h6 =>
        obtain ⟨m, hm6, e⟩ := zv_227 hv
        exact zv_kA hv e (by rcases Nat.lt_or_ge m 6 with h | h; exact h; exact absurd (by rw [e, show m = 6 by omega]; rfl) h6) hc
    · exact hv
  have hvg : ∀ g, zv (rwS S K g).1 := by
    intro g
    induction g with
    | zero => exact hM.1
    | succ g ih => exact hv0 g ih _ _ _
  unfold jx_Mo_row
  refine ss_gI rfl h1 ?_
  refine ss_pI rfl ?_
  refine ss_iF hz ?_
  refine zp_wp_call (P := fun v τ => v = Int32.ofNat ((n + 2) / 3 - n / 3) ∧ τ = zp_Z t (sf_u2 I 112 13 0) J D) ?_ ?_
  · rw [hmod]
    by_cases h3 : n % 3 = 0
    · exact ss_iT (by rw [h3]; rfl) (ss_ret ⟨by rw [show (n + 2) / 3 - n / 3 = 0 by omega]; rfl, rfl⟩)
    · exact ss_iF (zi_ne (b := 0) h3 (by omega) (by omega)) (ss_ret ⟨by rw [show (n + 2) / 3 - n / 3 = 1 by omega]; rfl, rfl⟩)
  rintro v τ ⟨rfl, rfl⟩
  refine ss_pI rfl ?_
  refine zl_g (fun i (s : Nat) => (Int32.ofNat s, Int32.ofNat (3 * i))) 0 (n / 3) (s0 := 0) rfl (by omega) (by omega)
    (fun i s I' => zf (fun a k => a == 114 || (a == 112 && (k == 6 || k == 13))) I I' ∧ I' 114 = (rwS S K i).1 ∧ s = (rwS S K i).2.1 ∧ I' 112 13 = 0 ∧ I' 112 6 = Int32.ofNat ((n + 2) / 3 - n / 3 + (rwS S K i).2.2)) ⟨zf_u2 (zf_u2 (zf_refl _ _) rfl) rfl, by rw [zu_r (by decide), zu_r (by decide)]; exact hK, rfl, by rw [zu_k (by decide), zu_eq], by rw [zu_eq]; rfl⟩ ?step ?fin
  case step =>
    rintro i s I' - hi ⟨f1, k1, rfl, r13, r6⟩
    have e3 : Int32.ofNat (3 * i) + 3 = Int32.ofNat (3 * (i + 1)) := zi_add (3 * i) 3
    have e1 : Int32.ofNat (3 * i) + 1 = Int32.ofNat (3 * i + 1) := zi_s _
    have e2 : Int32.ofNat (3 * i) + 2 = Int32.ofNat (3 * i + 2) := zi_add _ 2
    have n1 : ¬ Int32.ofNat n < Int32.ofNat (3 * i) + 3 := by rw [e3]; exact zi_nlt (by omega) (by omega)
    have l0 : 3 * i < 400 := by omega
    have l1 : 3 * i + 1 < 400 := by omega
    have l2 : 3 * i + 2 < 400 := by omega
    have b0 : I' 119 (3 * i) = sf_nw 2 (S (3 * i)) := by rw [f1 119 _ rfl]; exact (hS _ l0).1
    have b1 : I' 119 (3 * i + 1) = sf_nw 2 (S (3 * i + 1)) := by rw [f1 119 _ rfl]; exact (hS _ l1).1
    have b2 : I' 119 (3 * i + 2) = sf_nw 2 (S (3 * i + 2)) := by rw [f1 119 _ rfl]; exact (hS _ l2).1
    have w0 := (nw_b (hS _ l0).2).1
    obtain ⟨-, w1, w1', w1''⟩ := nw_b (hS _ l1).2
    obtain ⟨-, -, w2, w2'⟩ := nw_b (hS _ l2).2
    have hv := hvg i
    obtain ⟨m, hm6, em⟩ := zv_227 hv
    have k227 : I' 114 227 = Int32.ofNat m := by rw [k1]; exact em
    have hcan : zs_can (S (3 * i)) (sf_nw 2 (S (3 * i + 1))) (sf_nw 2 (S (3 * i + 2))) = zs_can (S (3 * i)) (S (3 * i + 1)) (S (3 * i + 2)) := by unfold zs_can; rw [w1, w2]
    have hct := ze_canTrain (S (3 * i)) (sf_nw 2 (S (3 * i + 1))) (sf_nw 2 (S (3 * i + 2)))
    rw [hcan] at hct
    refine ss_iF n1 ?_
    refine ss_pt rfl rfl ?_
    refine ss_aI rfl rfl l0 (by decide) b0 ?_
    rw [w0]
    refine ss_bret ?_
    refine ss_pt rfl rfl ?_
    refine ss_aI rfl rfl (by decide) (by decide) k227 ?_
    refine zp_wp_call (P := fun v τ => τ = zp_Z t I' J D ∧ v = zb (decide (¬ (rwS S K i).1 227 = 6) && zs_can (S (3 * i)) (S (3 * i + 1)) (S (3 * i + 2)))) ?_ ?_
    · refine ss_or ?_
      by_cases h6 : m = 6
      · subst h6
        have c6 : (6 : Int32) ≤ Int32.ofNat 6 := by decide
        refine ss_biT c6 ?_
        refine ss_bret ?_
        refine ss_cr ?_
        refine ss_ret ⟨rfl, ?_⟩
        rw [em, decide_eq_false (fun h => h rfl)]; rfl
      · have c6 : ¬ (6 : Int32) ≤ Int32.ofNat m := zi_nle (a := 6) (by omega) (by omega)
        have c6' : ¬ (rwS S K i).1 227 = 6 := by rw [em]; exact zi_ne (b := 6) h6 (by omega) (by omega)
        rw [decide_eq_true c6', Bool.true_and]
        refine ss_biF c6 ?_
        refine ss_as ?_
        refine ss_pt rfl rfl ?_
        refine ss_as ?_
        refine ss_aI rfl e1 l1 (by decide) b1 ?_
        refine ss_as ?_
        refine ss_pt rfl rfl ?_
        refine ss_as ?_
        refine ss_aI rfl e2 l2 (by decide) b2 ?_
        refine ss_as ?_
        refine ss_pure hct ?_
        cases hx : zs_can (S (3 * i)) (S (3 * i + 1)) (S (3 * i + 2)) with
        | false =>
          refine ss_biT rfl ?_
          refine ss_bret ?_
          refine ss_cr ?_
          exact ss_ret ⟨rfl, rfl⟩
        | true =>
          refine ss_biF (by decide) ?_
          refine ss_bret ?_
          refine ss_cl ?_
          exact ⟨rfl, rfl⟩
    rintro v τ ⟨rfl, rfl⟩
    have hneg := sp_add_neg hv (S (3 * i)) (S (3 * i + 1)) (S (3 * i + 2))
    have hle := rwS_le S K i
    by_cases hg : zs_can (S (3 * i)) (S (3 * i + 1)) (S (3 * i + 2)) = true ∧ ¬ (rwS S K i).1 227 = 6
    · have hn' : ¬ (sp_add (rwS S K i).1 (S (3 * i)) (S (3 * i + 1)) (S (3 * i + 2))).1 < 0 := fun h => hneg.mp h hg
      have hm : m < 6 := by
        rcases Nat.lt_or_ge m 6 with h | h
        · exact h
        · exact absurd (by rw [em, show m = 6 by omega]; rfl) hg.2
      have hK' : (sp_add (rwS S K i).1 (S (3 * i)) (S (3 * i + 1)) (S (3 * i + 2))).2 = kA (rwS S K i).1 (S (3 * i)) (S (3 * i + 1)) (S (3 * i + 2)) := by
        unfold sp_add; rw [if_pos hg.1, if_neg hg.2]
      have hc23 : zs_in 0 (S (3 * i + 2)) 23 = true := by
        have := hg.1; unfold zs_can at this; simp only [Bool.and_eq_true] at this; exact this.2.2.2
      have hb1 : sf_nw 2 (S (3 * i + 1)) = S (3 * i + 1) := by
        have := hg.1; unfold zs_can at this; simp only [Bool.and_eq_true] at this
        refine w1'' (zs_inT.mpr ?_)
        have := zs_inT.mp this.2.2.1
        constructor <;> (simp only [Int32.le_iff_toInt_le, Int32.lt_iff_toInt_lt, ← Int32.toInt_inj, Int32.toInt_ofNat', Int32.reduceToInt, zi_ix, Int32.toInt_add, Int32.toInt_sub, Int32.toInt_mul, Int32.toInt_neg, zi_bm, zi_bms, zp_in] at *; omega)
      rw [decide_eq_true hg.2, hg.1]
      refine zp_wp_call (P := fun _ τ => ∃ I2, τ = zp_Z t I2 J D ∧ zf (fun x _ => x == 114) I' I2 ∧ I2 114 = kA (rwS S K i).1 (S (3 * i)) (S (3 * i + 1)) (S (3 * i + 2))) ?_ ?_
      · refine ss_iF (by decide) ?_
        refine ss_pt rfl rfl ?_
        refine ss_aI rfl e1 l1 (by decide) (b1.trans hb1) ?_
        refine ss_pt rfl rfl ?_
        refine ss_aI rfl e2 l2 (by decide) (b2.trans (w2' hc23)) ?_
        refine ss_rc rfl ?_
        refine zp_wp_call (mx_adds k1 _ _ _ em hm) ?_
        rintro _ τ ⟨I2, rfl, f2, q2⟩
        exact ss_ret ⟨I2, rfl, f2, q2⟩
      rintro _ τ ⟨I2, rfl, f2, q2⟩
      refine ss_biF (by decide) ?_
      refine ss_bret ?_
      refine ss_bret ?_
      have r6' : I2 112 6 = Int32.ofNat ((n + 2) / 3 - n / 3 + (rwS S K i).2.2) := by rw [f2 112 6 rfl]; exact r6
      refine ss_gI rfl r6' ?_
      refine ss_biF (by decide) ?_
      refine ss_bret ?_
      refine ss_pI rfl ?_
      refine ss_bret ?_
      refine ss_ret (Or.inl ⟨(rwS S K i).2.1 + 1, _, ?_, rfl, zf_u2 (zf_trans f1 (zf_mono f2 (fun x k e => by simp only [beq_iff_eq] at e; simp [e]))) rfl, ?_, ?_, ?_, ?_⟩)
      · rw [e3, zi_s]
      · rw [zu_r (by decide), q2]
        exact hK'.symm
      · show _ = if _ then _ else _
        rw [if_neg hn']
      · rw [zu_k (by decide), f2 112 13 rfl]; exact r13
      · rw [zu_eq]
        show _ = Int32.ofNat (_ + if _ then _ else _)
        rw [if_neg hn']
        exact Int32.add_zero _
    · have hn' : (sp_add (rwS S K i).1 (S (3 * i)) (S (3 * i + 1)) (S (3 * i + 2))).1 < 0 := hneg.mpr hg
      have hK' := sp_add_K hv _ _ _ hg
      have hbf : (decide (¬ (rwS S K i).1 227 = 6) && zs_can (S (3 * i)) (S (3 * i + 1)) (S (3 * i + 2))) = false := by
        rw [Bool.and_eq_false_iff]
        by_cases hc : zs_can (S (3 * i)) (S (3 * i + 1)) (S (3 * i + 2)) = true
        · left
          exact decide_eq_false (fun h => hg ⟨hc, h⟩)
        · right; simpa using hc
      rw [hbf]
      refine zp_wp_call (P := fun _ τ => τ = zp_Z t I' J D) ?_ ?_
      · exact ss_iT rfl (ss_ret rfl)
      rintro _ τ rfl
      refine ss_biT rfl ?_
      refine ss_bret ?_
      refine ss_bret ?_
      refine ss_gI rfl r6 ?_
      refine ss_biT rfl ?_
      refine ss_bret ?_
      refine ss_pI rfl ?_
      refine ss_bret ?_
      refine ss_ret (Or.inl ⟨(rwS S K i).2.1, _, ?_, rfl, zf_u2 f1 rfl, ?_, ?_, ?_, ?_⟩)
      · rw [e3]
        show Sum.inl (Int32.ofNat _ + 0, _) = _
        rw [Int32.add_zero]
      · rw [zu_r (by decide), k1]
        exact hK'.symm
      · show _ = if _ then _ else _
        rw [if_pos hn']
      · rw [zu_k (by decide)]; exact r13
      · rw [zu_eq]
        show _ = Int32.ofNat (_ + if _ then _ else _)
        rw [if_pos hn', zi_s]
        rfl
  case fin =>
    rintro s I' ⟨f1, k1, rfl, r13, r6⟩
    have e3 : Int32.ofNat (3 * (n / 3)) + 3 = Int32.ofNat (3 * (n / 3 + 1)) := zi_add (3 * (n / 3)) 3
    have n1 : Int32.ofNat n < Int32.ofNat (3 * (n / 3)) + 3 := by rw [e3]; exact zi_ltL (by omega) (by omega)
    have hle := rwS_le S K (n / 3)
    refine ss_iT n1 ?_
    refine ss_ret ⟨_, rfl, ?_⟩
    refine ss_rc rfl ?_
    refine ss_call (mx_good _) ?_
    refine ss_ret ⟨rfl, _, rfl, zf_u2 (zf_mono f1 ?_) rfl, ?_, ?_, ?_, an_l (fun k => (f1 113 k rfl).symm) (an_acc 112 0 113 (by decide) (zi_leL (a := 0) (by omega) (by omega)))⟩
    · intro a k e
      simp only [Bool.or_eq_true, Bool.and_eq_true, beq_iff_eq] at e ⊢
      omega
    · rw [zu_r (by decide)]; exact k1
    · rw [zu_k (by decide)]; exact r13
    · rw [zu_k (by decide), r6]
      rw [show (n + 2) / 3 - n / 3 + (rwS S K (n / 3)).2.2 = (rwS S K (n / 3)).2.2 + (n + 2) / 3 - n / 3 by omega]
set_option maxRecDepth 20000 in
theorem rwS_zv (T : Nat → Int32) (hM : zv K) : ∀ g, zv (rwS T K g).1
  | 0 => hM
  | g + 1 => by
    show zv (sp_add (rwS T K g).1 _ _ _).2
    unfold sp_add
    split
    · next hc =>
      split
      · exact rwS_zv T hM g
      · next h6 =>
        obtain ⟨m, hm6, e⟩ := zv_227 (rwS_zv T hM g)
        exact zv_kA (rwS_zv T hM g) e (by rcases Nat.lt_or_ge m 6 with h | h; exact h; exact absurd (by rw [e, show m = 6 by omega]; rfl) h6) hc
    · exact rwS_zv T hM g
set_option maxRecDepth 20000 in
/-- case 8 -/
theorem CL_row : CL (jx_SF_row (some 0)) (jx_Mo_row (some 112)) := by
  intro t I J D h
  have hI := h
  obtain ⟨L, l1, l2, l3⟩ := h.2.2.1
  obtain ⟨⟨n, hn, n1, n2⟩, hb⟩ := h.2.2.2.1
  obtain ⟨g1, g2, g3, g4, g5, g6, g7⟩ := h.ms
  by_cases hz : n = 0
  · subst hz
    unfold jx_SF_row jx_Mo_row
    refine ss_pt rfl rfl ?_
    refine ss_gI rfl n1 ?_
    refine ss_iT rfl ?_
    refine ss_rc rfl ?_
    refine ss_call (cx_refused (j := 6) (by decide) (by decide)) ?_
    refine ss_ret ?_
    generalize hI1 : sf_u2 (sf_u2 I 0 12 (-Int32.ofNat 6)) 108 6 (I 108 6 + 1) = I1
    have f1 : zf zk_st I I1 := by subst hI1; exact zf_u2 (zf_u2 (zf_refl _ _) rfl) rfl
    have a1 : an_at 0 12 108 I I1 (-Int32.ofNat 6) := by subst hI1; exact an_ref 0 12 108 (by decide) (by decide) (by decide)
    have n2' : I1 112 13 = Int32.ofNat 0 := by rw [f1 112 13 rfl]; exact n2
    refine ss_gI rfl n2' ?_
    refine ss_pI rfl ?_
    refine ss_iT rfl ?_
    refine ss_rc rfl ?_
    refine ss_call (mx_refuses (j := 6) (by decide) (by decide)) ?_
    refine ss_ret ?_
    refine CL.fin ?_ rfl
    refine INV_mk (I1 := I1) (r := -Int32.ofNat 6) hI (zf_mono (zf_mono f1 zk_st_ex) zk_ex_dx) (zr_cl_st h.1 f1) (cx_lg_st l1 f1) a1 (zf_u2 (zf_u2 (zf_u2 (zf_refl _ _) rfl) rfl) rfl) ?_ ?_ ?_ l3 (ar_neg 6 (by decide) (by decide)) ⟨0, by decide, ?_, ?_⟩ ?_ ?_ ?_
    · rw [zu_r (by decide), zu_r (by decide), zu_r (by decide)]; exact zf_row f1 (fun k => rfl)
    · exact mx_lg_fr (by rw [zu_a (by decide), zu_k (by decide), zu_k (by decide)]; exact f1 112 40 rfl) (by rw [zu_r (by decide), zu_r (by decide), zu_r (by decide)]; exact zf_row f1 (fun k => rfl)) l2
    · exact an_l (I := sf_u2 I1 112 13 0) (fun k => (zu_a (by decide)).symm) (an_ref 112 0 113 (by decide) (by decide) (by decide))
    · rw [f1 95 1 rfl]; exact n1
    · rw [zu_a (by decide), zu_k (by decide), zu_eq]; rfl
    · rw [zu_a (by decide), zu_k (by decide), zu_k (by decide), f1 0 9 rfl, f1 112 14 rfl]; exact g3
    · rw [zu_a (by decide), zu_k (by decide), zu_k (by decide), f1 0 10 rfl, f1 112 43 rfl]; exact g4
    · rw [zu_a (by decide), zu_k (by decide), zu_k (by decide), f1 0 11 rfl, f1 112 6 rfl]; exact g5
  · refine zp_wp_mono (cx_rowL h.1 n1 hn (by omega) rfl) ?_
    rintro r τ ⟨rfl, I1, rfl, f1, f1', c1, r1, r11, r9, r10, r8, a1⟩
    have e114 : I1 114 = I 114 := zf_row f1 (fun k => rfl)
    refine zp_wp_mono (mx_rowL (S := I 96) e114 (zr_cl_ml h.1) (by rw [f1 112 13 rfl]; exact n2) hn (by omega) (fun k hk => ?_)) ?_
    · rw [f1 119 k rfl]; exact hb k hk
    rintro r τ ⟨rfl, I2, rfl, f2, q2, q13, q6, a2⟩
    refine CL.fin ?_ rfl
    have f2' : zf zk_dm I1 I2 := zf_mono f2 (fun a k e => by
      simp only [Bool.or_eq_true, Bool.and_eq_true, beq_iff_eq] at e
      rcases e with e | ⟨e, e' | e'⟩
      · simp [zk_dm, e]
      · rcases e' with e' | e' <;> simp [zk_dm, e, e']
      · simp [zk_dm, e, e'])
    have hle := rwS_le (I 96) (I 114) (n / 3)
    refine INV_mk (I1 := I1) hI f1 c1 ?_ a1 f2' q2 ?_ a2 l3 (Or.inl (zi_leL (a := 0) (by omega) (by omega))) ⟨0, by decide, r1, q13⟩ ?_ ?_ ?_
    · exact cx_lg_fr (fun k hk => f1' 20 k rfl) (fun x h1 h2 => zf_row f1' (fun k => by simp; omega)) l1
    · exact mx_lg_fr (by rw [f2 112 40 rfl, f1 112 40 rfl]) (by rw [zf_row f2 (fun k => rfl), zf_row f1 (fun k => rfl)]) l2
    · rw [r9, f2 112 14 rfl, f1 112 14 rfl]; exact g3
    · rw [r10, f2 112 43 rfl, f1 112 43 rfl]; exact g4
    · rw [r11, q6]
end
