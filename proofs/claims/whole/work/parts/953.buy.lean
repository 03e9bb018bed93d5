/-! buy. -/
/-- the cell of a ticket -/
def tkx (s p q : Int32) : Nat := 64 * sf_ix s + (8 * sf_ix p + sf_ix q)
def kB (K : Nat → Int32) (s p q : Int32) : Nat → Int32 := kS (kS K 193 (K 193 - sp_cost K (K 230) s p q)) (tkx s p q) (K (tkx s p q) + 1)
def sp_buy (s p q : Int32) : DSp := fun K L => if zs_bought s p q = true then (if sp_cost K (K 230) s p q ≤ K 193 ∧ K (tkx s p q) < 9 then (K 193 - sp_cost K (K 230) s p q, kB K s p q, lg_push L (0, K)) else (-3, K, L)) else (-1, K, L)
section
variable {t : List (Nat × Nat)} {I : Nat → Nat → Int32} {J : Nat → Nat → Int64} {D : Nat → Nat → Option Nat} {K K' : Nat → Int32} {L : lg_L}
set_option maxRecDepth 20000 in
theorem tkxN {s a b : Nat} (hs : s < 3) (ha : a < 8) (hb : b < 8) : tkx (Int32.ofNat s) (Int32.ofNat a) (Int32.ofNat b) = 64 * s + (8 * a + b) := by
  unfold tkx; rw [zi_ixn (by omega), zi_ixn (by omega), zi_ixn (by omega)]
set_option maxRecDepth 20000 in
theorem kB_hi {s a b : Nat} (hs : s < 3) (ha : a < 8) (hb : b < 8) {i : Nat} (hi : 194 ≤ i) : kB K (Int32.ofNat s) (Int32.ofNat a) (Int32.ofNat b) i = K i := by
  unfold kB; rw [tkxN hs ha hb, kS_n (by omega), kS_n (by omega)]
set_option maxRecDepth 20000 in
theorem pk_kB (h : pk_ok K) {s a b : Nat} (hs : s < 2) (ha : a < 8) (hb : b < 8) (h1 : sp_cost K (K 230) (Int32.ofNat s) (Int32.ofNat a) (Int32.ofNat b) ≤ K 193) (h2 : K (tkx (Int32.ofNat s) (Int32.ofNat a) (Int32.ofNat b)) < 9) : (0 ≤ K 193 - sp_cost K (K 230) (Int32.ofNat s) (Int32.ofNat a) (Int32.ofNat b) ∧ K 193 - sp_cost K (K 230) (Int32.ofNat s) (Int32.ofNat a) (Int32.ofNat b) ≤ 99999) ∧ pk_ok (kB K (Int32.ofNat s) (Int32.ofNat a) (Int32.ofNat b)) := by
  obtain ⟨c, hc, e⟩ := sp_cost_rng K (K 230) hs ha hb
  obtain ⟨m, hm, em⟩ := zi_rng (n := 99999) h.2.2.1.1 h.2.2.1.2 (by omega)
  have hcm : c ≤ m := by
    rw [e, em, zi_le (by omega) (by omega)] at h1; exact h1
  have hsub : K 193 - sp_cost K (K 230) (Int32.ofNat s) (Int32.ofNat a) (Int32.ofNat b) = Int32.ofNat (m - c) := by rw [e, em]; exact zi_sub hcm
  have hr : 0 ≤ K 193 - sp_cost K (K 230) (Int32.ofNat s) (Int32.ofNat a) (Int32.ofNat b) ∧ K 193 - sp_cost K (K 230) (Int32.ofNat s) (Int32.ofNat a) (Int32.ofNat b) ≤ 99999 := by
    rw [hsub]; exact ⟨zi_leL (a := 0) (by omega) (by omega), zi_leL (b := 99999) (by omega) (by omega)⟩
  refine ⟨hr, ?_⟩
  have hx := tkxN (s := s) (by omega) ha hb
  have h9 := h.1 (64 * s + (8 * a + b)) (by omega)
  rw [hx] at h2
  unfold kB
  rw [hx]
  refine ⟨fun i hi => ?_, ?_, ?_, ?_⟩
  · by_cases ei : i = 64 * s + (8 * a + b)
    · subst ei; rw [kS_e]; constructor <;> (simp only [Int32.le_iff_toInt_le, Int32.lt_iff_toInt_lt, ← Int32.toInt_inj, Int32.toInt_ofNat', Int32.reduceToInt, zi_ix, Int32.toInt_add, Int32.toInt_sub, Int32.toInt_mul, Int32.toInt_neg, zi_bm, zi_bms, zp_in] at *; omega)
    · rw [kS_n ei, kS_n (by omega)]; exact h.1 i hi
  · rw [kS_n (by omega), kS_n (by omega)]; exact h.2.1
  · rw [kS_n (by omega), kS_e]; exact hr
  · rw [kS_n (by omega), kS_n (by omega)]; exact h.2.2.2
set_option maxRecDepth 20000 in
theorem DO_buy (s p q : Int32) : DO (sp_buy s p q) := by
  intro K L hv
  unfold sp_buy
  split
  · next hb =>
    obtain ⟨m, a, b, hm, ha, hb8, hne, rfl, rfl, rfl⟩ := zs_bought_T hb
    split
    · next h =>
      obtain ⟨hr, hp⟩ := pk_kB (pk_ok_of hv) hm ha hb8 h.1 h.2
      exact ⟨Or.inl hr.1, fun hl => lg_push_ok hl ⟨⟨0, by decide, rfl⟩, pk_ok_of hv⟩, zv_pk hv hp (fun i hi => kB_hi (by omega) ha hb8 (by omega)), fun i hi => kB_hi (by omega) ha hb8 (by omega)⟩
    · exact ⟨ar_neg 3 (by decide) (by decide), fun hl => hl, hv, fun i hi => rfl⟩
  · exact ⟨ar_neg 1 (by decide) (by decide), fun hl => hl, hv, fun i hi => rfl⟩
set_option maxRecDepth 20000 in
/-- one ticket more, or one fewer -/
theorem cx_change {s a b : Nat} (hs : s < 3) (ha : a < 8) (hb : b < 8) {d x y : Int32} (hx : I 4 (64 * s + (8 * a + b)) = x) (hy : (if (if x + d < 9 then x + d else 9) < 0 then (0 : Int32) else (if x + d < 9 then x + d else 9)) = y) : jx_Pocket_change (some 3) (Int32.ofNat s) (Int32.ofNat a) (Int32.ofNat b) d (zp_Z t I J D) = some ((), zp_Z t (sf_u2 I 4 (64 * s + (8 * a + b)) y) J D) := by
  have hix := (i_tk s hs a ha b hb).1
  have hlt : 64 * s + (8 * a + b) < 192 := by omega
  have h1 : ¬ Int32.ofNat (64 * s + (8 * a + b)) < 0 := zi_nlt (b := 0) (by omega) (by omega)
  have h2 : ¬ Int32.ofNat 192 ≤ Int32.ofNat (64 * s + (8 * a + b)) := zi_nle (by omega) (by omega)
  have hm := ze_min 9 (x + d)
  have hM := ze_max 0 (if x + d < 9 then x + d else 9)
  have hy' : (if 0 < (if x + d < 9 then x + d else 9) then (if x + d < 9 then x + d else 9) else (0 : Int32)) = y := by
    rw [← hy]
    generalize (if x + d < 9 then x + d else 9) = z
    by_cases c1 : 0 < z
    · rw [if_pos c1, if_neg (by (simp only [Int32.le_iff_toInt_le, Int32.lt_iff_toInt_lt, ← Int32.toInt_inj, Int32.toInt_ofNat', Int32.reduceToInt, zi_ix, Int32.toInt_add, Int32.toInt_sub, Int32.toInt_mul, Int32.toInt_neg, zi_bm, zi_bms, zp_in] at *; omega))]
    · rw [if_neg c1]
      by_cases c2 : z < 0
      · rw [if_pos c2]
      · rw [if_neg c2]; (simp only [Int32.le_iff_toInt_le, Int32.lt_iff_toInt_lt, ← Int32.toInt_inj, Int32.toInt_ofNat', Int32.reduceToInt, zi_ix, Int32.toInt_add, Int32.toInt_sub, Int32.toInt_mul, Int32.toInt_neg, zi_bm, zi_bms, zp_in] at *; omega)
  apply zp_wp_eq
  unfold jx_Pocket_change
  refine ss_bret ?_
  rw [hix]
  refine ss_iF h1 ?_
  refine ss_pt rfl rfl ?_
  refine ss_len rfl (by decide) ?_
  refine ss_iF h2 ?_
  refine ss_pt rfl rfl ?_
  refine ss_pt rfl rfl ?_
  refine ss_aI rfl rfl hlt (by decide) hx ?_
  refine ss_pure hm ?_
  refine ss_pure hM ?_
  rw [hy']
  refine ss_sI rfl rfl hlt (by decide) ?_
  exact ss_ret ⟨rfl, rfl⟩
set_option maxRecDepth 20000 in
theorem DX_buy (s p q : Int32) : DX (jx_Desk_buyTicket (some 1) s p q) (sp_buy s p q) := by
  intro t I J D K L hC hL
  have hb := ze_isBought s p q
  unfold jx_Desk_buyTicket
  refine ss_pure hb ?_
  cases hx : zs_bought s p q with
  | false =>
    have eS : sp_buy s p q K L = (-1, K, L) := if_neg (by rw [hx]; decide)
    rw [eS]
    exact ss_iT rfl (ss_ret ⟨rfl, I, rfl, zf_refl _ _, hC, hL⟩)
  | true =>
    obtain ⟨m, a, b, hm, ha, hb8, hne, rfl, rfl, rfl⟩ := zs_bought_T hx
    have hk := tkxN (s := m) (by omega) ha hb8
    refine ss_iF (by decide) ?_
    refine ss_pt rfl rfl ?_
    refine ss_pt rfl rfl ?_
    refine ss_pt rfl rfl ?_
    refine ss_rc rfl ?_
    refine zp_wp_call (cx_costOf hC ha hb8 hm) ?_
    rintro c τ ⟨hc, I1, rfl, f1⟩
    have hC1 : zr_cl t I1 D K := zr_cl_fr2 (fun x hx => zf_row f1 (fun k => by simp [zk_x1]; omega)) hC
    have hL1 : cx_lg 20 I1 L := cx_lg_fr (fun k _ => f1 20 k rfl) (fun x h1 h2 => zf_row f1 (fun k => by simp [zk_x1]; omega)) hL
    have k193 : I1 3 1 = K 193 := hC1.1.2.2.1
    refine ss_gI rfl k193 ?_
    have e1 : ∀ P : Prop, ∀ _ : Decidable P, ∀ _ : P ↔ (sp_cost K (K 230) (Int32.ofNat m) (Int32.ofNat a) (Int32.ofNat b) ≤ K 193 ∧ K (tkx (Int32.ofNat m) (Int32.ofNat a) (Int32.ofNat b)) < 9), sp_buy (Int32.ofNat m) (Int32.ofNat a) (Int32.ofNat b) K L = if P then (K 193 - sp_cost K (K 230) (Int32.ofNat m) (Int32.ofNat a) (Int32.ofNat b), kB K (Int32.ofNat m) (Int32.ofNat a) (Int32.ofNat b), lg_push L (0, K)) else (-3, K, L) := by
      intro P hd hP
      unfold sp_buy
      rw [if_pos hx]
      by_cases h : P
      · rw [if_pos h, if_pos (hP.mp h)]
      · rw [if_neg h, if_neg (fun e => h (hP.mpr e))]
    by_cases c1 : K 193 < c
    · have eS := e1 False inferInstance ⟨fun h => h.elim, fun h => by rw [← hc] at h; have := h.1; exfalso; (simp only [Int32.le_iff_toInt_le, Int32.lt_iff_toInt_lt, ← Int32.toInt_inj, Int32.toInt_ofNat', Int32.reduceToInt, zi_ix, Int32.toInt_add, Int32.toInt_sub, Int32.toInt_mul, Int32.toInt_neg, zi_bm, zi_bms, zp_in] at *; omega)⟩
      rw [if_neg (fun h => h)] at eS
      rw [eS]
      refine ss_iT c1 (ss_ret ⟨rfl, I1, rfl, zf_mono f1 zk_x1_dk, hC1, hL1⟩)
    refine ss_iF c1 ?_
    refine ss_rc rfl ?_
    refine ss_call (cx_heldOf hC1.1 (s := m) (by omega) ha hb8) ?_
    by_cases c2 : K (64 * m + (8 * a + b)) < 9
    · have hcc : c ≤ K 193 := by (simp only [Int32.le_iff_toInt_le, Int32.lt_iff_toInt_lt, ← Int32.toInt_inj, Int32.toInt_ofNat', Int32.reduceToInt, zi_ix, Int32.toInt_add, Int32.toInt_sub, Int32.toInt_mul, Int32.toInt_neg, zi_bm, zi_bms, zp_in] at *; omega)
      have eS := e1 True inferInstance ⟨fun _ => ⟨by rw [← hc]; exact hcc, by rw [hk]; exact c2⟩, fun _ => trivial⟩
      rw [if_pos trivial] at eS
      rw [eS]
      obtain ⟨hr, hp⟩ := pk_kB (pk_ok_of hC.2.1) hm ha hb8 (by rw [← hc]; exact hcc) (by rw [hk]; exact c2)
      refine ss_iT c2 ?_
      refine ss_pt rfl rfl ?_
      refine ss_rc rfl ?_
      refine zp_wp_call (cx_push (c := 0) hL1 (pk_at_of hC1.1)) ?_
      rintro _ τ ⟨I2, rfl, f2, l2⟩
      have hC2 := zr_cl_lgf hC1 f2
      have k193' : I2 3 1 = K 193 := hC2.1.2.2.1
      have h9 := hC.2.1.1 (64 * m + (8 * a + b)) (by omega)
      refine ss_gI rfl k193' ?_
      refine ss_pI rfl ?_
      refine ss_rc rfl ?_
      have hxx : sf_u2 I2 3 1 (K 193 - c) 4 (64 * m + (8 * a + b)) = K (64 * m + (8 * a + b)) := by rw [zu_a (by decide)]; exact hC2.1.1 _ (by omega)
      refine ss_call (cx_change (s := m) (d := 1) (y := K (64 * m + (8 * a + b)) + 1) (by omega) ha hb8 hxx ?_) ?_
      · by_cases c3 : K (64 * m + (8 * a + b)) + 1 < 9
        · rw [if_pos c3, if_neg (by (simp only [Int32.le_iff_toInt_le, Int32.lt_iff_toInt_lt, ← Int32.toInt_inj, Int32.toInt_ofNat', Int32.reduceToInt, zi_ix, Int32.toInt_add, Int32.toInt_sub, Int32.toInt_mul, Int32.toInt_neg, zi_bm, zi_bms, zp_in] at *; omega))]
        · rw [if_neg c3, if_neg (by decide)]; (simp only [Int32.le_iff_toInt_le, Int32.lt_iff_toInt_lt, ← Int32.toInt_inj, Int32.toInt_ofNat', Int32.reduceToInt, zi_ix, Int32.toInt_add, Int32.toInt_sub, Int32.toInt_mul, Int32.toInt_neg, zi_bm, zi_bms, zp_in] at *; omega)
      have k1 : sf_u2 (sf_u2 I2 3 1 (K 193 - c)) 4 (64 * m + (8 * a + b)) (K (64 * m + (8 * a + b)) + 1) 3 1 = K 193 - c := by rw [zu_a (by decide), zu_eq]
      refine ss_gI rfl k1 ?_
      refine ss_ret ⟨by rw [hc], _, rfl, zf_u2 (zf_u2 (zf_trans (zf_mono f1 zk_x1_dk) (zf_mono f2 zk_lg_dk)) rfl) rfl, ?_, cx_lg_fr (fun k _ => by rw [zu_a (by decide), zu_a (by decide)]) (fun x q1 q2 => by rw [zu_r (by omega), zu_r (by omega)]) l2⟩
      show zr_cl t _ D (kB K (Int32.ofNat m) (Int32.ofNat a) (Int32.ofNat b))
      refine zr_cl_pk hC2 (fun i hi => kB_hi (by omega) ha hb8 (by omega)) hp ?_ (fun x hx => by rw [zu_r (by omega), zu_r (by omega)])
      obtain ⟨p1, p2, p3, p4⟩ := pk_at_of hC2.1
      unfold kB
      rw [hk]
      refine ⟨fun i hi => ?_, ?_, ?_, ?_⟩
      · by_cases e : i = 64 * m + (8 * a + b)
        · subst e; rw [zu_eq, kS_e]
        · rw [zu_k e, zu_a (by decide), kS_n e, kS_n (by omega)]; exact p1 i hi
      · rw [zu_a (by decide), zu_k (by decide), kS_n (by omega), kS_n (by omega)]; exact p2
      · rw [zu_a (by decide), zu_eq, kS_n (by omega), kS_e, hc]
      · rw [zu_a (by decide), zu_k (by decide), kS_n (by omega), kS_n (by omega)]; exact p4
    · have eS := e1 False inferInstance ⟨fun h => h.elim, fun h => by have := h.2; rw [hk] at this; exact absurd this c2⟩
      rw [if_neg (fun h => h)] at eS
      rw [eS]
      refine ss_iF c2 (ss_ret ⟨rfl, I1, rfl, zf_mono f1 zk_x1_dk, hC1, hL1⟩)
set_option maxRecDepth 20000 in
theorem DM_buy (s p q : Int32) : DM (jx_Mo_buysKept (some 112) s p q) (sp_buy s p q) := by
  intro t I J D K L hK hM hL
  have h01 := ze_lies s 0 1
  have h2 := ze_areTwo p q
  have hbi := zs_bought_in s p q
  unfold jx_Mo_buysKept
  refine ss_pure h01 ?_
  cases hx1 : zs_in 0 s 1 with
  | false =>
    have eS : sp_buy s p q K L = (-1, K, L) := if_neg (by rw [hbi, hx1, Bool.false_and]; decide)
    rw [eS]
    exact ss_iT rfl (ss_ret ⟨rfl, I, rfl, zf_refl _ _, hK, hL⟩)
  | true =>
    refine ss_iF (by decide) ?_
    refine ss_pure h2 ?_
    cases hx2 : zs_leg p q with
    | false =>
      have eS : sp_buy s p q K L = (-1, K, L) := if_neg (by rw [hbi, hx1, hx2]; decide)
      rw [eS]
      exact ss_iT rfl (ss_ret ⟨rfl, I, rfl, zf_refl _ _, hK, hL⟩)
    | true =>
      have hx : zs_bought s p q = true := by rw [hbi, hx1, hx2]; rfl
      obtain ⟨m, a, b, hm, ha, hb8, hne, rfl, rfl, rfl⟩ := zs_bought_T hx
      have hk := tkxN (s := m) (by omega) ha hb8
      have e0 : jx_Mo_ticketAt (Int32.ofNat m) (Int32.ofNat a) (Int32.ofNat b) = sf_ret (Int32.ofNat (64 * m + (8 * a + b))) := by rw [ze_ticketAt, (i_tk m (by omega) a ha b hb8).2]
      have l0 : 64 * m + (8 * a + b) < 5838 := by omega
      have hv := hM.1
      -- can it be bought
      have hcan : zp_wp (jx_Mo_canBuy (some 112) (Int32.ofNat m) (Int32.ofNat a) (Int32.ofNat b)) (fun v τ => ∃ I', τ = zp_Z t I' J D ∧ zf zk_m1 I I' ∧ v = zb (decide (sp_cost K (K 230) (Int32.ofNat m) (Int32.ofNat a) (Int32.ofNat b) ≤ K 193 ∧ K (64 * m + (8 * a + b)) < 9))) (zp_Z t I J D) := by
        have h2' := ze_areTwo (Int32.ofNat a) (Int32.ofNat b)
        rw [hx2] at h2'
        have k0 : I 114 (64 * m + (8 * a + b)) = K (64 * m + (8 * a + b)) := by rw [hK]
        unfold jx_Mo_canBuy
        refine ss_pure h2' ?_
        refine ss_iF (by decide) ?_
        refine ss_pt rfl rfl ?_
        refine ss_pure e0 ?_
        refine ss_aI rfl rfl l0 (by decide) k0 ?_
        by_cases c1 : 9 ≤ K (64 * m + (8 * a + b))
        · refine ss_iT c1 (ss_ret ⟨I, rfl, zf_refl _ _, ?_⟩)
          rw [decide_eq_false (fun h => by have := h.2; exfalso; (simp only [Int32.le_iff_toInt_le, Int32.lt_iff_toInt_lt, ← Int32.toInt_inj, Int32.toInt_ofNat', Int32.reduceToInt, zi_ix, Int32.toInt_add, Int32.toInt_sub, Int32.toInt_mul, Int32.toInt_neg, zi_bm, zi_bms, zp_in] at *; omega))]; rfl
        · refine ss_iF c1 ?_
          refine ss_rc rfl ?_
          refine zp_wp_call (mx_costOf hK hM ha hb8 hm) ?_
          rintro c τ ⟨hc, I1, rfl, f1⟩
          have k193 : I1 114 193 = K 193 := by rw [zf_row f1 (fun k => rfl), hK]
          refine ss_pt rfl rfl ?_
          refine ss_aI rfl rfl (by decide) (by decide) k193 ?_
          by_cases c2 : K 193 < c
          · refine ss_iT c2 (ss_ret ⟨I1, rfl, f1, ?_⟩)
            rw [← hc, decide_eq_false (fun h => by have := h.1; exfalso; (simp only [Int32.le_iff_toInt_le, Int32.lt_iff_toInt_lt, ← Int32.toInt_inj, Int32.toInt_ofNat', Int32.reduceToInt, zi_ix, Int32.toInt_add, Int32.toInt_sub, Int32.toInt_mul, Int32.toInt_neg, zi_bm, zi_bms, zp_in] at *; omega))]; rfl
          · refine ss_iF c2 (ss_ret ⟨I1, rfl, f1, ?_⟩)
            rw [← hc, decide_eq_true ⟨by (simp only [Int32.le_iff_toInt_le, Int32.lt_iff_toInt_lt, ← Int32.toInt_inj, Int32.toInt_ofNat', Int32.reduceToInt, zi_ix, Int32.toInt_add, Int32.toInt_sub, Int32.toInt_mul, Int32.toInt_neg, zi_bm, zi_bms, zp_in] at *; omega), by (simp only [Int32.le_iff_toInt_le, Int32.lt_iff_toInt_lt, ← Int32.toInt_inj, Int32.toInt_ofNat', Int32.reduceToInt, zi_ix, Int32.toInt_add, Int32.toInt_sub, Int32.toInt_mul, Int32.toInt_neg, zi_bm, zi_bms, zp_in] at *; omega)⟩]; rfl
      refine ss_iF (by decide) ?_
      refine ss_rc rfl ?_
      refine zp_wp_call hcan ?_
      rintro v τ ⟨I1, rfl, f1, rfl⟩
      have e114 : I1 114 = K := by rw [zf_row f1 (fun k => rfl)]; exact hK
      have hL1 : mx_lg I1 L := mx_lg_fr (f1 112 40 rfl) (zf_row f1 (fun k => rfl)) hL
      by_cases h : sp_cost K (K 230) (Int32.ofNat m) (Int32.ofNat a) (Int32.ofNat b) ≤ K 193 ∧ K (64 * m + (8 * a + b)) < 9
      · have eS : sp_buy (Int32.ofNat m) (Int32.ofNat a) (Int32.ofNat b) K L = (K 193 - sp_cost K (K 230) (Int32.ofNat m) (Int32.ofNat a) (Int32.ofNat b), kB K (Int32.ofNat m) (Int32.ofNat a) (Int32.ofNat b), lg_push L (0, K)) := by
          unfold sp_buy; rw [if_pos hx, if_pos (by rw [hk]; exact h)]
        rw [eS, decide_eq_true h]
        refine ss_iF (by decide) ?_
        refine ss_rc rfl ?_
        refine zp_wp_call (mx_keeps (c := 0) e114 hL1) ?_
        rintro _ τ ⟨I2, rfl, f2, l2⟩
        have e114' : I2 114 = K := by rw [zf_row f2 (fun k => rfl)]; exact e114
        have k193 : I2 114 193 = K 193 := by rw [e114']
        refine ss_rc rfl ?_
        unfold jx_Mo_buys
        refine ss_as ?_
        refine ss_pt rfl rfl ?_
        refine ss_as ?_
        refine ss_aI rfl rfl (by decide) (by decide) k193 ?_
        refine ss_as ?_
        refine ss_rc rfl ?_
        refine zp_wp_call (mx_costOf e114' hM ha hb8 hm) ?_
        rintro c τ ⟨rfl, I3, rfl, f3⟩
        have e114'' : I3 114 = K := by rw [zf_row f3 (fun k => rfl)]; exact e114'
        refine ss_as ?_
        refine ss_sI rfl rfl (by decide) (by decide) ?_
        refine ss_as ?_
        refine ss_pt rfl rfl ?_
        refine ss_as ?_
        refine ss_pure e0 ?_
        refine ss_as ?_
        have k0 : sf_u2 I3 114 193 (K 193 - sp_cost K (K 230) (Int32.ofNat m) (Int32.ofNat a) (Int32.ofNat b)) 114 (64 * m + (8 * a + b)) = K (64 * m + (8 * a + b)) := by rw [zu_k (by omega), e114'']
        refine ss_aI rfl rfl l0 (by decide) k0 ?_
        refine ss_as ?_
        refine ss_sI rfl rfl l0 (by decide) ?_
        refine ss_bret ?_
        have k1 : sf_u2 (sf_u2 I3 114 193 (K 193 - sp_cost K (K 230) (Int32.ofNat m) (Int32.ofNat a) (Int32.ofNat b))) 114 (64 * m + (8 * a + b)) (K (64 * m + (8 * a + b)) + 1) 114 193 = K 193 - sp_cost K (K 230) (Int32.ofNat m) (Int32.ofNat a) (Int32.ofNat b) := by rw [zu_k (by omega), zu_eq]
        refine ss_pt rfl rfl ?_
        refine ss_aI rfl rfl (by decide) (by decide) k1 ?_
        refine ss_ret ⟨rfl, _, rfl, zf_u2 (zf_u2 (zf_trans (zf_trans (zf_mono f1 zk_m1_dj) (zf_mono f2 zk_ml_dj)) (zf_mono f3 zk_m1_dj)) rfl) rfl, ?_, mx_lg_fr ?_ ?_ l2⟩
        · show _ = kB K (Int32.ofNat m) (Int32.ofNat a) (Int32.ofNat b)
          unfold kB
          rw [hk]
          exact kS_u (kS_u e114'')
        · rw [zu_a (by decide), zu_a (by decide)]; exact f3 112 40 rfl
        · rw [zu_r (by decide), zu_r (by decide)]; exact zf_row f3 (fun k => rfl)
      · have eS : sp_buy (Int32.ofNat m) (Int32.ofNat a) (Int32.ofNat b) K L = (-3, K, L) := by
          unfold sp_buy; rw [if_pos hx, if_neg (by rw [hk]; exact h)]
        rw [eS, decide_eq_false h]
        exact ss_iT rfl (ss_ret ⟨rfl, I1, rfl, zf_mono f1 zk_m1_dj, e114, hL1⟩)
end
