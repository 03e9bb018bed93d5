/-! count. -/
/-- the tickets, added up -/
def hsm (K : Nat → Int32) : Nat → Int32
  | 0 => 0
  | n + 1 => hsm K n + K n
section
variable {t : List (Nat × Nat)} {I : Nat → Nat → Int32} {J : Nat → Nat → Int64} {D : Nat → Nat → Option Nat} {K : Nat → Int32} {L : lg_L}
set_option maxRecDepth 20000 in
theorem cx_heldInAll (hO : zr_off I 2 K) : jx_Pocket_heldInAll (some 3) (zp_Z t I J D) = some (hsm K 192, zp_Z t I J D) := by
  have hk : ∀ i, i < 192 → I 4 i = K i := hO.1
  apply zp_wp_eq
  unfold jx_Pocket_heldInAll
  refine ss_pt rfl rfl ?_
  refine ss_len rfl (by decide) ?_
  refine zl_g (fun i s => (s, Int32.ofNat i)) 0 192 (s0 := hsm K 0) rfl (by omega) (by omega) (fun i s I' => I' = I ∧ s = hsm K i) ⟨rfl, rfl⟩ ?step ?fin
  case step =>
    rintro i s I' - hi ⟨rfl, rfl⟩
    have n1 : ¬ Int32.ofNat 192 ≤ Int32.ofNat i := zi_nle hi (by omega)
    have l1 := hk i hi
    (repeat (first | (with_reducible refine ss_ret ?_) | (with_reducible refine ss_bret ?_) | ((with_reducible apply ss_rc); (· first | (with_reducible assumption) | exact rfl)) | ((with_reducible apply ss_pt); (· first | (with_reducible assumption) | exact rfl); (· exact rfl)) | ((with_reducible apply ss_gR); (· first | (with_reducible assumption) | exact rfl); (· (with_reducible assumption))) | ((with_reducible apply ss_gI); (· first | (with_reducible assumption) | exact rfl); (· ((repeat (first | (with_reducible apply zr_e) | ((with_reducible apply zr_a); (· first | decide | omega)) | ((with_reducible apply zr_k); (· omega)) | (with_reducible apply zr_1e) | ((with_reducible apply zr_1a); (· first | decide | omega)))); (first | (with_reducible assumption) | exact rfl)))) | ((with_reducible apply ss_pI); (· first | (with_reducible assumption) | exact rfl)) | ((with_reducible apply ss_aI); (· first | (with_reducible assumption) | exact rfl); (· (repeat (first | (with_reducible assumption) | (with_reducible exact rfl) | (with_reducible apply zn_add) | (with_reducible apply zn_mul) | (with_reducible exact zi_lit2 _)))); (· first | omega | decide); (· decide); (· ((repeat (first | (with_reducible apply zr_e) | ((with_reducible apply zr_a); (· first | decide | omega)) | ((with_reducible apply zr_k); (· omega)) | (with_reducible apply zr_1e) | ((with_reducible apply zr_1a); (· first | decide | omega)))); (first | (with_reducible assumption) | exact rfl)))) | ((with_reducible apply ss_sI); (· first | (with_reducible assumption) | exact rfl); (· (repeat (first | (with_reducible assumption) | (with_reducible exact rfl) | (with_reducible apply zn_add) | (with_reducible apply zn_mul) | (with_reducible exact zi_lit2 _)))); (· first | omega | decide); (· decide)) | ((with_reducible apply ss_len); (· first | (with_reducible assumption) | exact rfl); (· decide)) | (with_reducible refine ss_as ?_) | (with_reducible refine ss_bor ?_) | (with_reducible refine ss_or ?_) | (with_reducible refine ss_bcl ?_) | (with_reducible refine ss_bcr ?_) | (with_reducible refine ss_cl ?_) | (with_reducible refine ss_cr ?_) | (first | ((with_reducible refine ss_biT ?_ ?_); (· first | (with_reducible assumption) | decide)) | ((with_reducible refine ss_biF ?_ ?_); (· first | (with_reducible assumption) | decide)) | ((with_reducible refine ss_iT ?_ ?_); (· first | (with_reducible assumption) | decide)) | ((with_reducible refine ss_iF ?_ ?_); (· first | (with_reducible assumption) | decide))) | ((with_reducible apply ss_pZ); (· first | (with_reducible assumption) | exact rfl); (· first | (with_reducible assumption) | exact Or.inl rfl | exact Or.inr rfl)) | ((with_reducible apply ss_dvL); (· first | (with_reducible assumption) | decide)) | ((with_reducible apply ss_rmL); (· first | (with_reducible assumption) | decide)) | ((with_reducible apply ss_rmI); (· first | (with_reducible assumption) | decide)) | ((with_reducible apply ss_rz1); (· first | (with_reducible assumption) | exact Or.inl rfl | exact Or.inr rfl))))
    exact Or.inl ⟨hsm K i + K i, I', by rw [zi_s], rfl, rfl, rfl⟩
  case fin =>
    rintro s I' ⟨rfl, rfl⟩
    have n1 : Int32.ofNat 192 ≤ Int32.ofNat 192 := Int32.le_refl _
    refine ss_iT n1 ?_
    refine ss_ret ⟨_, rfl, ?_⟩
    exact ss_ret ⟨rfl, rfl⟩
set_option maxRecDepth 20000 in
theorem mx_heldAll (hK : I 114 = K) : jx_Mo_heldAll (some 112) (zp_Z t I J D) = some (hsm K 192, zp_Z t I J D) := by
  apply zp_wp_eq
  unfold jx_Mo_heldAll jx_Mo_heldOf
  refine ss_rc rfl ?_
  refine ss_as ?_
  refine ss_bret ?_
  refine ss_as ?_
  refine zl_g (fun i s => (s, Int32.ofNat i)) 0 192 (s0 := hsm K 0) rfl (by omega) (by omega) (fun i s I' => I' = I ∧ s = hsm K i) ⟨rfl, rfl⟩ ?step ?fin
  case step =>
    rintro i s I' - hi ⟨rfl, rfl⟩
    have n1 : ¬ ((64 : Int32) * ((2 : Int32) + (1 : Int32))) ≤ Int32.ofNat i := zi_nle (b := i) (a := 192) hi (by omega)
    have l1 : I' 114 i = K i := by rw [hK]
    have l2 : i < 5838 := by omega
    have l3 : (0 : Int32) + Int32.ofNat i = Int32.ofNat i := Int32.zero_add _
    refine ss_iF n1 ?_
    refine ss_pt rfl rfl ?_
    refine ss_aI rfl l3 l2 (by decide) l1 ?_
    (repeat (first | (with_reducible refine ss_ret ?_) | (with_reducible refine ss_bret ?_) | ((with_reducible apply ss_rc); (· first | (with_reducible assumption) | exact rfl)) | ((with_reducible apply ss_pt); (· first | (with_reducible assumption) | exact rfl); (· exact rfl)) | ((with_reducible apply ss_gR); (· first | (with_reducible assumption) | exact rfl); (· (with_reducible assumption))) | ((with_reducible apply ss_gI); (· first | (with_reducible assumption) | exact rfl); (· ((repeat (first | (with_reducible apply zr_e) | ((with_reducible apply zr_a); (· first | decide | omega)) | ((with_reducible apply zr_k); (· omega)) | (with_reducible apply zr_1e) | ((with_reducible apply zr_1a); (· first | decide | omega)))); (first | (with_reducible assumption) | exact rfl)))) | ((with_reducible apply ss_pI); (· first | (with_reducible assumption) | exact rfl)) | ((with_reducible apply ss_aI); (· first | (with_reducible assumption) | exact rfl); (· (repeat (first | (with_reducible assumption) | (with_reducible exact rfl) | (with_reducible apply zn_add) | (with_reducible apply zn_mul) | (with_reducible exact zi_lit2 _)))); (· first | omega | decide); (· decide); (· ((repeat (first | (with_reducible apply zr_e) | ((with_reducible apply zr_a); (· first | decide | omega)) | ((with_reducible apply zr_k); (· omega)) | (with_reducible apply zr_1e) | ((with_reducible apply zr_1a); (· first | decide | omega)))); (first | (with_reducible assumption) | exact rfl)))) | ((with_reducible apply ss_sI); (· first | (with_reducible assumption) | exact rfl); (· (repeat (first | (with_reducible assumption) | (with_reducible exact rfl) | (with_reducible apply zn_add) | (with_reducible apply zn_mul) | (with_reducible exact zi_lit2 _)))); (· first | omega | decide); (· decide)) | ((with_reducible apply ss_len); (· first | (with_reducible assumption) | exact rfl); (· decide)) | (with_reducible refine ss_as ?_) | (with_reducible refine ss_bor ?_) | (with_reducible refine ss_or ?_) | (with_reducible refine ss_bcl ?_) | (with_reducible refine ss_bcr ?_) | (with_reducible refine ss_cl ?_) | (with_reducible refine ss_cr ?_) | (first | ((with_reducible refine ss_biT ?_ ?_); (· first | (with_reducible assumption) | decide)) | ((with_reducible refine ss_biF ?_ ?_); (· first | (with_reducible assumption) | decide)) | ((with_reducible refine ss_iT ?_ ?_); (· first | (with_reducible assumption) | decide)) | ((with_reducible refine ss_iF ?_ ?_); (· first | (with_reducible assumption) | decide))) | ((with_reducible apply ss_pZ); (· first | (with_reducible assumption) | exact rfl); (· first | (with_reducible assumption) | exact Or.inl rfl | exact Or.inr rfl)) | ((with_reducible apply ss_dvL); (· first | (with_reducible assumption) | decide)) | ((with_reducible apply ss_rmL); (· first | (with_reducible assumption) | decide)) | ((with_reducible apply ss_rmI); (· first | (with_reducible assumption) | decide)) | ((with_reducible apply ss_rz1); (· first | (with_reducible assumption) | exact Or.inl rfl | exact Or.inr rfl))))
    exact Or.inl ⟨hsm K i + K i, I', by rw [zi_s], rfl, rfl, rfl⟩
  case fin =>
    rintro s I' ⟨rfl, rfl⟩
    have n1 : ((64 : Int32) * ((2 : Int32) + (1 : Int32))) ≤ Int32.ofNat 192 := by decide
    refine ss_iT n1 ?_
    refine ss_ret ⟨_, rfl, ?_⟩
    refine ss_bret ?_
    exact ss_ret ⟨rfl, rfl⟩
set_option maxRecDepth 20000 in
/-- case 40 -/
theorem CL_count (p : Int32) : CL (jx_SF_count (some 0) p) (jx_Mo_count (some 112) p) := by
  intro t I J D h
  obtain ⟨g1, g2, g3, g4, g5, g6, g7⟩ := h.ms
  obtain ⟨L, ⟨-, l2, -⟩, ⟨-, l4, -⟩, -⟩ := h.2.2.1
  obtain ⟨⟨n, hn, n1, n2⟩, -⟩ := h.2.2.2.1
  have hO := h.1.1
  have hh := cx_heldInAll (t := t) (J := J) (D := D) hO
  have hm := mx_heldAll (t := t) (J := J) (D := D) (I := I) rfl
  have ht := cx_term (t := t) (J := J) (D := D) hO
  obtain ⟨q1, q2, q3, q4, q5, q6, q7, q8, q9, q10, q11, q12, q13, q14, q15⟩ := hO
  unfold jx_SF_count jx_Mo_count
  refine ss_pt rfl rfl ?_
  refine ss_pt rfl rfl ?_
  by_cases hr : p < 8 ∨ 12 < p
  · -- not one of the five
    refine ss_or ?_
    refine zp_wp_call (P := fun r τ => r = .inr () ∧ τ = zp_Z t I J D) ?_ ?_
    · rcases hr with hr | hr
      · exact ss_iT hr (ss_ret ⟨rfl, rfl⟩)
      · refine ss_iF (by (simp only [Int32.le_iff_toInt_le, Int32.lt_iff_toInt_lt, ← Int32.toInt_inj, Int32.toInt_ofNat', Int32.reduceToInt, zi_ix, Int32.toInt_add, Int32.toInt_sub, Int32.toInt_mul, Int32.toInt_neg, zi_bm, zi_bms, zp_in] at *; omega)) (ss_iT hr (ss_ret ⟨rfl, rfl⟩))
    rintro r τ ⟨rfl, rfl⟩
    refine ss_cr ?_
    have m8 : ¬ p = 8 := by rintro rfl; exact absurd hr (by decide)
    have m9 : ¬ p = 9 := by rintro rfl; exact absurd hr (by decide)
    have m10 : ¬ p = 10 := by rintro rfl; exact absurd hr (by decide)
    have m11 : ¬ p = 11 := by rintro rfl; exact absurd hr (by decide)
    have m12 : ¬ p = 12 := by rintro rfl; exact absurd hr (by decide)
    by_cases c0 : p = 0
    · subst c0
      refine ss_iT rfl ?_
      refine ss_gI rfl q12 ?_
      refine ss_ret ?_
      refine ss_iT rfl ?_
      refine ss_pt rfl rfl ?_
      refine ss_aI rfl rfl (by decide) (by decide) rfl ?_
      exact ss_ret (CL.fin h rfl)
    by_cases c1 : p = 1
    · subst c1
      refine ss_iF c0 (ss_iT rfl ?_)
      refine ss_pt rfl rfl ?_
      refine ss_gI rfl q2 ?_
      refine ss_ret ?_
      refine ss_iF c0 (ss_iT rfl ?_)
      refine ss_pt rfl rfl ?_
      refine ss_aI rfl rfl (by decide) (by decide) rfl ?_
      exact ss_ret (CL.fin h rfl)
    by_cases c2 : p = 2
    · subst c2
      refine ss_iF c0 (ss_iF c1 (ss_iT rfl ?_))
      refine ss_pt rfl rfl ?_
      refine ss_gI rfl q3 ?_
      refine ss_ret ?_
      refine ss_iF c0 (ss_iF c1 (ss_iT rfl ?_))
      refine ss_pt rfl rfl ?_
      refine ss_aI rfl rfl (by decide) (by decide) rfl ?_
      exact ss_ret (CL.fin h rfl)
    by_cases c3 : p = 3
    · subst c3
      refine ss_iF c0 (ss_iF c1 (ss_iF c2 (ss_iT rfl ?_)))
      refine ss_pt rfl rfl ?_
      refine ss_rc rfl ?_
      refine ss_call hh ?_
      refine ss_ret ?_
      refine ss_iF c0 (ss_iF c1 (ss_iF c2 (ss_iT rfl ?_)))
      refine ss_rc rfl ?_
      refine ss_call hm ?_
      exact ss_ret (CL.fin h rfl)
    by_cases c4 : p = 4
    · subst c4
      refine ss_iF c0 (ss_iF c1 (ss_iF c2 (ss_iF c3 (ss_iT rfl ?_))))
      refine ss_gI rfl q13 ?_
      refine ss_ret ?_
      refine ss_iF c0 (ss_iF c1 (ss_iF c2 (ss_iF c3 (ss_iT rfl ?_))))
      refine ss_pt rfl rfl ?_
      refine ss_aI rfl rfl (by decide) (by decide) rfl ?_
      exact ss_ret (CL.fin h rfl)
    by_cases c5 : p = 5
    · subst c5
      refine ss_iF c0 (ss_iF c1 (ss_iF c2 (ss_iF c3 (ss_iF c4 (ss_iT rfl ?_)))))
      refine ss_gI rfl q14 ?_
      refine ss_ret ?_
      refine ss_iF c0 (ss_iF c1 (ss_iF c2 (ss_iF c3 (ss_iF c4 (ss_iT rfl ?_)))))
      refine ss_pt rfl rfl ?_
      refine ss_aI rfl rfl (by decide) (by decide) rfl ?_
      exact ss_ret (CL.fin h rfl)
    by_cases c6 : p = 6
    · subst c6
      refine ss_iF c0 (ss_iF c1 (ss_iF c2 (ss_iF c3 (ss_iF c4 (ss_iF c5 (ss_iT rfl ?_))))))
      refine ss_pt rfl rfl ?_
      refine ss_pt rfl rfl ?_
      refine ss_gI rfl l2 ?_
      refine ss_ret ?_
      refine ss_iF c0 (ss_iF c1 (ss_iF c2 (ss_iF c3 (ss_iF c4 (ss_iF c5 (ss_iT rfl ?_))))))
      refine ss_gI rfl l4 ?_
      exact ss_ret (CL.fin h rfl)
    by_cases c7 : p = 7
    · subst c7
      refine ss_iF c0 (ss_iF c1 (ss_iF c2 (ss_iF c3 (ss_iF c4 (ss_iF c5 (ss_iF c6 (ss_iT rfl ?_)))))))
      refine ss_pt rfl rfl ?_
      refine ss_gI rfl n1 ?_
      refine ss_ret ?_
      refine ss_iF c0 (ss_iF c1 (ss_iF c2 (ss_iF c3 (ss_iF c4 (ss_iF c5 (ss_iF c6 (ss_iT rfl ?_)))))))
      refine ss_gI rfl n2 ?_
      exact ss_ret (CL.fin h rfl)
    refine ss_iF c0 (ss_iF c1 (ss_iF c2 (ss_iF c3 (ss_iF c4 (ss_iF c5 (ss_iF c6 (ss_iF c7 ?_)))))))
    refine ss_iF m8 (ss_iF m9 (ss_iF m10 (ss_iF m11 (ss_iF m12 ?_))))
    by_cases c13 : p = 13
    · subst c13
      refine ss_iT rfl ?_
      refine ss_gI rfl q15 ?_
      refine ss_ret ?_
      refine ss_iF c0 (ss_iF c1 (ss_iF c2 (ss_iF c3 (ss_iF c4 (ss_iF c5 (ss_iF c6 (ss_iF c7 ?_)))))))
      refine ss_iF m8 (ss_iF m9 (ss_iF m10 (ss_iF m11 (ss_iF m12 (ss_iT rfl ?_)))))
      refine ss_pt rfl rfl ?_
      refine ss_aI rfl rfl (by decide) (by decide) rfl ?_
      exact ss_ret (CL.fin h rfl)
    by_cases c14 : p = 14
    · subst c14
      have hat := ze_termAt ((14 : Int32) - 14)
      refine ss_iF c13 (ss_iT rfl ?_)
      refine ss_rc rfl ?_
      refine ss_call (ht _) ?_
      refine ss_ret ?_
      refine ss_iF c0 (ss_iF c1 (ss_iF c2 (ss_iF c3 (ss_iF c4 (ss_iF c5 (ss_iF c6 (ss_iF c7 ?_)))))))
      refine ss_iF m8 (ss_iF m9 (ss_iF m10 (ss_iF m11 (ss_iF m12 (ss_iF c13 (ss_iT rfl ?_))))))
      refine ss_pt rfl rfl ?_
      refine ss_pure hat ?_
      refine ss_aI (m := 194) rfl rfl (by decide) (by decide) rfl ?_
      exact ss_ret (CL.fin h rfl)
    by_cases c15 : p = 15
    · subst c15
      have hat := ze_termAt ((15 : Int32) - 14)
      refine ss_iF c13 (ss_iF c14 (ss_iT rfl ?_))
      refine ss_rc rfl ?_
      refine ss_call (ht _) ?_
      refine ss_ret ?_
      refine ss_iF c0 (ss_iF c1 (ss_iF c2 (ss_iF c3 (ss_iF c4 (ss_iF c5 (ss_iF c6 (ss_iF c7 ?_)))))))
      refine ss_iF m8 (ss_iF m9 (ss_iF m10 (ss_iF m11 (ss_iF m12 (ss_iF c13 (ss_iF c14 (ss_iT rfl ?_)))))))
      refine ss_pt rfl rfl ?_
      refine ss_pure hat ?_
      refine ss_aI (m := 225) rfl rfl (by decide) (by decide) rfl ?_
      exact ss_ret (CL.fin h rfl)
    by_cases c16 : p = 16
    · subst c16
      have hat := ze_termAt ((16 : Int32) - 14)
      refine ss_iF c13 (ss_iF c14 (ss_iF c15 (ss_iT rfl ?_)))
      refine ss_rc rfl ?_
      refine ss_call (ht _) ?_
      refine ss_ret ?_
      refine ss_iF c0 (ss_iF c1 (ss_iF c2 (ss_iF c3 (ss_iF c4 (ss_iF c5 (ss_iF c6 (ss_iF c7 ?_)))))))
      refine ss_iF m8 (ss_iF m9 (ss_iF m10 (ss_iF m11 (ss_iF m12 (ss_iF c13 (ss_iF c14 (ss_iF c15 (ss_iT rfl ?_))))))))
      refine ss_pt rfl rfl ?_
      refine ss_pure hat ?_
      refine ss_aI (m := 226) rfl rfl (by decide) (by decide) rfl ?_
      exact ss_ret (CL.fin h rfl)
    refine ss_iF c13 (ss_iF c14 (ss_iF c15 (ss_iF c16 ?_)))
    refine ss_ret ?_
    refine ss_iF c0 (ss_iF c1 (ss_iF c2 (ss_iF c3 (ss_iF c4 (ss_iF c5 (ss_iF c6 (ss_iF c7 ?_)))))))
    refine ss_iF m8 (ss_iF m9 (ss_iF m10 (ss_iF m11 (ss_iF m12 (ss_iF c13 (ss_iF c14 (ss_iF c15 (ss_iF c16 ?_))))))))
    exact ss_ret (CL.fin h rfl)
  · have b1 : ¬ p < 8 := fun e => hr (Or.inl e)
    have b2 : ¬ 12 < p := fun e => hr (Or.inr e)
    obtain ⟨m, hm8, hm12, rfl⟩ := zs_in_lo (m := 8) (n := 12) (by omega) (by omega) (zs_inT.mpr ⟨(by show (8 : Int32) ≤ p; (simp only [Int32.le_iff_toInt_le, Int32.lt_iff_toInt_lt, ← Int32.toInt_inj, Int32.toInt_ofNat', Int32.reduceToInt, zi_ix, Int32.toInt_add, Int32.toInt_sub, Int32.toInt_mul, Int32.toInt_neg, zi_bm, zi_bms, zp_in] at *; omega)), (by show p ≤ (12 : Int32); (simp only [Int32.le_iff_toInt_le, Int32.lt_iff_toInt_lt, ← Int32.toInt_inj, Int32.toInt_ofNat', Int32.reduceToInt, zi_ix, Int32.toInt_add, Int32.toInt_sub, Int32.toInt_mul, Int32.toInt_neg, zi_bm, zi_bms, zp_in] at *; omega))⟩)
    have : m = 8 ∨ m = 9 ∨ m = 10 ∨ m = 11 ∨ m = 12 := by omega
    rcases this with rfl | rfl | rfl | rfl | rfl
    · refine ss_or ?_
      refine ss_biF b1 (ss_biF b2 ?_)
      refine ss_as ?_
      refine ss_pt rfl rfl ?_
      refine ss_as ?_
      refine ss_call (sf_cstE [1, 2, 3, 5, 6] 0 (by decide) (by decide)) ?_
      refine ss_as ?_
      refine ss_aI (m := 1) rfl rfl (by decide) (by decide) (g2 1 (by decide)) ?_
      refine ss_bret ?_
      refine ss_cl ?_
      refine ss_iF (by decide) (ss_iF (by decide) (ss_iF (by decide) (ss_iF (by decide) (ss_iF (by decide) (ss_iF (by decide) (ss_iF (by decide) (ss_iF (by decide) ?_)))))))
      refine ss_iT rfl ?_
      refine ss_pt rfl rfl ?_
      refine ss_aI (m := 1) rfl rfl (by decide) (by decide) rfl ?_
      exact ss_ret (CL.fin h rfl)
    · refine ss_or ?_
      refine ss_biF b1 (ss_biF b2 ?_)
      refine ss_as ?_
      refine ss_pt rfl rfl ?_
      refine ss_as ?_
      refine ss_call (sf_cstE [1, 2, 3, 5, 6] 1 (by decide) (by decide)) ?_
      refine ss_as ?_
      refine ss_aI (m := 2) rfl rfl (by decide) (by decide) (g2 2 (by decide)) ?_
      refine ss_bret ?_
      refine ss_cl ?_
      refine ss_iF (by decide) (ss_iF (by decide) (ss_iF (by decide) (ss_iF (by decide) (ss_iF (by decide) (ss_iF (by decide) (ss_iF (by decide) (ss_iF (by decide) ?_)))))))
      refine ss_iF (by decide) (ss_iT rfl ?_)
      refine ss_pt rfl rfl ?_
      refine ss_aI (m := 2) rfl rfl (by decide) (by decide) rfl ?_
      exact ss_ret (CL.fin h rfl)
    · refine ss_or ?_
      refine ss_biF b1 (ss_biF b2 ?_)
      refine ss_as ?_
      refine ss_pt rfl rfl ?_
      refine ss_as ?_
      refine ss_call (sf_cstE [1, 2, 3, 5, 6] 2 (by decide) (by decide)) ?_
      refine ss_as ?_
      refine ss_aI (m := 3) rfl rfl (by decide) (by decide) (g2 3 (by decide)) ?_
      refine ss_bret ?_
      refine ss_cl ?_
      refine ss_iF (by decide) (ss_iF (by decide) (ss_iF (by decide) (ss_iF (by decide) (ss_iF (by decide) (ss_iF (by decide) (ss_iF (by decide) (ss_iF (by decide) ?_)))))))
      refine ss_iF (by decide) (ss_iF (by decide) (ss_iT rfl ?_))
      refine ss_pt rfl rfl ?_
      refine ss_aI (m := 3) rfl rfl (by decide) (by decide) rfl ?_
      exact ss_ret (CL.fin h rfl)
    · refine ss_or ?_
      refine ss_biF b1 (ss_biF b2 ?_)
      refine ss_as ?_
      refine ss_pt rfl rfl ?_
      refine ss_as ?_
      refine ss_call (sf_cstE [1, 2, 3, 5, 6] 3 (by decide) (by decide)) ?_
      refine ss_as ?_
      refine ss_aI (m := 5) rfl rfl (by decide) (by decide) (g2 5 (by decide)) ?_
      refine ss_bret ?_
      refine ss_cl ?_
      refine ss_iF (by decide) (ss_iF (by decide) (ss_iF (by decide) (ss_iF (by decide) (ss_iF (by decide) (ss_iF (by decide) (ss_iF (by decide) (ss_iF (by decide) ?_)))))))
      refine ss_iF (by decide) (ss_iF (by decide) (ss_iF (by decide) (ss_iT rfl ?_)))
      refine ss_pt rfl rfl ?_
      refine ss_aI (m := 5) rfl rfl (by decide) (by decide) rfl ?_
      exact ss_ret (CL.fin h rfl)
    · refine ss_or ?_
      refine ss_biF b1 (ss_biF b2 ?_)
      refine ss_as ?_
      refine ss_pt rfl rfl ?_
      refine ss_as ?_
      refine ss_call (sf_cstE [1, 2, 3, 5, 6] 4 (by decide) (by decide)) ?_
      refine ss_as ?_
      refine ss_aI (m := 6) rfl rfl (by decide) (by decide) (g2 6 (by decide)) ?_
      refine ss_bret ?_
      refine ss_cl ?_
      refine ss_iF (by decide) (ss_iF (by decide) (ss_iF (by decide) (ss_iF (by decide) (ss_iF (by decide) (ss_iF (by decide) (ss_iF (by decide) (ss_iF (by decide) ?_)))))))
      refine ss_iF (by decide) (ss_iF (by decide) (ss_iF (by decide) (ss_iF (by decide) (ss_iT rfl ?_))))
      refine ss_pt rfl rfl ?_
      refine ss_aI (m := 6) rfl rfl (by decide) (by decide) rfl ?_
      exact ss_ret (CL.fin h rfl)
end
