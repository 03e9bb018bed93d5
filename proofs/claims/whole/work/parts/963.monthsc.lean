section
variable {t : List (Nat × Nat)} {I I1 I2 : Nat → Nat → Int32} {J : Nat → Nat → Int64} {D : Nat → Nat → Option Nat} {K K' : Nat → Int32} {L L' : lg_L} {r : Int32}
set_option maxRecDepth 20000 in
theorem kW_back {K A : Nat → Int32} (h : ∀ i, 195 ≤ i → K i = A i) : kW K A = A := by
  funext i; unfold kW
  by_cases hi : i < 195
  · rw [if_pos hi]
  · rw [if_neg hi]; exact h i (by omega)
set_option maxRecDepth 20000 in
/-- case 36 -/
theorem CL_months (p n : Int32) : CL (jx_SF_months (some 0) p n) (jx_Mo_months (some 112) p n) := by
  intro t I J D h
  have hI := h
  obtain ⟨L, l1, l2, l3⟩ := h.2.2.1
  obtain ⟨⟨tn, htn, tn1, tn2⟩, hb⟩ := h.2.2.2.1
  obtain ⟨g1, g2, g3, g4, g5, g6, g7⟩ := h.ms
  have hC := h.1
  have hv := hC.2.1
  have hlp := ze_lies p 0 1000000
  have hln := ze_lies n 1 60
  -- a month that cannot be
  have bad : ∀ j, 0 < j → j < 7 → (zs_in 0 p 1000000 && zs_in 1 n 60) = false → j = 1 → zp_wp (sf_bnd (sf_rc 0 (some 0) (jx_SF_refused (some 0) (-1))) fun x29 => sf_ret x29) (fun a σ => zp_wp (jx_Mo_months (some 112) p n) (fun b τ => a = b ∧ ∃ ex I' J' D', τ = zp_Z (t ++ ex) I' J' D' ∧ INV (t ++ ex) I' D' ∧ ex.length ≤ 12 ∧ (ex.map (fun q => q.2)).sum ≤ 877) σ) (zp_Z t I J D) := by
    intro j j0 j7 hf hj
    subst hj
    refine ss_rc rfl ?_
    refine ss_call (cx_refused (j := 1) (by decide) (by decide)) ?_
    refine ss_ret ?_
    unfold jx_Mo_months
    refine ss_pure hlp ?_
    refine ss_or ?_
    cases h1 : zs_in 0 p 1000000 with
    | false =>
      refine ss_biT rfl ?_
      refine ss_bret ?_
      refine ss_cr ?_
      refine ss_rc rfl ?_
      refine ss_call (mx_refuses (j := 1) (by decide) (by decide)) ?_
      exact ss_ret (CL.fin (INV_ref hI (by decide) (by decide) rfl) rfl)
    | true =>
      rw [h1, Bool.true_and] at hf
      refine ss_biF (by decide) ?_
      refine ss_as ?_
      rw [hf] at hln
      refine ss_pure hln ?_
      refine ss_biT rfl ?_
      refine ss_bret ?_
      refine ss_cr ?_
      refine ss_rc rfl ?_
      refine ss_call (mx_refuses (j := 1) (by decide) (by decide)) ?_
      exact ss_ret (CL.fin (INV_ref hI (by decide) (by decide) rfl) rfl)
  unfold jx_SF_months
  refine ss_or ?_
  by_cases c1 : p < 0
  · refine ss_biT c1 (ss_bret (ss_cr ?_))
    exact bad 1 (by decide) (by decide) (by rw [show zs_in 0 p 1000000 = false from zs_inF.mpr (Or.inl c1), Bool.false_and]) rfl
  by_cases c2 : 1000000 < p
  · refine ss_biF c1 (ss_biT c2 (ss_bret (ss_cr ?_)))
    exact bad 1 (by decide) (by decide) (by rw [show zs_in 0 p 1000000 = false from zs_inF.mpr (Or.inr c2), Bool.false_and]) rfl
  by_cases c3 : n < 1
  · refine ss_biF c1 (ss_biF c2 (ss_biT c3 (ss_bret (ss_cr ?_))))
    exact bad 1 (by decide) (by decide) (by rw [show zs_in 1 n 60 = false from zs_inF.mpr (Or.inl c3), Bool.and_false]) rfl
  by_cases c4 : n ≤ 60
  · have hp : zs_in 0 p 1000000 = true := zs_inT.mpr ⟨by (simp only [Int32.le_iff_toInt_le, Int32.lt_iff_toInt_lt, ← Int32.toInt_inj, Int32.toInt_ofNat', Int32.reduceToInt, zi_ix, Int32.toInt_add, Int32.toInt_sub, Int32.toInt_mul, Int32.toInt_neg, zi_bm, zi_bms, zp_in] at *; omega), by (simp only [Int32.le_iff_toInt_le, Int32.lt_iff_toInt_lt, ← Int32.toInt_inj, Int32.toInt_ofNat', Int32.reduceToInt, zi_ix, Int32.toInt_add, Int32.toInt_sub, Int32.toInt_mul, Int32.toInt_neg, zi_bm, zi_bms, zp_in] at *; omega)⟩
    have hn : zs_in 1 n 60 = true := zs_inT.mpr ⟨by (simp only [Int32.le_iff_toInt_le, Int32.lt_iff_toInt_lt, ← Int32.toInt_inj, Int32.toInt_ofNat', Int32.reduceToInt, zi_ix, Int32.toInt_add, Int32.toInt_sub, Int32.toInt_mul, Int32.toInt_neg, zi_bm, zi_bms, zp_in] at *; omega), c4⟩
    obtain ⟨x, hx, rfl⟩ := zs_in_T (n := 1000000) (by omega) hp
    obtain ⟨y, hy1, hy, rfl⟩ := zs_in_lo (m := 1) (n := 60) (by omega) (by omega) hn
    obtain ⟨m, hm6, em⟩ := zv_227 hv
    have k21 : I 2 1 = Int32.ofNat m := by
      have := hC.1.2.2.2.2.2.2.2.2.2.2.2.1
      exact this.trans em
    refine ss_biF c1 (ss_biF c2 (ss_biF c3 (ss_biT c4 ?_)))
    refine ss_as ?_
    refine ss_pt rfl rfl ?_
    refine ss_as ?_
    refine ss_pt rfl rfl ?_
    refine ss_as ?_
    refine ss_gI rfl k21 ?_
    rw [hp] at hlp
    rw [hn] at hln
    by_cases hm0 : m = 0
    · subst hm0
      refine ss_biT rfl ?_
      refine ss_as ?_
      refine ss_rc rfl ?_
      refine ss_call (cx_refused (j := 3) (by decide) (by decide)) ?_
      refine ss_bret ?_
      refine ss_cl ?_
      generalize hI1 : sf_u2 (sf_u2 I 0 12 (-Int32.ofNat 3)) 108 3 (I 108 3 + 1) = I1
      have k227 : I1 114 227 = Int32.ofNat 0 := by subst hI1; rw [zu_a (by decide), zu_a (by decide)]; exact em
      unfold jx_Mo_months
      refine ss_pure hlp ?_
      refine ss_or ?_
      refine ss_biF (by decide) ?_
      refine ss_as ?_
      refine ss_pure hln ?_
      refine ss_biF (by decide) ?_
      refine ss_as ?_
      refine ss_pt rfl rfl ?_
      refine ss_as ?_
      refine ss_aI rfl rfl (by decide) (by decide) k227 ?_
      refine ss_biT rfl ?_
      refine ss_as ?_
      refine ss_rc rfl ?_
      refine ss_call (mx_refuses (j := 3) (by decide) (by decide)) ?_
      refine ss_bret ?_
      refine ss_cl ?_
      exact CL.fin (INV_ref hI (by decide) (by decide) hI1.symm) rfl
    · have hmz : ¬ Int32.ofNat m = 0 := zi_ne (b := 0) hm0 (by omega) (by omega)
      obtain ⟨mo1, mo2, mo3⟩ := moF_ok y (I 114) L x 0 hv
      refine ss_biF hmz ?_
      refine ss_as ?_
      refine ss_pt rfl rfl ?_
      refine ss_as ?_
      refine ss_pt rfl rfl ?_
      refine ss_as ?_
      refine ss_pt rfl rfl ?_
      refine ss_as ?_
      refine ss_pt rfl rfl ?_
      refine ss_as ?_
      refine ss_rc rfl ?_
      refine zp_wp_call (cx_begin (pk_at_of hC.1) l1) ?_
      rintro _ τ ⟨I1, rfl, f1, pk1, lg1, -, -⟩
      have hC1 : zr_cl t I1 D (I 114) := zr_cl_fr2 (fun a ha => zf_row f1 (fun k => by simp; omega)) hC
      have hL1 : cx_lg 20 I1 L := cx_lg_fr (fun k _ => f1 20 k rfl) (fun a q1 q2 => zf_row f1 (fun k => by simp; omega)) l1
      refine ss_as ?_
      refine ss_pt rfl rfl ?_
      refine ss_as ?_
      refine ss_rc rfl ?_
      refine zp_wp_call (cx_drawMonths hC1 hL1 em (by omega) hm6 (show x ≤ 1000002 by omega) hy) ?_
      rintro _ τ ⟨rfl, I2, rfl, f2, hC2, hL2⟩
      generalize hF : moF y (I 114) L x 0 = F at mo1 mo2 mo3 hC2 hL2
      have pk2 : pk_at I2 90 (I 114) := pk_fr (zf_row f2 (fun k => rfl)) (zf_row f2 (fun k => rfl)) pk1
      have lg2 : cx_lg 55 I2 L := cx_lg_fr (fun k _ => f2 55 k rfl) (fun a q1 q2 => zf_row f2 (fun k => by simp [zk_dk]; omega)) lg1
      have v193 : I2 3 1 = F.1 193 := hC2.1.2.2.1
      have v192 : sf_u2 I2 110 0 (F.1 193) 3 2 = F.1 192 := by rw [zu_a (by decide)]; exact hC2.1.2.1
      refine ss_as ?_
      refine ss_pt rfl rfl ?_
      refine ss_as ?_
      refine ss_gI rfl v193 ?_
      refine ss_as ?_
      refine ss_sI (m := 0) rfl rfl (by decide) (by decide) ?_
      refine ss_as ?_
      refine ss_pt rfl rfl ?_
      refine ss_as ?_
      refine ss_gI rfl v192 ?_
      refine ss_as ?_
      refine ss_sI (m := 1) rfl rfl (by decide) (by decide) ?_
      refine ss_as ?_
      refine ss_pt rfl rfl ?_
      refine ss_as ?_
      refine ss_rc rfl ?_
      have hO3 : zr_off (sf_u2 (sf_u2 I2 110 0 (F.1 193)) 110 1 (F.1 192)) 2 F.1 := zr_off_fr (fun a h1 h2 => by rw [zu_r (by omega), zu_r (by omega)]) hC2.1
      refine ss_call (cx_heldInAll hO3) ?_
      refine ss_as ?_
      refine ss_sI (m := 2) rfl rfl (by decide) (by decide) ?_
      refine ss_as ?_
      refine ss_pt rfl rfl ?_
      refine ss_as ?_
      have v194 : sf_u2 (sf_u2 (sf_u2 I2 110 0 (F.1 193)) 110 1 (F.1 192)) 110 2 (hsm F.1 192) 3 3 = F.1 194 := by rw [zu_a (by decide), zu_a (by decide), zu_a (by decide)]; exact hC2.1.2.2.2.1
      refine ss_gI rfl v194 ?_
      refine ss_as ?_
      refine ss_sI (m := 3) rfl rfl (by decide) (by decide) ?_
      refine ss_as ?_
      refine ss_pI rfl ?_
      generalize hI3 : sf_u2 (sf_u2 (sf_u2 (sf_u2 (sf_u2 I2 110 0 (F.1 193)) 110 1 (F.1 192)) 110 2 (hsm F.1 192)) 110 3 (F.1 194)) 0 8 1 = I3
      have hr3 : ∀ a, a ≠ 110 → a ≠ 0 → I3 a = I2 a := fun a q1 q2 => by subst hI3; rw [zu_r q2, zu_r q1, zu_r q1, zu_r q1, zu_r q1]
      have h110 : I3 110 0 = F.1 193 ∧ I3 110 1 = F.1 192 ∧ I3 110 2 = hsm F.1 192 ∧ I3 110 3 = F.1 194 := by
        subst hI3
        refine ⟨?_, ?_, ?_, ?_⟩
        · rw [zu_a (by decide), zu_k (by decide), zu_k (by decide), zu_k (by decide), zu_eq]
        · rw [zu_a (by decide), zu_k (by decide), zu_k (by decide), zu_eq]
        · rw [zu_a (by decide), zu_k (by decide), zu_eq]
        · rw [zu_a (by decide), zu_eq]
      have h0 : ∀ k, k ≠ 8 → I3 0 k = I2 0 k := fun k hk => by subst hI3; rw [zu_k hk, zu_a (by decide), zu_a (by decide), zu_a (by decide), zu_a (by decide)]
      have h08 : I3 0 8 = 1 := by subst hI3; exact zu_eq
      clear hI3
      have hC3 : zr_cl t I3 D F.1 := zr_cl_fr2 (fun a ha => hr3 a (by omega) (by omega)) hC2
      refine ss_as ?_
      refine ss_pt rfl rfl ?_
      refine ss_as ?_
      refine ss_rc rfl ?_
      refine zp_wp_call (cx_takeBack hC3 (pk_ok_of hv) (pk_fr (hr3 90 (by decide) (by decide)) (hr3 91 (by decide) (by decide)) pk2) (cx_lg_fr (fun k _ => by rw [hr3 55 (by decide) (by decide)]) (fun a q1 q2 => hr3 a (by omega) (by omega)) lg2)) ?_
      rintro _ τ ⟨I4, rfl, f4, hC4, hL4⟩
      rw [kW_back mo2] at hC4
      refine ss_as ?_
      refine ss_rc rfl ?_
      refine ss_call (cx_accepted _) ?_
      refine ss_bret ?_
      refine ss_cl ?_
      -- the class is done
      have row4 : ∀ a k, zk_d2 a k = false → I4 a k = I a k := fun a k q => by
        have q' : ¬ (a = 0 ∧ k = 8) ∧ a ≠ 110 ∧ ¬ (54 < a ∧ a < 95) ∧ a ≠ 1 ∧ ¬ (1 < a ∧ a < 11) ∧ ¬ (19 < a ∧ a < 55) ∧ ¬ (11 < a ∧ a < 20) := by
          simp only [zk_d2, zk_dx, zk_sc, Bool.or_eq_false_iff, Bool.and_eq_false_imp, beq_iff_eq, beq_eq_false_iff_ne, decide_eq_true_eq, decide_eq_false_iff_not] at q
          omega
        rw [f4 a k (by simp; omega)]
        have e3 : I3 a k = I2 a k := by
          by_cases ha : a = 0
          · subst ha; exact h0 k (by omega)
          · rw [hr3 a (by omega) ha]
        rw [e3, f2 a k (by simp [zk_dk]; omega), f1 a k (by simp; omega)]
      generalize hI5 : sf_u2 I4 0 12 0 = I5
      have f5 : zf zk_d2 I I5 := by
        subst hI5
        exact zf_u2 (fun a k q => row4 a k q) rfl
      have a5 : an_at 0 12 108 I I5 (Int32.ofNat F.2.2) := by
        subst hI5
        refine an_l (I := I4) (fun k => ?_) (an_acc 0 12 108 (by decide) (zi_leL (a := 0) (by omega) (by omega)))
        rw [f4 108 k rfl, hr3 108 (by decide) (by decide), f2 108 k rfl, f1 108 k rfl]
      have hC5 : zr_cl t I5 D (I 114) := by subst hI5; exact zr_cl_fr2 (fun a ha => zu_r (by omega)) hC4
      have hL5 : cx_lg 20 I5 L := by subst hI5; exact cx_lg_fr (fun k _ => zu_a (by decide)) (fun a q1 q2 => zu_r (by omega)) hL4
      have h5110 : ∀ k, I5 110 k = I3 110 k := fun k => by subst hI5; rw [zu_a (by decide), f4 110 k rfl]
      have h508 : I5 0 8 = 1 := by subst hI5; rw [zu_k (by decide), f4 0 8 rfl]; exact h08
      have h50 : ∀ k, k = 9 ∨ k = 10 ∨ k = 11 → I5 0 k = I 0 k := fun k hk => by
        subst hI5
        rw [zu_k (by omega), f4 0 k rfl, h0 k (by omega), f2 0 k rfl, f1 0 k (by rcases hk with rfl | rfl | rfl <;> rfl)]
      have h595 : I5 95 1 = I 95 1 := by
        subst hI5
        rw [zu_a (by decide), f4 95 1 rfl, hr3 95 (by decide) (by decide), f2 95 1 rfl, f1 95 1 rfl]
      clear hI5
      have k5 : I5 114 = I 114 := zf_row f5 (fun k => rfl)
      have k227 : I5 114 227 = Int32.ofNat m := by rw [k5]; exact em
      have m5 : mx_lg I5 L := mx_lg_fr (f5 112 40 rfl) (zf_row f5 (fun k => rfl)) l2
      unfold jx_Mo_months
      refine ss_pure hlp ?_
      refine ss_or ?_
      refine ss_biF (by decide) ?_
      refine ss_as ?_
      refine ss_pure hln ?_
      refine ss_biF (by decide) ?_
      refine ss_as ?_
      refine ss_pt rfl rfl ?_
      refine ss_as ?_
      refine ss_aI rfl rfl (by decide) (by decide) k227 ?_
      refine ss_biF hmz ?_
      refine ss_as ?_
      refine ss_pI rfl ?_
      refine ss_as ?_
      refine ss_pI rfl ?_
      refine ss_as ?_
      refine ss_rc rfl ?_
      refine zp_wp_call (mx_laysAside (K := I 114) (c := 0) (by rw [zu_r (by decide), zu_r (by decide)]; exact k5) (by decide)) ?_
      rintro _ τ ⟨I6, rfl, f6, r6⟩
      have k6 : I6 114 = I 114 := by rw [zf_row f6 (fun k => rfl), zu_r (by decide), zu_r (by decide)]; exact k5
      have x6 : I6 112 52 = Int32.ofNat x := by rw [f6 112 52 rfl, zu_k (by decide), zu_eq]
      refine ss_as ?_
      refine zp_wp_call (mx_moL k6 (zr_cl_ml hC) em (by omega) hm6 (show x ≤ 1000002 by omega) hy x6 L) ?_
      rintro _ τ ⟨rfl, I7, rfl, f7, k7⟩
      rw [hF] at k7 ⊢
      have u193 : I7 114 193 = F.1 193 := by rw [k7]
      have u192 : sf_u2 I7 138 0 (F.1 193) 114 192 = F.1 192 := by rw [zu_a (by decide), k7]
      refine ss_as ?_
      refine ss_pt rfl rfl ?_
      refine ss_as ?_
      refine ss_pt rfl rfl ?_
      refine ss_as ?_
      refine ss_aI rfl rfl (by decide) (by decide) u193 ?_
      refine ss_as ?_
      refine ss_sI (m := 0) rfl rfl (by decide) (by decide) ?_
      refine ss_as ?_
      refine ss_pt rfl rfl ?_
      refine ss_as ?_
      refine ss_pt rfl rfl ?_
      refine ss_as ?_
      refine ss_aI rfl rfl (by decide) (by decide) u192 ?_
      refine ss_as ?_
      refine ss_sI (m := 1) rfl rfl (by decide) (by decide) ?_
      refine ss_as ?_
      refine ss_pt rfl rfl ?_
      refine ss_as ?_
      refine ss_rc rfl ?_
      refine ss_call (mx_heldAll (K := F.1) (by rw [zu_r (by decide), zu_r (by decide)]; exact k7)) ?_
      refine ss_as ?_
      refine ss_sI (m := 2) rfl rfl (by decide) (by decide) ?_
      have u194 : sf_u2 (sf_u2 (sf_u2 I7 138 0 (F.1 193)) 138 1 (F.1 192)) 138 2 (hsm F.1 192) 114 194 = F.1 194 := by rw [zu_a (by decide), zu_a (by decide), zu_a (by decide), k7]
      refine ss_as ?_
      refine ss_pt rfl rfl ?_
      refine ss_as ?_
      refine ss_pt rfl rfl ?_
      refine ss_as ?_
      refine ss_aI rfl rfl (by decide) (by decide) u194 ?_
      refine ss_as ?_
      refine ss_sI (m := 3) rfl rfl (by decide) (by decide) ?_
      generalize hI8 : sf_u2 (sf_u2 (sf_u2 (sf_u2 I7 138 0 (F.1 193)) 138 1 (F.1 192)) 138 2 (hsm F.1 192)) 138 3 (F.1 194) = I8
      have hr8 : ∀ a, a ≠ 138 → I8 a = I7 a := fun a q => by subst hI8; rw [zu_r q, zu_r q, zu_r q, zu_r q]
      have h138 : I8 138 0 = F.1 193 ∧ I8 138 1 = F.1 192 ∧ I8 138 2 = hsm F.1 192 ∧ I8 138 3 = F.1 194 := by
        subst hI8
        refine ⟨?_, ?_, ?_, ?_⟩
        · rw [zu_k (by decide), zu_k (by decide), zu_k (by decide), zu_eq]
        · rw [zu_k (by decide), zu_k (by decide), zu_eq]
        · rw [zu_k (by decide), zu_eq]
        · rw [zu_eq]
      clear hI8
      have r8 : ∀ k, k < 195 → I8 117 (195 * 0 + k) = I 114 k := fun k hk => by rw [hr8 117 (by decide), f7 117 _ rfl]; exact r6 k hk
      refine ss_as ?_
      refine ss_rc rfl ?_
      refine zp_wp_call (mx_takesBack (K := F.1) (c := 0) (A := I 114) (by rw [hr8 114 (by decide)]; exact k7) (by decide) r8) ?_
      rintro _ τ ⟨I9, rfl, f9, k9⟩
      rw [kW_back mo2] at k9
      refine ss_as ?_
      refine ss_rc rfl ?_
      refine ss_call (mx_good _) ?_
      refine ss_bret ?_
      refine ss_cl ?_
      refine CL.fin ?_ rfl
      have row9 : ∀ a k, a ≠ 114 → a ≠ 138 → a ≠ 117 → zk_mo a k = false → ¬ (a = 112 ∧ k = 51) → I9 a k = I5 a k := fun a k q1 q2 q3 q4 q5 => by
        rw [f9 a k (by simp [q1]), hr8 a q2, f7 a k q4, f6 a k (by simp [q3])]
        have q6 : ¬ (a = 112 ∧ k = 52) := fun e => by obtain ⟨rfl, rfl⟩ := e; cases q4
        by_cases ha : a = 112
        · subst ha
          rw [zu_k (by omega), zu_k (by omega)]
        · rw [zu_a ha, zu_a ha]
      have f9' : zf zk_e2 I5 (sf_u2 I9 112 0 0) := by
        refine zf_u2 (fun a k q => ?_) rfl
        have q' : a ≠ 114 ∧ a ≠ 138 ∧ a ≠ 117 ∧ zk_sc a k = false ∧ ¬ (a = 112 ∧ k = 51) := by
          unfold zk_e2 zk_dm at q
          simp only [Bool.or_eq_false_iff, Bool.and_eq_false_imp, beq_iff_eq, beq_eq_false_iff_ne] at q
          refine ⟨by omega, by omega, fun e => ?_, q.1.1.1.1.1.1, fun e => q.2 e.1 e.2⟩
          have := q.1.1.1.1.1.1
          rw [e] at this; cases this
        refine row9 a k q'.1 q'.2.1 q'.2.2.1 ?_ q'.2.2.2.2
        cases hz : zk_mo a k with
        | false => rfl
        | true =>
          exfalso
          unfold zk_mo at hz
          simp only [Bool.or_eq_true, Bool.and_eq_true, beq_iff_eq] at hz
          rcases hz with (hz | hz) | hz
          · have := zk_sm2 a k hz; rw [q'.2.2.2.1] at this; cases this
          · exact q'.1 hz
          · have := q'.2.2.2.1; rw [hz.1, hz.2] at this; cases this
      have e51 : sf_u2 I9 112 0 0 112 51 = 1 := by
        rw [zu_k (by decide), f9 112 51 rfl, hr8 112 (by decide), f7 112 51 rfl, f6 112 51 rfl, zu_eq]
      have small : ∀ k, k = 6 ∨ k = 13 ∨ k = 14 ∨ k = 40 ∨ k = 43 → sf_u2 I9 112 0 0 112 k = I 112 k := fun k hk => by
        rw [zu_k (by omega), row9 112 k (by decide) (by decide) (by decide) (by rcases hk with rfl | rfl | rfl | rfl | rfl <;> rfl) (by omega), f5 112 k (by rcases hk with rfl | rfl | rfl | rfl | rfl <;> rfl)]
      refine INV_mk2 (I1 := I5) hI f5 hC5 hL5 a5 f9' (by rw [zu_r (by decide)]; exact k9) ?_ ?_ l3 (Or.inl (zi_leL (a := 0) (by omega) (by omega))) ⟨tn, htn, ?_, ?_⟩ ?_ ?_ ?_ ?_ ?_
      · refine mx_lg_fr (small 40 (by omega)) ?_ l2
        funext k
        rw [zu_a (by decide), row9 133 k (by decide) (by decide) (by decide) rfl (fun e => absurd e.1 (by decide)), f5 133 k rfl]
      · refine an_l (I := I9) (fun k => ?_) (an_acc 112 0 113 (by decide) (zi_leL (a := 0) (by omega) (by omega)))
        exact (row9 113 k (by decide) (by decide) (by decide) rfl (fun e => absurd e.1 (by decide))).symm
      · rw [h595]; exact tn1
      · rw [small 13 (by omega)]; exact tn2
      · rw [h50 9 (by omega), small 14 (by omega)]; exact g3
      · rw [h50 10 (by omega), small 43 (by omega)]; exact g4
      · rw [h50 11 (by omega), small 6 (by omega)]; exact g5
      · rw [h508, e51]
      · intro k hk
        have e138 : ∀ k, sf_u2 I9 112 0 0 138 k = I8 138 k := fun k => by rw [zu_a (by decide), f9 138 k rfl]
        rw [h5110, e138]
        obtain ⟨p0, p1, p2, p3⟩ := h110
        obtain ⟨s0, s1, s2, s3⟩ := h138
        have : k = 0 ∨ k = 1 ∨ k = 2 ∨ k = 3 := by omega
        rcases this with rfl | rfl | rfl | rfl
        · rw [p0, s0]
        · rw [p1, s1]
        · rw [p2, s2]
        · rw [p3, s3]
  · refine ss_biF c1 (ss_biF c2 (ss_biF c3 (ss_biF c4 (ss_bret (ss_cr ?_)))))
    have c4' : 60 < n := by (simp only [Int32.le_iff_toInt_le, Int32.lt_iff_toInt_lt, ← Int32.toInt_inj, Int32.toInt_ofNat', Int32.reduceToInt, zi_ix, Int32.toInt_add, Int32.toInt_sub, Int32.toInt_mul, Int32.toInt_neg, zi_bm, zi_bms, zp_in] at *; omega)
    exact bad 1 (by decide) (by decide) (by rw [show zs_in 1 n 60 = false from zs_inF.mpr (Or.inr c4'), Bool.and_false]) rfl
end
