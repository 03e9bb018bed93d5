/-! terms, count. -/
set_option maxRecDepth 20000 in
theorem sf_cstE (l : List Int32) (i : Nat) (hi : i < l.length) (hl : l.length < 100) {σ : sf_St} : sf_cst l (Int32.ofNat i) σ = some (l.getD i 0, σ) := by
  unfold sf_cst
  have e : (Int32.ofNat i).toInt = i := by rw [Int32.toInt_ofNat_of_lt (by omega)]
  rw [e, zi_ixn (by omega), if_pos]
  simp only [Bool.and_eq_true, decide_eq_true_eq]; omega
def sp_terms (K : Nat → Int32) (L : lg_L) (p v : Int32) : Int32 × (Nat → Int32) × lg_L := if zs_term p v = true then (K (sf_ix (if p = 0 then 194 else if p = 1 then 225 else 226)), kS K (sf_ix (if p = 0 then 194 else if p = 1 then 225 else 226)) v, []) else (-1, K, L)
section
variable {t : List (Nat × Nat)} {I : Nat → Nat → Int32} {J : Nat → Nat → Int64} {D : Nat → Nat → Option Nat} {K : Nat → Int32} {L : lg_L}
set_option maxRecDepth 20000 in
theorem cx_term (hO : zr_off I 2 K) (p : Int32) : jx_Office_term (some 2) p (zp_Z t I J D) = some (K (sf_ix (if p = 0 then 194 else if p = 1 then 225 else 226)), zp_Z t I J D) := by
  have o1 : I 3 3 = K 194 := hO.2.2.2.1
  have o2 : I 2 11 = K 225 := hO.2.2.2.2.2.2.2.2.2.1
  have o3 : I 2 12 = K 226 := hO.2.2.2.2.2.2.2.2.2.2.1
  apply zp_wp_eq
  unfold jx_Office_term
  by_cases h0 : p = 0
  · have eT : (if p = 0 then (194 : Int32) else if p = 1 then 225 else 226) = 194 := if_pos h0
    rw [eT]
    (repeat (first | (with_reducible refine ss_ret ?_) | (with_reducible refine ss_bret ?_) | ((with_reducible apply ss_rc); (· first | (with_reducible assumption) | exact rfl)) | ((with_reducible apply ss_pt); (· first | (with_reducible assumption) | exact rfl); (· exact rfl)) | ((with_reducible apply ss_gR); (· first | (with_reducible assumption) | exact rfl); (· (with_reducible assumption))) | ((with_reducible apply ss_gI); (· first | (with_reducible assumption) | exact rfl); (· ((repeat (first | (with_reducible apply zr_e) | ((with_reducible apply zr_a); (· first | decide | omega)) | ((with_reducible apply zr_k); (· omega)) | (with_reducible apply zr_1e) | ((with_reducible apply zr_1a); (· first | decide | omega)))); (first | (with_reducible assumption) | exact rfl)))) | ((with_reducible apply ss_pI); (· first | (with_reducible assumption) | exact rfl)) | ((with_reducible apply ss_aI); (· first | (with_reducible assumption) | exact rfl); (· (repeat (first | (with_reducible assumption) | (with_reducible exact rfl) | (with_reducible apply zn_add) | (with_reducible apply zn_mul) | (with_reducible exact zi_lit2 _)))); (· first | omega | decide); (· decide); (· ((repeat (first | (with_reducible apply zr_e) | ((with_reducible apply zr_a); (· first | decide | omega)) | ((with_reducible apply zr_k); (· omega)) | (with_reducible apply zr_1e) | ((with_reducible apply zr_1a); (· first | decide | omega)))); (first | (with_reducible assumption) | exact rfl)))) | ((with_reducible apply ss_sI); (· first | (with_reducible assumption) | exact rfl); (· (repeat (first | (with_reducible assumption) | (with_reducible exact rfl) | (with_reducible apply zn_add) | (with_reducible apply zn_mul) | (with_reducible exact zi_lit2 _)))); (· first | omega | decide); (· decide)) | ((with_reducible apply ss_len); (· first | (with_reducible assumption) | exact rfl); (· decide)) | (with_reducible refine ss_as ?_) | (with_reducible refine ss_bor ?_) | (with_reducible refine ss_or ?_) | (with_reducible refine ss_bcl ?_) | (with_reducible refine ss_bcr ?_) | (with_reducible refine ss_cl ?_) | (with_reducible refine ss_cr ?_) | (first | ((with_reducible refine ss_biT ?_ ?_); (· first | (with_reducible assumption) | decide)) | ((with_reducible refine ss_biF ?_ ?_); (· first | (with_reducible assumption) | decide)) | ((with_reducible refine ss_iT ?_ ?_); (· first | (with_reducible assumption) | decide)) | ((with_reducible refine ss_iF ?_ ?_); (· first | (with_reducible assumption) | decide))) | ((with_reducible apply ss_pZ); (· first | (with_reducible assumption) | exact rfl); (· first | (with_reducible assumption) | exact Or.inl rfl | exact Or.inr rfl)) | ((with_reducible apply ss_dvL); (· first | (with_reducible assumption) | decide)) | ((with_reducible apply ss_rmL); (· first | (with_reducible assumption) | decide)) | ((with_reducible apply ss_rmI); (· first | (with_reducible assumption) | decide)) | ((with_reducible apply ss_rz1); (· first | (with_reducible assumption) | exact Or.inl rfl | exact Or.inr rfl))))
    exact ⟨rfl, rfl⟩
  · by_cases h1 : p = 1
    · have eT : (if p = 0 then (194 : Int32) else if p = 1 then 225 else 226) = 225 := by rw [if_neg h0, if_pos h1]
      rw [eT]
      (repeat (first | (with_reducible refine ss_ret ?_) | (with_reducible refine ss_bret ?_) | ((with_reducible apply ss_rc); (· first | (with_reducible assumption) | exact rfl)) | ((with_reducible apply ss_pt); (· first | (with_reducible assumption) | exact rfl); (· exact rfl)) | ((with_reducible apply ss_gR); (· first | (with_reducible assumption) | exact rfl); (· (with_reducible assumption))) | ((with_reducible apply ss_gI); (· first | (with_reducible assumption) | exact rfl); (· ((repeat (first | (with_reducible apply zr_e) | ((with_reducible apply zr_a); (· first | decide | omega)) | ((with_reducible apply zr_k); (· omega)) | (with_reducible apply zr_1e) | ((with_reducible apply zr_1a); (· first | decide | omega)))); (first | (with_reducible assumption) | exact rfl)))) | ((with_reducible apply ss_pI); (· first | (with_reducible assumption) | exact rfl)) | ((with_reducible apply ss_aI); (· first | (with_reducible assumption) | exact rfl); (· (repeat (first | (with_reducible assumption) | (with_reducible exact rfl) | (with_reducible apply zn_add) | (with_reducible apply zn_mul) | (with_reducible exact zi_lit2 _)))); (· first | omega | decide); (· decide); (· ((repeat (first | (with_reducible apply zr_e) | ((with_reducible apply zr_a); (· first | decide | omega)) | ((with_reducible apply zr_k); (· omega)) | (with_reducible apply zr_1e) | ((with_reducible apply zr_1a); (· first | decide | omega)))); (first | (with_reducible assumption) | exact rfl)))) | ((with_reducible apply ss_sI); (· first | (with_reducible assumption) | exact rfl); (· (repeat (first | (with_reducible assumption) | (with_reducible exact rfl) | (with_reducible apply zn_add) | (with_reducible apply zn_mul) | (with_reducible exact zi_lit2 _)))); (· first | omega | decide); (· decide)) | ((with_reducible apply ss_len); (· first | (with_reducible assumption) | exact rfl); (· decide)) | (with_reducible refine ss_as ?_) | (with_reducible refine ss_bor ?_) | (with_reducible refine ss_or ?_) | (with_reducible refine ss_bcl ?_) | (with_reducible refine ss_bcr ?_) | (with_reducible refine ss_cl ?_) | (with_reducible refine ss_cr ?_) | (first | ((with_reducible refine ss_biT ?_ ?_); (· first | (with_reducible assumption) | decide)) | ((with_reducible refine ss_biF ?_ ?_); (· first | (with_reducible assumption) | decide)) | ((with_reducible refine ss_iT ?_ ?_); (· first | (with_reducible assumption) | decide)) | ((with_reducible refine ss_iF ?_ ?_); (· first | (with_reducible assumption) | decide))) | ((with_reducible apply ss_pZ); (· first | (with_reducible assumption) | exact rfl); (· first | (with_reducible assumption) | exact Or.inl rfl | exact Or.inr rfl)) | ((with_reducible apply ss_dvL); (· first | (with_reducible assumption) | decide)) | ((with_reducible apply ss_rmL); (· first | (with_reducible assumption) | decide)) | ((with_reducible apply ss_rmI); (· first | (with_reducible assumption) | decide)) | ((with_reducible apply ss_rz1); (· first | (with_reducible assumption) | exact Or.inl rfl | exact Or.inr rfl))))
      exact ⟨rfl, rfl⟩
    · have eT : (if p = 0 then (194 : Int32) else if p = 1 then 225 else 226) = 226 := by rw [if_neg h0, if_neg h1]
      rw [eT]
      (repeat (first | (with_reducible refine ss_ret ?_) | (with_reducible refine ss_bret ?_) | ((with_reducible apply ss_rc); (· first | (with_reducible assumption) | exact rfl)) | ((with_reducible apply ss_pt); (· first | (with_reducible assumption) | exact rfl); (· exact rfl)) | ((with_reducible apply ss_gR); (· first | (with_reducible assumption) | exact rfl); (· (with_reducible assumption))) | ((with_reducible apply ss_gI); (· first | (with_reducible assumption) | exact rfl); (· ((repeat (first | (with_reducible apply zr_e) | ((with_reducible apply zr_a); (· first | decide | omega)) | ((with_reducible apply zr_k); (· omega)) | (with_reducible apply zr_1e) | ((with_reducible apply zr_1a); (· first | decide | omega)))); (first | (with_reducible assumption) | exact rfl)))) | ((with_reducible apply ss_pI); (· first | (with_reducible assumption) | exact rfl)) | ((with_reducible apply ss_aI); (· first | (with_reducible assumption) | exact rfl); (· (repeat (first | (with_reducible assumption) | (with_reducible exact rfl) | (with_reducible apply zn_add) | (with_reducible apply zn_mul) | (with_reducible exact zi_lit2 _)))); (· first | omega | decide); (· decide); (· ((repeat (first | (with_reducible apply zr_e) | ((with_reducible apply zr_a); (· first | decide | omega)) | ((with_reducible apply zr_k); (· omega)) | (with_reducible apply zr_1e) | ((with_reducible apply zr_1a); (· first | decide | omega)))); (first | (with_reducible assumption) | exact rfl)))) | ((with_reducible apply ss_sI); (· first | (with_reducible assumption) | exact rfl); (· (repeat (first | (with_reducible assumption) | (with_reducible exact rfl) | (with_reducible apply zn_add) | (with_reducible apply zn_mul) | (with_reducible exact zi_lit2 _)))); (· first | omega | decide); (· decide)) | ((with_reducible apply ss_len); (· first | (with_reducible assumption) | exact rfl); (· decide)) | (with_reducible refine ss_as ?_) | (with_reducible refine ss_bor ?_) | (with_reducible refine ss_or ?_) | (with_reducible refine ss_bcl ?_) | (with_reducible refine ss_bcr ?_) | (with_reducible refine ss_cl ?_) | (with_reducible refine ss_cr ?_) | (first | ((with_reducible refine ss_biT ?_ ?_); (· first | (with_reducible assumption) | decide)) | ((with_reducible refine ss_biF ?_ ?_); (· first | (with_reducible assumption) | decide)) | ((with_reducible refine ss_iT ?_ ?_); (· first | (with_reducible assumption) | decide)) | ((with_reducible refine ss_iF ?_ ?_); (· first | (with_reducible assumption) | decide))) | ((with_reducible apply ss_pZ); (· first | (with_reducible assumption) | exact rfl); (· first | (with_reducible assumption) | exact Or.inl rfl | exact Or.inr rfl)) | ((with_reducible apply ss_dvL); (· first | (with_reducible assumption) | decide)) | ((with_reducible apply ss_rmL); (· first | (with_reducible assumption) | decide)) | ((with_reducible apply ss_rmI); (· first | (with_reducible assumption) | decide)) | ((with_reducible apply ss_rz1); (· first | (with_reducible assumption) | exact Or.inl rfl | exact Or.inr rfl))))
      exact ⟨rfl, rfl⟩
set_option maxRecDepth 20000 in
theorem cx_clear : jx_Log_clear (some 20) (zp_Z t I J D) = some ((), zp_Z t (sf_u2 (sf_u2 I 20 2 0) 20 3 0) J D) := by
  apply zp_wp_eq
  unfold jx_Log_clear
  (repeat (first | (with_reducible refine ss_ret ?_) | (with_reducible refine ss_bret ?_) | ((with_reducible apply ss_rc); (· first | (with_reducible assumption) | exact rfl)) | ((with_reducible apply ss_pt); (· first | (with_reducible assumption) | exact rfl); (· exact rfl)) | ((with_reducible apply ss_gR); (· first | (with_reducible assumption) | exact rfl); (· (with_reducible assumption))) | ((with_reducible apply ss_gI); (· first | (with_reducible assumption) | exact rfl); (· ((repeat (first | (with_reducible apply zr_e) | ((with_reducible apply zr_a); (· first | decide | omega)) | ((with_reducible apply zr_k); (· omega)) | (with_reducible apply zr_1e) | ((with_reducible apply zr_1a); (· first | decide | omega)))); (first | (with_reducible assumption) | exact rfl)))) | ((with_reducible apply ss_pI); (· first | (with_reducible assumption) | exact rfl)) | ((with_reducible apply ss_aI); (· first | (with_reducible assumption) | exact rfl); (· (repeat (first | (with_reducible assumption) | (with_reducible exact rfl) | (with_reducible apply zn_add) | (with_reducible apply zn_mul) | (with_reducible exact zi_lit2 _)))); (· first | omega | decide); (· decide); (· ((repeat (first | (with_reducible apply zr_e) | ((with_reducible apply zr_a); (· first | decide | omega)) | ((with_reducible apply zr_k); (· omega)) | (with_reducible apply zr_1e) | ((with_reducible apply zr_1a); (· first | decide | omega)))); (first | (with_reducible assumption) | exact rfl)))) | ((with_reducible apply ss_sI); (· first | (with_reducible assumption) | exact rfl); (· (repeat (first | (with_reducible assumption) | (with_reducible exact rfl) | (with_reducible apply zn_add) | (with_reducible apply zn_mul) | (with_reducible exact zi_lit2 _)))); (· first | omega | decide); (· decide)) | ((with_reducible apply ss_len); (· first | (with_reducible assumption) | exact rfl); (· decide)) | (with_reducible refine ss_as ?_) | (with_reducible refine ss_bor ?_) | (with_reducible refine ss_or ?_) | (with_reducible refine ss_bcl ?_) | (with_reducible refine ss_bcr ?_) | (with_reducible refine ss_cl ?_) | (with_reducible refine ss_cr ?_) | (first | ((with_reducible refine ss_biT ?_ ?_); (· first | (with_reducible assumption) | decide)) | ((with_reducible refine ss_biF ?_ ?_); (· first | (with_reducible assumption) | decide)) | ((with_reducible refine ss_iT ?_ ?_); (· first | (with_reducible assumption) | decide)) | ((with_reducible refine ss_iF ?_ ?_); (· first | (with_reducible assumption) | decide))) | ((with_reducible apply ss_pZ); (· first | (with_reducible assumption) | exact rfl); (· first | (with_reducible assumption) | exact Or.inl rfl | exact Or.inr rfl)) | ((with_reducible apply ss_dvL); (· first | (with_reducible assumption) | decide)) | ((with_reducible apply ss_rmL); (· first | (with_reducible assumption) | decide)) | ((with_reducible apply ss_rmI); (· first | (with_reducible assumption) | decide)) | ((with_reducible apply ss_rz1); (· first | (with_reducible assumption) | exact Or.inl rfl | exact Or.inr rfl))))
  exact ⟨rfl, rfl⟩
set_option maxRecDepth 20000 in
theorem cx_lg_nil {I' : Nat → Nat → Int32} (h2 : I' 20 2 = 0) (h3 : I' 20 3 = 0) : cx_lg 20 I' [] := ⟨by decide, h3, 0, by decide, h2, fun i e hi => by cases hi⟩
set_option maxRecDepth 20000 in
/-- what the class does with a good term -/
theorem cx_setTerm (hC : zr_cl t I D K) {p v : Int32} (h : zs_term p v = true) : zp_wp (jx_Office_setTerm (some 2) p v) (fun _ τ => ∃ I', τ = zp_Z t I' J D ∧ zf (fun a _ => a == 2 || a == 3) I I' ∧ zr_cl t I' D (kS K (sf_ix (if p = 0 then 194 else if p = 1 then 225 else 226)) v)) (zp_Z t I J D) := by
  have hv := zv_term hC.2.1 h
  unfold jx_Office_setTerm
  by_cases h0 : p = 0
  · have eT : (if p = 0 then (194 : Int32) else if p = 1 then 225 else 226) = 194 := if_pos h0
    rw [eT] at hv ⊢
    (repeat (first | (with_reducible refine ss_ret ?_) | (with_reducible refine ss_bret ?_) | ((with_reducible apply ss_rc); (· first | (with_reducible assumption) | exact rfl)) | ((with_reducible apply ss_pt); (· first | (with_reducible assumption) | exact rfl); (· exact rfl)) | ((with_reducible apply ss_gR); (· first | (with_reducible assumption) | exact rfl); (· (with_reducible assumption))) | ((with_reducible apply ss_gI); (· first | (with_reducible assumption) | exact rfl); (· ((repeat (first | (with_reducible apply zr_e) | ((with_reducible apply zr_a); (· first | decide | omega)) | ((with_reducible apply zr_k); (· omega)) | (with_reducible apply zr_1e) | ((with_reducible apply zr_1a); (· first | decide | omega)))); (first | (with_reducible assumption) | exact rfl)))) | ((with_reducible apply ss_pI); (· first | (with_reducible assumption) | exact rfl)) | ((with_reducible apply ss_aI); (· first | (with_reducible assumption) | exact rfl); (· (repeat (first | (with_reducible assumption) | (with_reducible exact rfl) | (with_reducible apply zn_add) | (with_reducible apply zn_mul) | (with_reducible exact zi_lit2 _)))); (· first | omega | decide); (· decide); (· ((repeat (first | (with_reducible apply zr_e) | ((with_reducible apply zr_a); (· first | decide | omega)) | ((with_reducible apply zr_k); (· omega)) | (with_reducible apply zr_1e) | ((with_reducible apply zr_1a); (· first | decide | omega)))); (first | (with_reducible assumption) | exact rfl)))) | ((with_reducible apply ss_sI); (· first | (with_reducible assumption) | exact rfl); (· (repeat (first | (with_reducible assumption) | (with_reducible exact rfl) | (with_reducible apply zn_add) | (with_reducible apply zn_mul) | (with_reducible exact zi_lit2 _)))); (· first | omega | decide); (· decide)) | ((with_reducible apply ss_len); (· first | (with_reducible assumption) | exact rfl); (· decide)) | (with_reducible refine ss_as ?_) | (with_reducible refine ss_bor ?_) | (with_reducible refine ss_or ?_) | (with_reducible refine ss_bcl ?_) | (with_reducible refine ss_bcr ?_) | (with_reducible refine ss_cl ?_) | (with_reducible refine ss_cr ?_) | (first | ((with_reducible refine ss_biT ?_ ?_); (· first | (with_reducible assumption) | decide)) | ((with_reducible refine ss_biF ?_ ?_); (· first | (with_reducible assumption) | decide)) | ((with_reducible refine ss_iT ?_ ?_); (· first | (with_reducible assumption) | decide)) | ((with_reducible refine ss_iF ?_ ?_); (· first | (with_reducible assumption) | decide))) | ((with_reducible apply ss_pZ); (· first | (with_reducible assumption) | exact rfl); (· first | (with_reducible assumption) | exact Or.inl rfl | exact Or.inr rfl)) | ((with_reducible apply ss_dvL); (· first | (with_reducible assumption) | decide)) | ((with_reducible apply ss_rmL); (· first | (with_reducible assumption) | decide)) | ((with_reducible apply ss_rmI); (· first | (with_reducible assumption) | decide)) | ((with_reducible apply ss_rz1); (· first | (with_reducible assumption) | exact Or.inl rfl | exact Or.inr rfl))))
    refine ⟨_, rfl, zf_u2 (zf_refl _ _) rfl, ?_⟩
    refine zr_cl_term (a := 3) (k := 3) (j := 194) hC (by decide) zu_eq (fun x y hx hxy => ?_) hv
    by_cases e : x = 3
    · subst e; exact zu_k (by omega)
    · exact zu_a e
  · by_cases h1 : p = 1
    · have eT : (if p = 0 then (194 : Int32) else if p = 1 then 225 else 226) = 225 := by rw [if_neg h0, if_pos h1]
      rw [eT] at hv ⊢
      (repeat (first | (with_reducible refine ss_ret ?_) | (with_reducible refine ss_bret ?_) | ((with_reducible apply ss_rc); (· first | (with_reducible assumption) | exact rfl)) | ((with_reducible apply ss_pt); (· first | (with_reducible assumption) | exact rfl); (· exact rfl)) | ((with_reducible apply ss_gR); (· first | (with_reducible assumption) | exact rfl); (· (with_reducible assumption))) | ((with_reducible apply ss_gI); (· first | (with_reducible assumption) | exact rfl); (· ((repeat (first | (with_reducible apply zr_e) | ((with_reducible apply zr_a); (· first | decide | omega)) | ((with_reducible apply zr_k); (· omega)) | (with_reducible apply zr_1e) | ((with_reducible apply zr_1a); (· first | decide | omega)))); (first | (with_reducible assumption) | exact rfl)))) | ((with_reducible apply ss_pI); (· first | (with_reducible assumption) | exact rfl)) | ((with_reducible apply ss_aI); (· first | (with_reducible assumption) | exact rfl); (· (repeat (first | (with_reducible assumption) | (with_reducible exact rfl) | (with_reducible apply zn_add) | (with_reducible apply zn_mul) | (with_reducible exact zi_lit2 _)))); (· first | omega | decide); (· decide); (· ((repeat (first | (with_reducible apply zr_e) | ((with_reducible apply zr_a); (· first | decide | omega)) | ((with_reducible apply zr_k); (· omega)) | (with_reducible apply zr_1e) | ((with_reducible apply zr_1a); (· first | decide | omega)))); (first | (with_reducible assumption) | exact rfl)))) | ((with_reducible apply ss_sI); (· first | (with_reducible assumption) | exact rfl); (· (repeat (first | (with_reducible assumption) | (with_reducible exact rfl) | (with_reducible apply zn_add) | (with_reducible apply zn_mul) | (with_reducible exact zi_lit2 _)))); (· first | omega | decide); (· decide)) | ((with_reducible apply ss_len); (· first | (with_reducible assumption) | exact rfl); (· decide)) | (with_reducible refine ss_as ?_) | (with_reducible refine ss_bor ?_) | (with_reducible refine ss_or ?_) | (with_reducible refine ss_bcl ?_) | (with_reducible refine ss_bcr ?_) | (with_reducible refine ss_cl ?_) | (with_reducible refine ss_cr ?_) | (first | ((with_reducible refine ss_biT ?_ ?_); (· first | (with_reducible assumption) | decide)) | ((with_reducible refine ss_biF ?_ ?_); (· first | (with_reducible assumption) | decide)) | ((with_reducible refine ss_iT ?_ ?_); (· first | (with_reducible assumption) | decide)) | ((with_reducible refine ss_iF ?_ ?_); (· first | (with_reducible assumption) | decide))) | ((with_reducible apply ss_pZ); (· first | (with_reducible assumption) | exact rfl); (· first | (with_reducible assumption) | exact Or.inl rfl | exact Or.inr rfl)) | ((with_reducible apply ss_dvL); (· first | (with_reducible assumption) | decide)) | ((with_reducible apply ss_rmL); (· first | (with_reducible assumption) | decide)) | ((with_reducible apply ss_rmI); (· first | (with_reducible assumption) | decide)) | ((with_reducible apply ss_rz1); (· first | (with_reducible assumption) | exact Or.inl rfl | exact Or.inr rfl))))
      refine ⟨_, rfl, zf_u2 (zf_refl _ _) rfl, ?_⟩
      refine zr_cl_term (a := 2) (k := 11) (j := 225) hC (by decide) zu_eq (fun x y hx hxy => ?_) hv
      by_cases e : x = 2
      · subst e; exact zu_k (by omega)
      · exact zu_a e
    · have eT : (if p = 0 then (194 : Int32) else if p = 1 then 225 else 226) = 226 := by rw [if_neg h0, if_neg h1]
      rw [eT] at hv ⊢
      (repeat (first | (with_reducible refine ss_ret ?_) | (with_reducible refine ss_bret ?_) | ((with_reducible apply ss_rc); (· first | (with_reducible assumption) | exact rfl)) | ((with_reducible apply ss_pt); (· first | (with_reducible assumption) | exact rfl); (· exact rfl)) | ((with_reducible apply ss_gR); (· first | (with_reducible assumption) | exact rfl); (· (with_reducible assumption))) | ((with_reducible apply ss_gI); (· first | (with_reducible assumption) | exact rfl); (· ((repeat (first | (with_reducible apply zr_e) | ((with_reducible apply zr_a); (· first | decide | omega)) | ((with_reducible apply zr_k); (· omega)) | (with_reducible apply zr_1e) | ((with_reducible apply zr_1a); (· first | decide | omega)))); (first | (with_reducible assumption) | exact rfl)))) | ((with_reducible apply ss_pI); (· first | (with_reducible assumption) | exact rfl)) | ((with_reducible apply ss_aI); (· first | (with_reducible assumption) | exact rfl); (· (repeat (first | (with_reducible assumption) | (with_reducible exact rfl) | (with_reducible apply zn_add) | (with_reducible apply zn_mul) | (with_reducible exact zi_lit2 _)))); (· first | omega | decide); (· decide); (· ((repeat (first | (with_reducible apply zr_e) | ((with_reducible apply zr_a); (· first | decide | omega)) | ((with_reducible apply zr_k); (· omega)) | (with_reducible apply zr_1e) | ((with_reducible apply zr_1a); (· first | decide | omega)))); (first | (with_reducible assumption) | exact rfl)))) | ((with_reducible apply ss_sI); (· first | (with_reducible assumption) | exact rfl); (· (repeat (first | (with_reducible assumption) | (with_reducible exact rfl) | (with_reducible apply zn_add) | (with_reducible apply zn_mul) | (with_reducible exact zi_lit2 _)))); (· first | omega | decide); (· decide)) | ((with_reducible apply ss_len); (· first | (with_reducible assumption) | exact rfl); (· decide)) | (with_reducible refine ss_as ?_) | (with_reducible refine ss_bor ?_) | (with_reducible refine ss_or ?_) | (with_reducible refine ss_bcl ?_) | (with_reducible refine ss_bcr ?_) | (with_reducible refine ss_cl ?_) | (with_reducible refine ss_cr ?_) | (first | ((with_reducible refine ss_biT ?_ ?_); (· first | (with_reducible assumption) | decide)) | ((with_reducible refine ss_biF ?_ ?_); (· first | (with_reducible assumption) | decide)) | ((with_reducible refine ss_iT ?_ ?_); (· first | (with_reducible assumption) | decide)) | ((with_reducible refine ss_iF ?_ ?_); (· first | (with_reducible assumption) | decide))) | ((with_reducible apply ss_pZ); (· first | (with_reducible assumption) | exact rfl); (· first | (with_reducible assumption) | exact Or.inl rfl | exact Or.inr rfl)) | ((with_reducible apply ss_dvL); (· first | (with_reducible assumption) | decide)) | ((with_reducible apply ss_rmL); (· first | (with_reducible assumption) | decide)) | ((with_reducible apply ss_rmI); (· first | (with_reducible assumption) | decide)) | ((with_reducible apply ss_rz1); (· first | (with_reducible assumption) | exact Or.inl rfl | exact Or.inr rfl))))
      refine ⟨_, rfl, zf_u2 (zf_refl _ _) rfl, ?_⟩
      refine zr_cl_term (a := 2) (k := 12) (j := 226) hC (by decide) zu_eq (fun x y hx hxy => ?_) hv
      by_cases e : x = 2
      · subst e; exact zu_k (by omega)
      · exact zu_a e
set_option maxRecDepth 20000 in
theorem ar_terms (hv : zv K) (p v : Int32) : ar_ok (sp_terms K L p v).1 := by
  unfold sp_terms
  split
  · left
    show 0 ≤ K (sf_ix (if p = 0 then 194 else if p = 1 then 225 else 226))
    by_cases h0 : p = 0
    · rw [if_pos h0]; exact hv.2.2.2.1.1
    · by_cases h1 : p = 1
      · rw [if_neg h0, if_pos h1]; exact hv.2.2.2.2.2.2.1.1
      · rw [if_neg h0, if_neg h1]; exact hv.2.2.2.2.2.2.2.1.1
  · exact ar_neg 1 (by decide) (by decide)
set_option maxRecDepth 20000 in
theorem zs_term_lim {p v : Int32} {m : Nat} (hp : p = Int32.ofNat m) (hm : m < 3) : zs_term p v = zs_in 0 v ([999, 10, 9].getD m 0) := by
  subst hp
  have : m = 0 ∨ m = 1 ∨ m = 2 := by omega
  rcases this with rfl | rfl | rfl
  · show (_ || _ || _) = zs_in 0 v 999
    have a1 : (Int32.ofNat 0 = 0) := rfl
    have a2 : ¬ (Int32.ofNat 0 = 1) := by decide
    have a3 : ¬ (Int32.ofNat 0 = 2) := by decide
    rw [decide_eq_true a1, decide_eq_false a2, decide_eq_false a3]; simp
  · show (_ || _ || _) = zs_in 0 v 10
    have a1 : ¬ (Int32.ofNat 1 = 0) := by decide
    have a2 : (Int32.ofNat 1 = 1) := by decide
    have a3 : ¬ (Int32.ofNat 1 = 2) := by decide
    rw [decide_eq_false a1, decide_eq_true a2, decide_eq_false a3]; simp
  · show (_ || _ || _) = zs_in 0 v 9
    have a1 : ¬ (Int32.ofNat 2 = 0) := by decide
    have a2 : ¬ (Int32.ofNat 2 = 1) := by decide
    have a3 : (Int32.ofNat 2 = 2) := by decide
    rw [decide_eq_false a1, decide_eq_false a2, decide_eq_true a3]; simp
set_option maxRecDepth 20000 in
theorem zs_term_not {p v : Int32} (h : ¬ (0 ≤ p ∧ p < 3)) : zs_term p v = false := by
  unfold zs_term
  have h1 : ¬ p = 0 := fun e => h (by subst e; decide)
  have h2 : ¬ p = 1 := fun e => h (by subst e; decide)
  have h3 : ¬ p = 2 := fun e => h (by subst e; decide)
  simp [h1, h2, h3]
set_option maxRecDepth 20000 in
/-- case 5 -/
theorem CL_terms (p v : Int32) : CL (jx_SF_terms (some 0) p v) (jx_Mo_terms (some 112) p v) := by
  refine CL.deed (fun t I J D L h l1 l2 l3 => ⟨(sp_terms (I 114) L p v).1, (sp_terms (I 114) L p v).2.1, (sp_terms (I 114) L p v).2.2, ar_terms h.1.2.1 p v, ?_, ?_, ?_⟩)
  · unfold sp_terms
    split
    · exact fun e he => by cases he
    · exact l3
  · have hbad : zs_term p v = false → zp_wp (sf_bnd (sf_rc 0 (some 0) (jx_SF_refused (some 0) (-1))) fun x17 => sf_ret x17) (fun w τ => w = (sp_terms (I 114) L p v).1 ∧ ∃ I', τ = zp_Z t I' J D ∧ zf zk_ex I I' ∧ zr_cl t I' D (sp_terms (I 114) L p v).2.1 ∧ cx_lg 20 I' (sp_terms (I 114) L p v).2.2 ∧ an_at 0 12 108 I I' (sp_terms (I 114) L p v).1) (zp_Z t I J D) := by
      intro hb
      have e : sp_terms (I 114) L p v = (-1, I 114, L) := if_neg (by rw [hb]; decide)
      rw [e]
      refine ss_rc rfl ?_
      refine ss_call (cx_refused (j := 1) (by decide) (by decide)) ?_
      exact ss_ret ⟨rfl, _, rfl, zf_u2 (zf_u2 (zf_refl _ _) rfl) rfl, zr_cl_fr2 (fun a ha => by rw [zu_r (by omega), zu_r (by omega)]) h.1, cx_lg_fr (fun k hk => by rw [zu_a (by decide), zu_a (by decide)]) (fun a q1 q2 => by rw [zu_r (by omega), zu_r (by omega)]) l1, an_ref 0 12 108 (by decide) (by decide) (by decide)⟩
    unfold jx_SF_terms
    refine ss_or ?_
    by_cases c1 : p < 0
    · refine ss_biT c1 ?_
      refine ss_bret ?_
      refine ss_cr ?_
      exact hbad (zs_term_not (fun e => by (simp only [Int32.le_iff_toInt_le, Int32.lt_iff_toInt_lt, ← Int32.toInt_inj, Int32.toInt_ofNat', Int32.reduceToInt, zi_ix, Int32.toInt_add, Int32.toInt_sub, Int32.toInt_mul, Int32.toInt_neg, zi_bm, zi_bms, zp_in] at *; omega)))
    · refine ss_biF c1 ?_
      by_cases c2 : 3 ≤ p
      · refine ss_biT c2 ?_
        refine ss_bret ?_
        refine ss_cr ?_
        exact hbad (zs_term_not (fun e => by (simp only [Int32.le_iff_toInt_le, Int32.lt_iff_toInt_lt, ← Int32.toInt_inj, Int32.toInt_ofNat', Int32.reduceToInt, zi_ix, Int32.toInt_add, Int32.toInt_sub, Int32.toInt_mul, Int32.toInt_neg, zi_bm, zi_bms, zp_in] at *; omega)))
      · refine ss_biF c2 ?_
        obtain ⟨m, hm, rfl⟩ := zi_nat (x := p) (n := 3) (by (simp only [Int32.le_iff_toInt_le, Int32.lt_iff_toInt_lt, ← Int32.toInt_inj, Int32.toInt_ofNat', Int32.reduceToInt, zi_ix, Int32.toInt_add, Int32.toInt_sub, Int32.toInt_mul, Int32.toInt_neg, zi_bm, zi_bms, zp_in] at *; omega)) (by show p < 3; (simp only [Int32.le_iff_toInt_le, Int32.lt_iff_toInt_lt, ← Int32.toInt_inj, Int32.toInt_ofNat', Int32.reduceToInt, zi_ix, Int32.toInt_add, Int32.toInt_sub, Int32.toInt_mul, Int32.toInt_neg, zi_bm, zi_bms, zp_in] at *; omega)) (by omega)
        have hl := zs_term_lim (v := v) rfl hm
        by_cases c3 : v < 0
        · refine ss_biT c3 ?_
          refine ss_bret ?_
          refine ss_cr ?_
          exact hbad (by rw [hl]; exact zs_inF.mpr (Or.inl c3))
        · refine ss_biF c3 ?_
          refine ss_as ?_
          refine ss_call (sf_cstE [999, 10, 9] m (by simpa using hm) (by decide)) ?_
          by_cases c4 : v ≤ [999, 10, 9].getD m 0
          · have hg : zs_term (Int32.ofNat m) v = true := by rw [hl]; exact zs_inT.mpr ⟨by (simp only [Int32.le_iff_toInt_le, Int32.lt_iff_toInt_lt, ← Int32.toInt_inj, Int32.toInt_ofNat', Int32.reduceToInt, zi_ix, Int32.toInt_add, Int32.toInt_sub, Int32.toInt_mul, Int32.toInt_neg, zi_bm, zi_bms, zp_in] at *; omega), c4⟩
            refine ss_biT c4 ?_
            refine ss_as ?_
            refine ss_pt rfl rfl ?_
            refine ss_as ?_
            refine ss_pt rfl rfl ?_
            refine ss_as ?_
            refine ss_rc rfl ?_
            refine ss_call (cx_term h.1.1 _) ?_
            refine ss_as ?_
            refine ss_pt rfl rfl ?_
            refine ss_as ?_
            refine ss_pt rfl rfl ?_
            refine ss_as ?_
            refine ss_rc rfl ?_
            refine zp_wp_call (cx_setTerm h.1 hg) ?_
            rintro _ τ ⟨I1, rfl, f1, c1'⟩
            refine ss_as ?_
            refine ss_pt rfl rfl ?_
            refine ss_as ?_
            refine ss_pt rfl rfl ?_
            refine ss_as ?_
            refine ss_rc rfl ?_
            refine ss_call cx_clear ?_
            refine ss_as ?_
            refine ss_rc rfl ?_
            refine ss_call (cx_accepted _) ?_
            refine ss_bret ?_
            refine ss_cl ?_
            have ha := ar_terms (L := L) h.1.2.1 (Int32.ofNat m) v
            have e : sp_terms (I 114) L (Int32.ofNat m) v = (_, _, _) := if_pos hg
            rw [e]
            have h0 : 0 ≤ I 114 (sf_ix (if Int32.ofNat m = 0 then 194 else if Int32.ofNat m = 1 then 225 else 226)) := by
              have hv : zv (I 114) := h.1.2.1
              split
              · exact hv.2.2.2.1.1
              · split
                · exact hv.2.2.2.2.2.2.1.1
                · exact hv.2.2.2.2.2.2.2.1.1
            refine ⟨rfl, _, rfl, zf_u2 (zf_u2 (zf_u2 (zf_mono f1 ?_) rfl) rfl) rfl, zr_cl_fr2 (fun a ha => by rw [zu_r (by omega), zu_r (by omega), zu_r (by omega)]) c1', cx_lg_nil (by rw [zu_a (by decide), zu_k (by decide), zu_eq]) (by rw [zu_a (by decide), zu_eq]), an_l (I := sf_u2 (sf_u2 I1 20 2 0) 20 3 0) (fun k => ?_) (an_acc 0 12 108 (by decide) h0)⟩
            · intro a k e
              simp only [Bool.or_eq_true, beq_iff_eq] at e
              rcases e with rfl | rfl <;> rfl
            · rw [zu_a (by decide), zu_a (by decide)]; exact (f1 108 k rfl).symm
          · refine ss_biF c4 ?_
            refine ss_bret ?_
            refine ss_cr ?_
            exact hbad (by rw [hl]; exact zs_inF.mpr (Or.inr (by (simp only [Int32.le_iff_toInt_le, Int32.lt_iff_toInt_lt, ← Int32.toInt_inj, Int32.toInt_ofNat', Int32.reduceToInt, zi_ix, Int32.toInt_add, Int32.toInt_sub, Int32.toInt_mul, Int32.toInt_neg, zi_bm, zi_bms, zp_in] at *; omega))))
  · intro I1 e1 m1 _
    have ht := ze_isTerm p v
    have hat := ze_termAt p
    unfold jx_Mo_terms
    refine ss_pure ht ?_
    have ha := ar_terms (L := L) h.1.2.1 p v
    cases hg : zs_term p v with
    | false =>
      have e : sp_terms (I 114) L p v = (-1, I 114, L) := if_neg (by rw [hg]; decide)
      rw [e]
      refine ss_iT rfl ?_
      refine ss_rc rfl ?_
      refine ss_call (mx_refuses (j := 1) (by decide) (by decide)) ?_
      refine ss_ret ⟨rfl, _, rfl, zf_u2 (zf_u2 (zf_refl _ _) rfl) rfl, ?_, mx_lg_fr (by rw [zu_a (by decide), zu_k (by decide)]) (by rw [zu_r (by decide), zu_r (by decide)]) m1, an_ref 112 0 113 (by decide) (by decide) (by decide)⟩
      rw [zu_r (by decide), zu_r (by decide)]; exact e1
    | true =>
      have e : sp_terms (I 114) L p v = (_, _, _) := if_pos hg
      have h0 : 0 ≤ I 114 (sf_ix (if p = 0 then 194 else if p = 1 then 225 else 226)) := by
        have hv : zv (I 114) := h.1.2.1
        split
        · exact hv.2.2.2.1.1
        · split
          · exact hv.2.2.2.2.2.2.1.1
          · exact hv.2.2.2.2.2.2.2.1.1
      rw [e]
      obtain ⟨n, hn, en⟩ : ∃ n, n < 5838 ∧ (if p = 0 then (194 : Int32) else if p = 1 then 225 else 226) = Int32.ofNat n := by
        split
        · exact ⟨194, by decide, rfl⟩
        · split
          · exact ⟨225, by decide, rfl⟩
          · exact ⟨226, by decide, rfl⟩
      refine ss_iF (by decide) ?_
      refine ss_pt rfl rfl ?_
      refine ss_pure hat ?_
      rw [en] at h0 ⊢
      rw [zi_ixn (by omega)] at h0 ⊢
      refine ss_aI (n := 5838) rfl rfl hn (by decide) (show I1 114 n = I 114 n by rw [e1]) ?_
      refine ss_pt rfl rfl ?_
      refine ss_pure hat ?_
      rw [en]
      refine ss_sI (n := 5838) rfl rfl hn (by decide) ?_
      refine ss_rc rfl ?_
      unfold jx_Mo_settled
      refine ss_as ?_
      refine ss_pI rfl ?_
      refine ss_as ?_
      refine ss_rc rfl ?_
      refine ss_call (mx_good _) ?_
      refine ss_bret ?_
      refine ss_ret ⟨rfl, _, rfl, zf_u2 (zf_u2 (zf_u2 (zf_refl _ _) rfl) rfl) rfl, ?_, ⟨by show (0 : Nat) ≤ 16; decide, ?_, fun i e hi => by cases hi⟩, an_l (I := sf_u2 (sf_u2 I1 114 n v) 112 40 0) (fun k => ?_) (an_acc 112 0 113 (by decide) h0)⟩
      · rw [zu_r (by decide), zu_r (by decide)]; exact kS_u e1
      · rw [zu_k (by decide), zu_eq]; rfl
      · rw [zu_a (by decide), zu_a (by decide)]
end
