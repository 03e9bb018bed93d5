section
variable {t : List (Nat × Nat)} {I : Nat → Nat → Int32} {J : Nat → Nat → Int64} {D : Nat → Nat → Option Nat} {K : Nat → Int32} {L : lg_L}
set_option maxRecDepth 20000 in
/-- case 7 -/
theorem CL_end (n : Int32) : CL (jx_SF_end (some 0) n) (jx_Mo_end (some 112) n) := by
  intro t I J D h
  obtain ⟨⟨m, hm, m1, m2⟩, hb⟩ := h.2.2.2.1
  have hl := ze_lies n 0 (Int32.ofNat m)
  unfold jx_SF_end jx_Mo_end
  by_cases e : n < 0
  · have hi : zs_in 0 n (Int32.ofNat m) = false := zs_inF.mpr (Or.inl e)
    rw [hi] at hl
    have hz : zb false = 0 := rfl
    repeat (first | (first | (with_reducible refine ss_ret ?_) | (with_reducible refine ss_bret ?_) | ((with_reducible apply ss_rc); (· first | (with_reducible assumption) | exact rfl)) | ((with_reducible apply ss_pt); (· first | (with_reducible assumption) | exact rfl); (· exact rfl)) | ((with_reducible apply ss_gR); (· first | (with_reducible assumption) | exact rfl); (· (with_reducible assumption))) | ((with_reducible apply ss_gI); (· first | (with_reducible assumption) | exact rfl); (· ((repeat (first | (with_reducible apply zr_e) | ((with_reducible apply zr_a); (· first | decide | omega)) | ((with_reducible apply zr_k); (· omega)) | (with_reducible apply zr_1e) | ((with_reducible apply zr_1a); (· first | decide | omega)))); (first | (with_reducible assumption) | exact rfl)))) | ((with_reducible apply ss_pI); (· first | (with_reducible assumption) | exact rfl)) | ((with_reducible apply ss_aI); (· first | (with_reducible assumption) | exact rfl); (· (repeat (first | (with_reducible assumption) | (with_reducible exact rfl) | (with_reducible apply zn_add) | (with_reducible apply zn_mul) | (with_reducible exact zi_lit2 _)))); (· first | omega | decide); (· decide); (· ((repeat (first | (with_reducible apply zr_e) | ((with_reducible apply zr_a); (· first | decide | omega)) | ((with_reducible apply zr_k); (· omega)) | (with_reducible apply zr_1e) | ((with_reducible apply zr_1a); (· first | decide | omega)))); (first | (with_reducible assumption) | exact rfl)))) | ((with_reducible apply ss_sI); (· first | (with_reducible assumption) | exact rfl); (· (repeat (first | (with_reducible assumption) | (with_reducible exact rfl) | (with_reducible apply zn_add) | (with_reducible apply zn_mul) | (with_reducible exact zi_lit2 _)))); (· first | omega | decide); (· decide)) | ((with_reducible apply ss_len); (· first | (with_reducible assumption) | exact rfl); (· decide)) | (with_reducible refine ss_as ?_) | (with_reducible refine ss_bor ?_) | (with_reducible refine ss_or ?_) | (with_reducible refine ss_bcl ?_) | (with_reducible refine ss_bcr ?_) | (with_reducible refine ss_cl ?_) | (with_reducible refine ss_cr ?_) | (first | ((with_reducible refine ss_biT ?_ ?_); (· first | (with_reducible assumption) | decide)) | ((with_reducible refine ss_biF ?_ ?_); (· first | (with_reducible assumption) | decide)) | ((with_reducible refine ss_iT ?_ ?_); (· first | (with_reducible assumption) | decide)) | ((with_reducible refine ss_iF ?_ ?_); (· first | (with_reducible assumption) | decide))) | ((with_reducible apply ss_pZ); (· first | (with_reducible assumption) | exact rfl); (· first | (with_reducible assumption) | exact Or.inl rfl | exact Or.inr rfl)) | ((with_reducible apply ss_dvL); (· first | (with_reducible assumption) | decide)) | ((with_reducible apply ss_rmL); (· first | (with_reducible assumption) | decide)) | ((with_reducible apply ss_rmI); (· first | (with_reducible assumption) | decide)) | ((with_reducible apply ss_rz1); (· first | (with_reducible assumption) | exact Or.inl rfl | exact Or.inr rfl))) | (with_reducible refine ss_pure hl ?_))
    exact CL.fin h rfl
  · by_cases e2 : n ≤ Int32.ofNat m
    · have hi : zs_in 0 n (Int32.ofNat m) = true := zs_inT.mpr ⟨by (simp only [Int32.le_iff_toInt_le, Int32.lt_iff_toInt_lt, ← Int32.toInt_inj, Int32.toInt_ofNat', Int32.reduceToInt, zi_ix, Int32.toInt_add, Int32.toInt_sub, Int32.toInt_mul, Int32.toInt_neg, zi_bm, zi_bms, zp_in] at *; omega), e2⟩
      obtain ⟨k, hk, rfl⟩ := zs_in_T (by omega) hi
      rw [hi] at hl
      have hz : ¬ zb true = 0 := by decide
      have m2' : sf_u2 I 95 1 (Int32.ofNat k) 112 13 = Int32.ofNat m := by rw [zu_a (by decide)]; exact m2
      repeat (first | (first | (with_reducible refine ss_ret ?_) | (with_reducible refine ss_bret ?_) | ((with_reducible apply ss_rc); (· first | (with_reducible assumption) | exact rfl)) | ((with_reducible apply ss_pt); (· first | (with_reducible assumption) | exact rfl); (· exact rfl)) | ((with_reducible apply ss_gR); (· first | (with_reducible assumption) | exact rfl); (· (with_reducible assumption))) | ((with_reducible apply ss_gI); (· first | (with_reducible assumption) | exact rfl); (· ((repeat (first | (with_reducible apply zr_e) | ((with_reducible apply zr_a); (· first | decide | omega)) | ((with_reducible apply zr_k); (· omega)) | (with_reducible apply zr_1e) | ((with_reducible apply zr_1a); (· first | decide | omega)))); (first | (with_reducible assumption) | exact rfl)))) | ((with_reducible apply ss_pI); (· first | (with_reducible assumption) | exact rfl)) | ((with_reducible apply ss_aI); (· first | (with_reducible assumption) | exact rfl); (· (repeat (first | (with_reducible assumption) | (with_reducible exact rfl) | (with_reducible apply zn_add) | (with_reducible apply zn_mul) | (with_reducible exact zi_lit2 _)))); (· first | omega | decide); (· decide); (· ((repeat (first | (with_reducible apply zr_e) | ((with_reducible apply zr_a); (· first | decide | omega)) | ((with_reducible apply zr_k); (· omega)) | (with_reducible apply zr_1e) | ((with_reducible apply zr_1a); (· first | decide | omega)))); (first | (with_reducible assumption) | exact rfl)))) | ((with_reducible apply ss_sI); (· first | (with_reducible assumption) | exact rfl); (· (repeat (first | (with_reducible assumption) | (with_reducible exact rfl) | (with_reducible apply zn_add) | (with_reducible apply zn_mul) | (with_reducible exact zi_lit2 _)))); (· first | omega | decide); (· decide)) | ((with_reducible apply ss_len); (· first | (with_reducible assumption) | exact rfl); (· decide)) | (with_reducible refine ss_as ?_) | (with_reducible refine ss_bor ?_) | (with_reducible refine ss_or ?_) | (with_reducible refine ss_bcl ?_) | (with_reducible refine ss_bcr ?_) | (with_reducible refine ss_cl ?_) | (with_reducible refine ss_cr ?_) | (first | ((with_reducible refine ss_biT ?_ ?_); (· first | (with_reducible assumption) | decide)) | ((with_reducible refine ss_biF ?_ ?_); (· first | (with_reducible assumption) | decide)) | ((with_reducible refine ss_iT ?_ ?_); (· first | (with_reducible assumption) | decide)) | ((with_reducible refine ss_iF ?_ ?_); (· first | (with_reducible assumption) | decide))) | ((with_reducible apply ss_pZ); (· first | (with_reducible assumption) | exact rfl); (· first | (with_reducible assumption) | exact Or.inl rfl | exact Or.inr rfl)) | ((with_reducible apply ss_dvL); (· first | (with_reducible assumption) | decide)) | ((with_reducible apply ss_rmL); (· first | (with_reducible assumption) | decide)) | ((with_reducible apply ss_rmI); (· first | (with_reducible assumption) | decide)) | ((with_reducible apply ss_rz1); (· first | (with_reducible assumption) | exact Or.inl rfl | exact Or.inr rfl))) | (with_reducible refine ss_pure hl ?_))
      refine CL.fin ?_ rfl
      obtain ⟨h1, h2, ⟨L, l1, l2, l3⟩, h4, ⟨g1, g2, g3, g4, g5, g6, g7⟩, h6, h7, h8, h9⟩ := h
      have row : ∀ a, a ≠ 95 → a ≠ 112 → sf_u2 (sf_u2 I 95 1 (Int32.ofNat k)) 112 13 (Int32.ofNat k) a = I a := fun a q1 q2 => by rw [zu_r q2, zu_r q1]
      refine ⟨?_, h2, ⟨L, cx_lg_fr (fun k hk => by rw [row 20 (by decide) (by decide)]) (fun a q1 q2 => row a (by omega) (by omega)) l1, mx_lg_fr ?_ (row 133 (by decide) (by decide)) l2, l3⟩, ⟨⟨k, by omega, ?_, ?_⟩, ?_⟩, ⟨?_, ?_, ?_, ?_, ?_, ?_, ?_⟩, ?_, im_fr (row 115 (by decide) (by decide)) (row 116 (by decide) (by decide)) (fun a q => row a (by omega) (by omega)) h7, im_fr (row 115 (by decide) (by decide)) (row 116 (by decide) (by decide)) (fun a q => row a (by omega) (by omega)) h8, h9⟩
      · rw [row 114 (by decide) (by decide)]; exact zr_cl_fr2 (fun a ha => row a (by omega) (by omega)) h1
      · rw [zu_k (by decide), zu_a (by decide)]
      · rw [zu_a (by decide), zu_eq]
      · rw [zu_eq]
      · rw [row 119 (by decide) (by decide), row 96 (by decide) (by decide)]; exact hb
      · rw [row 0 (by decide) (by decide), zu_k (by decide), zu_a (by decide)]; exact g1
      · rw [row 108 (by decide) (by decide), row 113 (by decide) (by decide)]; exact g2
      · rw [row 0 (by decide) (by decide), zu_k (by decide), zu_a (by decide)]; exact g3
      · rw [row 0 (by decide) (by decide), zu_k (by decide), zu_a (by decide)]; exact g4
      · rw [row 0 (by decide) (by decide), zu_k (by decide), zu_a (by decide)]; exact g5
      · rw [row 0 (by decide) (by decide), zu_k (by decide), zu_a (by decide)]; exact g6
      · rw [row 110 (by decide) (by decide), row 138 (by decide) (by decide)]; exact g7
      · intro k hk; rw [row 118 (by decide) (by decide)]; exact h6 k hk
    · have hi : zs_in 0 n (Int32.ofNat m) = false := zs_inF.mpr (Or.inr (by (simp only [Int32.le_iff_toInt_le, Int32.lt_iff_toInt_lt, ← Int32.toInt_inj, Int32.toInt_ofNat', Int32.reduceToInt, zi_ix, Int32.toInt_add, Int32.toInt_sub, Int32.toInt_mul, Int32.toInt_neg, zi_bm, zi_bms, zp_in] at *; omega)))
      rw [hi] at hl
      have hz : zb false = 0 := rfl
      repeat (first | (first | (with_reducible refine ss_ret ?_) | (with_reducible refine ss_bret ?_) | ((with_reducible apply ss_rc); (· first | (with_reducible assumption) | exact rfl)) | ((with_reducible apply ss_pt); (· first | (with_reducible assumption) | exact rfl); (· exact rfl)) | ((with_reducible apply ss_gR); (· first | (with_reducible assumption) | exact rfl); (· (with_reducible assumption))) | ((with_reducible apply ss_gI); (· first | (with_reducible assumption) | exact rfl); (· ((repeat (first | (with_reducible apply zr_e) | ((with_reducible apply zr_a); (· first | decide | omega)) | ((with_reducible apply zr_k); (· omega)) | (with_reducible apply zr_1e) | ((with_reducible apply zr_1a); (· first | decide | omega)))); (first | (with_reducible assumption) | exact rfl)))) | ((with_reducible apply ss_pI); (· first | (with_reducible assumption) | exact rfl)) | ((with_reducible apply ss_aI); (· first | (with_reducible assumption) | exact rfl); (· (repeat (first | (with_reducible assumption) | (with_reducible exact rfl) | (with_reducible apply zn_add) | (with_reducible apply zn_mul) | (with_reducible exact zi_lit2 _)))); (· first | omega | decide); (· decide); (· ((repeat (first | (with_reducible apply zr_e) | ((with_reducible apply zr_a); (· first | decide | omega)) | ((with_reducible apply zr_k); (· omega)) | (with_reducible apply zr_1e) | ((with_reducible apply zr_1a); (· first | decide | omega)))); (first | (with_reducible assumption) | exact rfl)))) | ((with_reducible apply ss_sI); (· first | (with_reducible assumption) | exact rfl); (· (repeat (first | (with_reducible assumption) | (with_reducible exact rfl) | (with_reducible apply zn_add) | (with_reducible apply zn_mul) | (with_reducible exact zi_lit2 _)))); (· first | omega | decide); (· decide)) | ((with_reducible apply ss_len); (· first | (with_reducible assumption) | exact rfl); (· decide)) | (with_reducible refine ss_as ?_) | (with_reducible refine ss_bor ?_) | (with_reducible refine ss_or ?_) | (with_reducible refine ss_bcl ?_) | (with_reducible refine ss_bcr ?_) | (with_reducible refine ss_cl ?_) | (with_reducible refine ss_cr ?_) | (first | ((with_reducible refine ss_biT ?_ ?_); (· first | (with_reducible assumption) | decide)) | ((with_reducible refine ss_biF ?_ ?_); (· first | (with_reducible assumption) | decide)) | ((with_reducible refine ss_iT ?_ ?_); (· first | (with_reducible assumption) | decide)) | ((with_reducible refine ss_iF ?_ ?_); (· first | (with_reducible assumption) | decide))) | ((with_reducible apply ss_pZ); (· first | (with_reducible assumption) | exact rfl); (· first | (with_reducible assumption) | exact Or.inl rfl | exact Or.inr rfl)) | ((with_reducible apply ss_dvL); (· first | (with_reducible assumption) | decide)) | ((with_reducible apply ss_rmL); (· first | (with_reducible assumption) | decide)) | ((with_reducible apply ss_rmI); (· first | (with_reducible assumption) | decide)) | ((with_reducible apply ss_rz1); (· first | (with_reducible assumption) | exact Or.inl rfl | exact Or.inr rfl))) | (with_reducible refine ss_pure hl ?_))
      exact CL.fin h rfl
/-- told: the row after -/
def kT (K : Nat → Int32) (s v : Int32) : Nat → Int32 := kS (kS (kS K (213 + 2 * sf_ix (K 228)) s) (214 + 2 * sf_ix (K 228)) v) 228 (K 228 + 1)
def sp_told (K : Nat → Int32) (s v : Int32) : Int32 × (Nat → Int32) := if (zs_st s && zs_in (-1) v 99999) = true then (if K 228 = 6 then (-5, K) else (K 228 + 1, kT K s v)) else (-1, K)
set_option maxRecDepth 20000 in
theorem kT_q {s v : Int32} {n : Nat} (e : K 228 = Int32.ofNat n) (hn : n < 6) {i : Nat} (hi : i < 213 ∨ (224 < i ∧ i ≠ 228)) : kT K s v i = K i := by
  unfold kT
  rw [e, zi_ixn (by omega), kS_n (by omega), kS_n (by omega), kS_n (by omega)]
set_option maxRecDepth 20000 in
theorem zv_kT (hv : zv K) {s v : Int32} {n : Nat} (e : K 228 = Int32.ofNat n) (hn : n < 6) (hs : zs_st s = true) : zv (kT K s v) := by
  obtain ⟨v1, v2, v3, v4, v5, v6, v7, v8, v9, v10, v11, v12⟩ := hv
  have q : ∀ i, (i < 213 ∨ (224 < i ∧ i ≠ 228)) → kT K s v i = K i := fun i hi => kT_q e hn hi
  refine ⟨fun i hi => by rw [q i (by omega)]; exact v1 i hi, by rw [q 192 (by omega)]; exact v2, by rw [q 193 (by omega)]; exact v3, by rw [q 194 (by omega)]; exact v4, fun i hi => by rw [q _ (by omega)]; exact v5 i hi, fun i hi => ?_, by rw [q 225 (by omega)]; exact v7, by rw [q 226 (by omega)]; exact v8, by rw [q 227 (by omega)]; exact v9, ?_, by rw [q 229 (by omega)]; exact v11, by rw [q 229 (by omega), q 230 (by omega)]; exact v12⟩
  · unfold kT
    rw [e, zi_ixn (by omega), kS_n (by omega), kS_n (by omega)]
    by_cases h : 213 + 2 * i = 213 + 2 * n
    · rw [h, kS_e]; exact zs_inT.mp hs
    · rw [kS_n h]; exact v6 i hi
  · unfold kT
    rw [kS_e, e, zi_s]
    exact ⟨zi_leL (a := 0) (by omega) (by omega), zi_leL (b := 6) (by omega) (by omega)⟩
set_option maxRecDepth 20000 in
theorem cx_addTold (hC : zr_cl t I D K) (s v : Int32) : zp_wp (jx_Office_addTold (some 2) s v) (fun r τ => r = (sp_told K s v).1 ∧ ∃ I', τ = zp_Z t I' J D ∧ zf (fun x _ => x == 2 || x == 9 || x == 10) I I' ∧ zr_cl t I' D (sp_told K s v).2) (zp_Z t I J D) := by
  have hs := ze_isStation s
  unfold jx_Office_addTold sp_told
  cases h1 : zs_st s with
  | false =>
    rw [h1] at hs
    have hz : zb false = 0 := rfl
    repeat (first | (first | (with_reducible refine ss_ret ?_) | (with_reducible refine ss_bret ?_) | ((with_reducible apply ss_rc); (· first | (with_reducible assumption) | exact rfl)) | ((with_reducible apply ss_pt); (· first | (with_reducible assumption) | exact rfl); (· exact rfl)) | ((with_reducible apply ss_gR); (· first | (with_reducible assumption) | exact rfl); (· (with_reducible assumption))) | ((with_reducible apply ss_gI); (· first | (with_reducible assumption) | exact rfl); (· ((repeat (first | (with_reducible apply zr_e) | ((with_reducible apply zr_a); (· first | decide | omega)) | ((with_reducible apply zr_k); (· omega)) | (with_reducible apply zr_1e) | ((with_reducible apply zr_1a); (· first | decide | omega)))); (first | (with_reducible assumption) | exact rfl)))) | ((with_reducible apply ss_pI); (· first | (with_reducible assumption) | exact rfl)) | ((with_reducible apply ss_aI); (· first | (with_reducible assumption) | exact rfl); (· (repeat (first | (with_reducible assumption) | (with_reducible exact rfl) | (with_reducible apply zn_add) | (with_reducible apply zn_mul) | (with_reducible exact zi_lit2 _)))); (· first | omega | decide); (· decide); (· ((repeat (first | (with_reducible apply zr_e) | ((with_reducible apply zr_a); (· first | decide | omega)) | ((with_reducible apply zr_k); (· omega)) | (with_reducible apply zr_1e) | ((with_reducible apply zr_1a); (· first | decide | omega)))); (first | (with_reducible assumption) | exact rfl)))) | ((with_reducible apply ss_sI); (· first | (with_reducible assumption) | exact rfl); (· (repeat (first | (with_reducible assumption) | (with_reducible exact rfl) | (with_reducible apply zn_add) | (with_reducible apply zn_mul) | (with_reducible exact zi_lit2 _)))); (· first | omega | decide); (· decide)) | ((with_reducible apply ss_len); (· first | (with_reducible assumption) | exact rfl); (· decide)) | (with_reducible refine ss_as ?_) | (with_reducible refine ss_bor ?_) | (with_reducible refine ss_or ?_) | (with_reducible refine ss_bcl ?_) | (with_reducible refine ss_bcr ?_) | (with_reducible refine ss_cl ?_) | (with_reducible refine ss_cr ?_) | (first | ((with_reducible refine ss_biT ?_ ?_); (· first | (with_reducible assumption) | decide)) | ((with_reducible refine ss_biF ?_ ?_); (· first | (with_reducible assumption) | decide)) | ((with_reducible refine ss_iT ?_ ?_); (· first | (with_reducible assumption) | decide)) | ((with_reducible refine ss_iF ?_ ?_); (· first | (with_reducible assumption) | decide))) | ((with_reducible apply ss_pZ); (· first | (with_reducible assumption) | exact rfl); (· first | (with_reducible assumption) | exact Or.inl rfl | exact Or.inr rfl)) | ((with_reducible apply ss_dvL); (· first | (with_reducible assumption) | decide)) | ((with_reducible apply ss_rmL); (· first | (with_reducible assumption) | decide)) | ((with_reducible apply ss_rmI); (· first | (with_reducible assumption) | decide)) | ((with_reducible apply ss_rz1); (· first | (with_reducible assumption) | exact Or.inl rfl | exact Or.inr rfl))) | (with_reducible refine ss_pure hs ?_))
    exact ⟨rfl, I, rfl, zf_refl _ _, hC⟩
  | true =>
    rw [h1] at hs
    have hz : ¬ zb true = 0 := by decide
    by_cases c1 : v < -1
    · have h2 : zs_in (-1) v 99999 = false := zs_inF.mpr (Or.inl c1)
      rw [h2]
      repeat (first | (first | (with_reducible refine ss_ret ?_) | (with_reducible refine ss_bret ?_) | ((with_reducible apply ss_rc); (· first | (with_reducible assumption) | exact rfl)) | ((with_reducible apply ss_pt); (· first | (with_reducible assumption) | exact rfl); (· exact rfl)) | ((with_reducible apply ss_gR); (· first | (with_reducible assumption) | exact rfl); (· (with_reducible assumption))) | ((with_reducible apply ss_gI); (· first | (with_reducible assumption) | exact rfl); (· ((repeat (first | (with_reducible apply zr_e) | ((with_reducible apply zr_a); (· first | decide | omega)) | ((with_reducible apply zr_k); (· omega)) | (with_reducible apply zr_1e) | ((with_reducible apply zr_1a); (· first | decide | omega)))); (first | (with_reducible assumption) | exact rfl)))) | ((with_reducible apply ss_pI); (· first | (with_reducible assumption) | exact rfl)) | ((with_reducible apply ss_aI); (· first | (with_reducible assumption) | exact rfl); (· (repeat (first | (with_reducible assumption) | (with_reducible exact rfl) | (with_reducible apply zn_add) | (with_reducible apply zn_mul) | (with_reducible exact zi_lit2 _)))); (· first | omega | decide); (· decide); (· ((repeat (first | (with_reducible apply zr_e) | ((with_reducible apply zr_a); (· first | decide | omega)) | ((with_reducible apply zr_k); (· omega)) | (with_reducible apply zr_1e) | ((with_reducible apply zr_1a); (· first | decide | omega)))); (first | (with_reducible assumption) | exact rfl)))) | ((with_reducible apply ss_sI); (· first | (with_reducible assumption) | exact rfl); (· (repeat (first | (with_reducible assumption) | (with_reducible exact rfl) | (with_reducible apply zn_add) | (with_reducible apply zn_mul) | (with_reducible exact zi_lit2 _)))); (· first | omega | decide); (· decide)) | ((with_reducible apply ss_len); (· first | (with_reducible assumption) | exact rfl); (· decide)) | (with_reducible refine ss_as ?_) | (with_reducible refine ss_bor ?_) | (with_reducible refine ss_or ?_) | (with_reducible refine ss_bcl ?_) | (with_reducible refine ss_bcr ?_) | (with_reducible refine ss_cl ?_) | (with_reducible refine ss_cr ?_) | (first | ((with_reducible refine ss_biT ?_ ?_); (· first | (with_reducible assumption) | decide)) | ((with_reducible refine ss_biF ?_ ?_); (· first | (with_reducible assumption) | decide)) | ((with_reducible refine ss_iT ?_ ?_); (· first | (with_reducible assumption) | decide)) | ((with_reducible refine ss_iF ?_ ?_); (· first | (with_reducible assumption) | decide))) | ((with_reducible apply ss_pZ); (· first | (with_reducible assumption) | exact rfl); (· first | (with_reducible assumption) | exact Or.inl rfl | exact Or.inr rfl)) | ((with_reducible apply ss_dvL); (· first | (with_reducible assumption) | decide)) | ((with_reducible apply ss_rmL); (· first | (with_reducible assumption) | decide)) | ((with_reducible apply ss_rmI); (· first | (with_reducible assumption) | decide)) | ((with_reducible apply ss_rz1); (· first | (with_reducible assumption) | exact Or.inl rfl | exact Or.inr rfl))) | (with_reducible refine ss_pure hs ?_))
      exact ⟨rfl, I, rfl, zf_refl _ _, hC⟩
    · by_cases c2 : v ≤ 99999
      · have h2 : zs_in (-1) v 99999 = true := zs_inT.mpr ⟨by (simp only [Int32.le_iff_toInt_le, Int32.lt_iff_toInt_lt, ← Int32.toInt_inj, Int32.toInt_ofNat', Int32.reduceToInt, zi_ix, Int32.toInt_add, Int32.toInt_sub, Int32.toInt_mul, Int32.toInt_neg, zi_bm, zi_bms, zp_in] at *; omega), c2⟩
        rw [h2]
        obtain ⟨n, hn6, e⟩ := zv_228 hC.2.1
        have k28 : I 2 8 = Int32.ofNat n := by
          have := hC.1.2.2.2.2.2.2.2.2.2.2.2.2.1
          exact this.trans e
        rw [if_pos (show (true && true) = true from rfl)]
        by_cases h6 : n = 6
        · subst h6
          have hl : ¬ Int32.ofNat 6 < (6 : Int32) := by decide
          repeat (first | (first | (with_reducible refine ss_ret ?_) | (with_reducible refine ss_bret ?_) | ((with_reducible apply ss_rc); (· first | (with_reducible assumption) | exact rfl)) | ((with_reducible apply ss_pt); (· first | (with_reducible assumption) | exact rfl); (· exact rfl)) | ((with_reducible apply ss_gR); (· first | (with_reducible assumption) | exact rfl); (· (with_reducible assumption))) | ((with_reducible apply ss_gI); (· first | (with_reducible assumption) | exact rfl); (· ((repeat (first | (with_reducible apply zr_e) | ((with_reducible apply zr_a); (· first | decide | omega)) | ((with_reducible apply zr_k); (· omega)) | (with_reducible apply zr_1e) | ((with_reducible apply zr_1a); (· first | decide | omega)))); (first | (with_reducible assumption) | exact rfl)))) | ((with_reducible apply ss_pI); (· first | (with_reducible assumption) | exact rfl)) | ((with_reducible apply ss_aI); (· first | (with_reducible assumption) | exact rfl); (· (repeat (first | (with_reducible assumption) | (with_reducible exact rfl) | (with_reducible apply zn_add) | (with_reducible apply zn_mul) | (with_reducible exact zi_lit2 _)))); (· first | omega | decide); (· decide); (· ((repeat (first | (with_reducible apply zr_e) | ((with_reducible apply zr_a); (· first | decide | omega)) | ((with_reducible apply zr_k); (· omega)) | (with_reducible apply zr_1e) | ((with_reducible apply zr_1a); (· first | decide | omega)))); (first | (with_reducible assumption) | exact rfl)))) | ((with_reducible apply ss_sI); (· first | (with_reducible assumption) | exact rfl); (· (repeat (first | (with_reducible assumption) | (with_reducible exact rfl) | (with_reducible apply zn_add) | (with_reducible apply zn_mul) | (with_reducible exact zi_lit2 _)))); (· first | omega | decide); (· decide)) | ((with_reducible apply ss_len); (· first | (with_reducible assumption) | exact rfl); (· decide)) | (with_reducible refine ss_as ?_) | (with_reducible refine ss_bor ?_) | (with_reducible refine ss_or ?_) | (with_reducible refine ss_bcl ?_) | (with_reducible refine ss_bcr ?_) | (with_reducible refine ss_cl ?_) | (with_reducible refine ss_cr ?_) | (first | ((with_reducible refine ss_biT ?_ ?_); (· first | (with_reducible assumption) | decide)) | ((with_reducible refine ss_biF ?_ ?_); (· first | (with_reducible assumption) | decide)) | ((with_reducible refine ss_iT ?_ ?_); (· first | (with_reducible assumption) | decide)) | ((with_reducible refine ss_iF ?_ ?_); (· first | (with_reducible assumption) | decide))) | ((with_reducible apply ss_pZ); (· first | (with_reducible assumption) | exact rfl); (· first | (with_reducible assumption) | exact Or.inl rfl | exact Or.inr rfl)) | ((with_reducible apply ss_dvL); (· first | (with_reducible assumption) | decide)) | ((with_reducible apply ss_rmL); (· first | (with_reducible assumption) | decide)) | ((with_reducible apply ss_rmI); (· first | (with_reducible assumption) | decide)) | ((with_reducible apply ss_rz1); (· first | (with_reducible assumption) | exact Or.inl rfl | exact Or.inr rfl))) | (with_reducible refine ss_pure hs ?_))
          rw [if_pos (show K 228 = 6 from e)]
          exact ⟨rfl, I, rfl, zf_refl _ _, hC⟩
        · have hn : n < 6 := by omega
          have hl : Int32.ofNat n < (6 : Int32) := zi_ltL (b := 6) hn (by omega)
          repeat (first | (first | (with_reducible refine ss_ret ?_) | (with_reducible refine ss_bret ?_) | ((with_reducible apply ss_rc); (· first | (with_reducible assumption) | exact rfl)) | ((with_reducible apply ss_pt); (· first | (with_reducible assumption) | exact rfl); (· exact rfl)) | ((with_reducible apply ss_gR); (· first | (with_reducible assumption) | exact rfl); (· (with_reducible assumption))) | ((with_reducible apply ss_gI); (· first | (with_reducible assumption) | exact rfl); (· ((repeat (first | (with_reducible apply zr_e) | ((with_reducible apply zr_a); (· first | decide | omega)) | ((with_reducible apply zr_k); (· omega)) | (with_reducible apply zr_1e) | ((with_reducible apply zr_1a); (· first | decide | omega)))); (first | (with_reducible assumption) | exact rfl)))) | ((with_reducible apply ss_pI); (· first | (with_reducible assumption) | exact rfl)) | ((with_reducible apply ss_aI); (· first | (with_reducible assumption) | exact rfl); (· (repeat (first | (with_reducible assumption) | (with_reducible exact rfl) | (with_reducible apply zn_add) | (with_reducible apply zn_mul) | (with_reducible exact zi_lit2 _)))); (· first | omega | decide); (· decide); (· ((repeat (first | (with_reducible apply zr_e) | ((with_reducible apply zr_a); (· first | decide | omega)) | ((with_reducible apply zr_k); (· omega)) | (with_reducible apply zr_1e) | ((with_reducible apply zr_1a); (· first | decide | omega)))); (first | (with_reducible assumption) | exact rfl)))) | ((with_reducible apply ss_sI); (· first | (with_reducible assumption) | exact rfl); (· (repeat (first | (with_reducible assumption) | (with_reducible exact rfl) | (with_reducible apply zn_add) | (with_reducible apply zn_mul) | (with_reducible exact zi_lit2 _)))); (· first | omega | decide); (· decide)) | ((with_reducible apply ss_len); (· first | (with_reducible assumption) | exact rfl); (· decide)) | (with_reducible refine ss_as ?_) | (with_reducible refine ss_bor ?_) | (with_reducible refine ss_or ?_) | (with_reducible refine ss_bcl ?_) | (with_reducible refine ss_bcr ?_) | (with_reducible refine ss_cl ?_) | (with_reducible refine ss_cr ?_) | (first | ((with_reducible refine ss_biT ?_ ?_); (· first | (with_reducible assumption) | decide)) | ((with_reducible refine ss_biF ?_ ?_); (· first | (with_reducible assumption) | decide)) | ((with_reducible refine ss_iT ?_ ?_); (· first | (with_reducible assumption) | decide)) | ((with_reducible refine ss_iF ?_ ?_); (· first | (with_reducible assumption) | decide))) | ((with_reducible apply ss_pZ); (· first | (with_reducible assumption) | exact rfl); (· first | (with_reducible assumption) | exact Or.inl rfl | exact Or.inr rfl)) | ((with_reducible apply ss_dvL); (· first | (with_reducible assumption) | decide)) | ((with_reducible apply ss_rmL); (· first | (with_reducible assumption) | decide)) | ((with_reducible apply ss_rmI); (· first | (with_reducible assumption) | decide)) | ((with_reducible apply ss_rz1); (· first | (with_reducible assumption) | exact Or.inl rfl | exact Or.inr rfl))) | (with_reducible refine ss_pure hs ?_))
          rw [if_neg (show ¬ K 228 = 6 by rw [e]; exact zi_ne (b := 6) h6 (by omega) (by omega))]
          refine ⟨by rw [e], _, rfl, zf_u2 (zf_u2 (zf_u2 (zf_refl _ _) rfl) rfl) rfl, ?_⟩
          show zr_cl t _ D (kT K s v)
          obtain ⟨q1, q2, q3, q4, q5, q6, q7, q8, q9, q10, q11, q12, q13, q14, q15⟩ := hC.1
          have q : ∀ i, (i < 213 ∨ (224 < i ∧ i ≠ 228)) → kT K s v i = K i := fun i hi => kT_q e hn hi
          refine zr_cl_w hC (fun k hk => q k (by omega)) (q 229 (by omega)) (fun x hx => by rw [zu_r (by omega), zu_r (by omega), zu_r (by omega)]) ?_ (zv_kT hC.2.1 e hn h1)
          refine ⟨fun i hi => ?_, ?_, ?_, ?_, fun i hi => ?_, fun i hi => ?_, fun i hi => ?_, fun i hi => ?_, fun i hi => ?_, ?_, ?_, ?_, ?_, ?_, ?_⟩
          · rw [q i (by omega)]; exact q1 i hi
          · rw [q 192 (by omega)]; exact q2
          · rw [q 193 (by omega)]; exact q3
          · rw [q 194 (by omega)]; exact q4
          · rw [q (195 + i) (by omega)]; exact q5 i hi
          · rw [q (201 + i) (by omega)]; exact q6 i hi
          · rw [q (207 + i) (by omega)]; exact q7 i hi
          · unfold kT
            rw [e, zi_ixn (by omega), kS_n (by omega), kS_n (by omega)]
            by_cases h : i = n
            · subst h; rw [kS_e]; rw [zu_a (by decide), zu_a (by decide), zu_eq]
            · rw [kS_n (by omega)]; rw [zu_a (by decide), zu_a (by decide), zu_k h]; exact q8 i hi
          · unfold kT
            rw [e, zi_ixn (by omega), kS_n (by omega)]
            by_cases h : i = n
            · subst h; rw [kS_e]; rw [zu_a (by decide), zu_eq]
            · rw [kS_n (by omega), kS_n (by omega)]; rw [zu_a (by decide), zu_k h, zu_a (by decide)]; exact q9 i hi
          · rw [q 225 (by omega)]; exact q10
          · rw [q 226 (by omega)]; exact q11
          · rw [q 227 (by omega)]; exact q12
          · show sf_u2 _ 2 8 _ 2 8 = _
            rw [zu_eq]; unfold kT; rw [kS_e, e]
          · rw [q 229 (by omega)]; exact q14
          · rw [q 230 (by omega)]; exact q15
      · have h2 : zs_in (-1) v 99999 = false := zs_inF.mpr (Or.inr (by (simp only [Int32.le_iff_toInt_le, Int32.lt_iff_toInt_lt, ← Int32.toInt_inj, Int32.toInt_ofNat', Int32.reduceToInt, zi_ix, Int32.toInt_add, Int32.toInt_sub, Int32.toInt_mul, Int32.toInt_neg, zi_bm, zi_bms, zp_in] at *; omega)))
        rw [h2]
        repeat (first | (first | (with_reducible refine ss_ret ?_) | (with_reducible refine ss_bret ?_) | ((with_reducible apply ss_rc); (· first | (with_reducible assumption) | exact rfl)) | ((with_reducible apply ss_pt); (· first | (with_reducible assumption) | exact rfl); (· exact rfl)) | ((with_reducible apply ss_gR); (· first | (with_reducible assumption) | exact rfl); (· (with_reducible assumption))) | ((with_reducible apply ss_gI); (· first | (with_reducible assumption) | exact rfl); (· ((repeat (first | (with_reducible apply zr_e) | ((with_reducible apply zr_a); (· first | decide | omega)) | ((with_reducible apply zr_k); (· omega)) | (with_reducible apply zr_1e) | ((with_reducible apply zr_1a); (· first | decide | omega)))); (first | (with_reducible assumption) | exact rfl)))) | ((with_reducible apply ss_pI); (· first | (with_reducible assumption) | exact rfl)) | ((with_reducible apply ss_aI); (· first | (with_reducible assumption) | exact rfl); (· (repeat (first | (with_reducible assumption) | (with_reducible exact rfl) | (with_reducible apply zn_add) | (with_reducible apply zn_mul) | (with_reducible exact zi_lit2 _)))); (· first | omega | decide); (· decide); (· ((repeat (first | (with_reducible apply zr_e) | ((with_reducible apply zr_a); (· first | decide | omega)) | ((with_reducible apply zr_k); (· omega)) | (with_reducible apply zr_1e) | ((with_reducible apply zr_1a); (· first | decide | omega)))); (first | (with_reducible assumption) | exact rfl)))) | ((with_reducible apply ss_sI); (· first | (with_reducible assumption) | exact rfl); (· (repeat (first | (with_reducible assumption) | (with_reducible exact rfl) | (with_reducible apply zn_add) | (with_reducible apply zn_mul) | (with_reducible exact zi_lit2 _)))); (· first | omega | decide); (· decide)) | ((with_reducible apply ss_len); (· first | (with_reducible assumption) | exact rfl); (· decide)) | (with_reducible refine ss_as ?_) | (with_reducible refine ss_bor ?_) | (with_reducible refine ss_or ?_) | (with_reducible refine ss_bcl ?_) | (with_reducible refine ss_bcr ?_) | (with_reducible refine ss_cl ?_) | (with_reducible refine ss_cr ?_) | (first | ((with_reducible refine ss_biT ?_ ?_); (· first | (with_reducible assumption) | decide)) | ((with_reducible refine ss_biF ?_ ?_); (· first | (with_reducible assumption) | decide)) | ((with_reducible refine ss_iT ?_ ?_); (· first | (with_reducible assumption) | decide)) | ((with_reducible refine ss_iF ?_ ?_); (· first | (with_reducible assumption) | decide))) | ((with_reducible apply ss_pZ); (· first | (with_reducible assumption) | exact rfl); (· first | (with_reducible assumption) | exact Or.inl rfl | exact Or.inr rfl)) | ((with_reducible apply ss_dvL); (· first | (with_reducible assumption) | decide)) | ((with_reducible apply ss_rmL); (· first | (with_reducible assumption) | decide)) | ((with_reducible apply ss_rmI); (· first | (with_reducible assumption) | decide)) | ((with_reducible apply ss_rz1); (· first | (with_reducible assumption) | exact Or.inl rfl | exact Or.inr rfl))) | (with_reducible refine ss_pure hs ?_))
        exact ⟨rfl, I, rfl, zf_refl _ _, hC⟩
set_option maxRecDepth 20000 in
theorem ar_told (hv : zv K) (s v : Int32) : ar_ok (sp_told K s v).1 := by
  unfold sp_told
  split
  · split
    · exact ar_neg 5 (by decide) (by decide)
    · next h =>
      obtain ⟨n, hn, e⟩ := zv_228 hv
      left; rw [e]; show 0 ≤ Int32.ofNat n + 1; rw [zi_s]; exact zi_leL (a := 0) (by omega) (by omega)
  · exact ar_neg 1 (by decide) (by decide)
set_option maxRecDepth 20000 in
/-- case 30 -/
theorem CL_told (s v : Int32) : CL (jx_SF_told (some 0) s v) (jx_Mo_told (some 112) s v) := by
  refine CL.deed (fun t I J D L h l1 l2 l3 => ⟨(sp_told (I 114) s v).1, (sp_told (I 114) s v).2, L, ar_told h.1.2.1 s v, l3, ?_, ?_⟩)
  · unfold jx_SF_told
    refine ss_pt rfl rfl ?_
    refine ss_pt rfl rfl ?_
    refine ss_rc rfl ?_
    refine zp_wp_call (cx_addTold h.1 s v) ?_
    rintro r τ ⟨rfl, I1, rfl, f1, c1⟩
    refine ss_rc rfl ?_
    refine zp_wp_call (cx_answered (ar_told h.1.2.1 s v)) ?_
    rintro w τ ⟨rfl, I2, rfl, f2, a2⟩
    refine ss_ret ⟨rfl, I2, rfl, zf_trans (zf_mono f1 (fun x k e => ?_)) (zf_mono f2 zk_st_ex), zr_cl_st c1 f2, cx_lg_st (cx_lg_fr (fun k hk => f1 20 k rfl) (fun x h1 h2 => zf_row f1 (fun k => by simp; omega)) l1) f2, an_l (fun k => (f1 108 k rfl).symm) a2⟩
    simp only [Bool.or_eq_true, beq_iff_eq] at e
    simp [zk_ex]; omega
  · intro I1 e1 m1 _
    have hv : zv (I 114) := h.1.2.1
    have hs := ze_MisStation s
    have hl := ze_lies v (-1) 99999
    have hr1 := mx_refuses (t := t) (I := I1) (J := J) (D := D) (j := 1) (by decide) (by decide)
    have hz0 : zb false = 0 := rfl
    have hz1 : ¬ zb true = 0 := by decide
    have hrF : ∀ (c : Bool), c = false → ∀ r, r = (-Int32.ofNat 1) → (r = (if c = true then (if I 114 228 = 6 then ((-5 : Int32), I 114) else (I 114 228 + 1, kT (I 114) s v)) else (-1, I 114)).1 ∧ ∃ I', zp_Z t (sf_u2 (sf_u2 I1 112 0 (-Int32.ofNat 1)) 113 1 (I1 113 1 + 1)) J D = zp_Z t I' J D ∧ zf zk_em I1 I' ∧ I' 114 = (if c = true then (if I 114 228 = 6 then ((-5 : Int32), I 114) else (I 114 228 + 1, kT (I 114) s v)) else (-1, I 114)).2 ∧ mx_lg I' L ∧ an_at 112 0 113 I1 I' (if c = true then (if I 114 228 = 6 then ((-5 : Int32), I 114) else (I 114 228 + 1, kT (I 114) s v)) else (-1, I 114)).1) := by
      intro c hc r hr
      subst hc; subst hr
      refine ⟨rfl, _, rfl, zf_u2 (zf_u2 (zf_refl _ _) rfl) rfl, ?_, mx_lg_fr (by rw [zu_a (by decide), zu_k (by decide)]) (by rw [zu_r (by decide), zu_r (by decide)]) m1, an_ref 112 0 113 (by decide) (by decide) (by decide)⟩
      rw [zu_r (by decide), zu_r (by decide)]; exact e1
    unfold jx_Mo_told sp_told
    cases hx : zs_st s with
    | false =>
      rw [hx] at hs
      repeat (first | (first | (with_reducible refine ss_ret ?_) | (with_reducible refine ss_bret ?_) | ((with_reducible apply ss_rc); (· first | (with_reducible assumption) | exact rfl)) | ((with_reducible apply ss_pt); (· first | (with_reducible assumption) | exact rfl); (· exact rfl)) | ((with_reducible apply ss_gR); (· first | (with_reducible assumption) | exact rfl); (· (with_reducible assumption))) | ((with_reducible apply ss_gI); (· first | (with_reducible assumption) | exact rfl); (· ((repeat (first | (with_reducible apply zr_e) | ((with_reducible apply zr_a); (· first | decide | omega)) | ((with_reducible apply zr_k); (· omega)) | (with_reducible apply zr_1e) | ((with_reducible apply zr_1a); (· first | decide | omega)))); (first | (with_reducible assumption) | exact rfl)))) | ((with_reducible apply ss_pI); (· first | (with_reducible assumption) | exact rfl)) | ((with_reducible apply ss_aI); (· first | (with_reducible assumption) | exact rfl); (· (repeat (first | (with_reducible assumption) | (with_reducible exact rfl) | (with_reducible apply zn_add) | (with_reducible apply zn_mul) | (with_reducible exact zi_lit2 _)))); (· first | omega | decide); (· decide); (· ((repeat (first | (with_reducible apply zr_e) | ((with_reducible apply zr_a); (· first | decide | omega)) | ((with_reducible apply zr_k); (· omega)) | (with_reducible apply zr_1e) | ((with_reducible apply zr_1a); (· first | decide | omega)))); (first | (with_reducible assumption) | exact rfl)))) | ((with_reducible apply ss_sI); (· first | (with_reducible assumption) | exact rfl); (· (repeat (first | (with_reducible assumption) | (with_reducible exact rfl) | (with_reducible apply zn_add) | (with_reducible apply zn_mul) | (with_reducible exact zi_lit2 _)))); (· first | omega | decide); (· decide)) | ((with_reducible apply ss_len); (· first | (with_reducible assumption) | exact rfl); (· decide)) | (with_reducible refine ss_as ?_) | (with_reducible refine ss_bor ?_) | (with_reducible refine ss_or ?_) | (with_reducible refine ss_bcl ?_) | (with_reducible refine ss_bcr ?_) | (with_reducible refine ss_cl ?_) | (with_reducible refine ss_cr ?_) | (first | ((with_reducible refine ss_biT ?_ ?_); (· first | (with_reducible assumption) | decide)) | ((with_reducible refine ss_biF ?_ ?_); (· first | (with_reducible assumption) | decide)) | ((with_reducible refine ss_iT ?_ ?_); (· first | (with_reducible assumption) | decide)) | ((with_reducible refine ss_iF ?_ ?_); (· first | (with_reducible assumption) | decide))) | ((with_reducible apply ss_pZ); (· first | (with_reducible assumption) | exact rfl); (· first | (with_reducible assumption) | exact Or.inl rfl | exact Or.inr rfl)) | ((with_reducible apply ss_dvL); (· first | (with_reducible assumption) | decide)) | ((with_reducible apply ss_rmL); (· first | (with_reducible assumption) | decide)) | ((with_reducible apply ss_rmI); (· first | (with_reducible assumption) | decide)) | ((with_reducible apply ss_rz1); (· first | (with_reducible assumption) | exact Or.inl rfl | exact Or.inr rfl))) | (with_reducible refine ss_pure hs ?_))
      refine ss_call hr1 ?_
      refine ss_ret ?_
      exact hrF _ rfl _ rfl
    | true =>
      rw [hx] at hs
      cases hy : zs_in (-1) v 99999 with
      | false =>
        rw [hy] at hl
        repeat (first | (first | (with_reducible refine ss_ret ?_) | (with_reducible refine ss_bret ?_) | ((with_reducible apply ss_rc); (· first | (with_reducible assumption) | exact rfl)) | ((with_reducible apply ss_pt); (· first | (with_reducible assumption) | exact rfl); (· exact rfl)) | ((with_reducible apply ss_gR); (· first | (with_reducible assumption) | exact rfl); (· (with_reducible assumption))) | ((with_reducible apply ss_gI); (· first | (with_reducible assumption) | exact rfl); (· ((repeat (first | (with_reducible apply zr_e) | ((with_reducible apply zr_a); (· first | decide | omega)) | ((with_reducible apply zr_k); (· omega)) | (with_reducible apply zr_1e) | ((with_reducible apply zr_1a); (· first | decide | omega)))); (first | (with_reducible assumption) | exact rfl)))) | ((with_reducible apply ss_pI); (· first | (with_reducible assumption) | exact rfl)) | ((with_reducible apply ss_aI); (· first | (with_reducible assumption) | exact rfl); (· (repeat (first | (with_reducible assumption) | (with_reducible exact rfl) | (with_reducible apply zn_add) | (with_reducible apply zn_mul) | (with_reducible exact zi_lit2 _)))); (· first | omega | decide); (· decide); (· ((repeat (first | (with_reducible apply zr_e) | ((with_reducible apply zr_a); (· first | decide | omega)) | ((with_reducible apply zr_k); (· omega)) | (with_reducible apply zr_1e) | ((with_reducible apply zr_1a); (· first | decide | omega)))); (first | (with_reducible assumption) | exact rfl)))) | ((with_reducible apply ss_sI); (· first | (with_reducible assumption) | exact rfl); (· (repeat (first | (with_reducible assumption) | (with_reducible exact rfl) | (with_reducible apply zn_add) | (with_reducible apply zn_mul) | (with_reducible exact zi_lit2 _)))); (· first | omega | decide); (· decide)) | ((with_reducible apply ss_len); (· first | (with_reducible assumption) | exact rfl); (· decide)) | (with_reducible refine ss_as ?_) | (with_reducible refine ss_bor ?_) | (with_reducible refine ss_or ?_) | (with_reducible refine ss_bcl ?_) | (with_reducible refine ss_bcr ?_) | (with_reducible refine ss_cl ?_) | (with_reducible refine ss_cr ?_) | (first | ((with_reducible refine ss_biT ?_ ?_); (· first | (with_reducible assumption) | decide)) | ((with_reducible refine ss_biF ?_ ?_); (· first | (with_reducible assumption) | decide)) | ((with_reducible refine ss_iT ?_ ?_); (· first | (with_reducible assumption) | decide)) | ((with_reducible refine ss_iF ?_ ?_); (· first | (with_reducible assumption) | decide))) | ((with_reducible apply ss_pZ); (· first | (with_reducible assumption) | exact rfl); (· first | (with_reducible assumption) | exact Or.inl rfl | exact Or.inr rfl)) | ((with_reducible apply ss_dvL); (· first | (with_reducible assumption) | decide)) | ((with_reducible apply ss_rmL); (· first | (with_reducible assumption) | decide)) | ((with_reducible apply ss_rmI); (· first | (with_reducible assumption) | decide)) | ((with_reducible apply ss_rz1); (· first | (with_reducible assumption) | exact Or.inl rfl | exact Or.inr rfl))) | (with_reducible refine ss_pure hs ?_) | (with_reducible refine ss_pure hl ?_))
        refine ss_call hr1 ?_
        refine ss_ret ?_
        exact hrF _ rfl _ rfl
      | true =>
        rw [hy] at hl
        obtain ⟨n, hn6, e⟩ := zv_228 hv
        have k228 : I1 114 228 = Int32.ofNat n := by rw [e1]; exact e
        rw [if_pos (show (true && true) = true from rfl)]
        by_cases h6 : n = 6
        · subst h6
          rw [if_pos (show I 114 228 = 6 from e)]
          have hr := mx_refuses (t := t) (I := I1) (J := J) (D := D) (j := 5) (by decide) (by decide)
          have hq : Int32.ofNat 6 = (6 : Int32) := rfl
          repeat (first | (first | (with_reducible refine ss_ret ?_) | (with_reducible refine ss_bret ?_) | ((with_reducible apply ss_rc); (· first | (with_reducible assumption) | exact rfl)) | ((with_reducible apply ss_pt); (· first | (with_reducible assumption) | exact rfl); (· exact rfl)) | ((with_reducible apply ss_gR); (· first | (with_reducible assumption) | exact rfl); (· (with_reducible assumption))) | ((with_reducible apply ss_gI); (· first | (with_reducible assumption) | exact rfl); (· ((repeat (first | (with_reducible apply zr_e) | ((with_reducible apply zr_a); (· first | decide | omega)) | ((with_reducible apply zr_k); (· omega)) | (with_reducible apply zr_1e) | ((with_reducible apply zr_1a); (· first | decide | omega)))); (first | (with_reducible assumption) | exact rfl)))) | ((with_reducible apply ss_pI); (· first | (with_reducible assumption) | exact rfl)) | ((with_reducible apply ss_aI); (· first | (with_reducible assumption) | exact rfl); (· (repeat (first | (with_reducible assumption) | (with_reducible exact rfl) | (with_reducible apply zn_add) | (with_reducible apply zn_mul) | (with_reducible exact zi_lit2 _)))); (· first | omega | decide); (· decide); (· ((repeat (first | (with_reducible apply zr_e) | ((with_reducible apply zr_a); (· first | decide | omega)) | ((with_reducible apply zr_k); (· omega)) | (with_reducible apply zr_1e) | ((with_reducible apply zr_1a); (· first | decide | omega)))); (first | (with_reducible assumption) | exact rfl)))) | ((with_reducible apply ss_sI); (· first | (with_reducible assumption) | exact rfl); (· (repeat (first | (with_reducible assumption) | (with_reducible exact rfl) | (with_reducible apply zn_add) | (with_reducible apply zn_mul) | (with_reducible exact zi_lit2 _)))); (· first | omega | decide); (· decide)) | ((with_reducible apply ss_len); (· first | (with_reducible assumption) | exact rfl); (· decide)) | (with_reducible refine ss_as ?_) | (with_reducible refine ss_bor ?_) | (with_reducible refine ss_or ?_) | (with_reducible refine ss_bcl ?_) | (with_reducible refine ss_bcr ?_) | (with_reducible refine ss_cl ?_) | (with_reducible refine ss_cr ?_) | (first | ((with_reducible refine ss_biT ?_ ?_); (· first | (with_reducible assumption) | decide)) | ((with_reducible refine ss_biF ?_ ?_); (· first | (with_reducible assumption) | decide)) | ((with_reducible refine ss_iT ?_ ?_); (· first | (with_reducible assumption) | decide)) | ((with_reducible refine ss_iF ?_ ?_); (· first | (with_reducible assumption) | decide))) | ((with_reducible apply ss_pZ); (· first | (with_reducible assumption) | exact rfl); (· first | (with_reducible assumption) | exact Or.inl rfl | exact Or.inr rfl)) | ((with_reducible apply ss_dvL); (· first | (with_reducible assumption) | decide)) | ((with_reducible apply ss_rmL); (· first | (with_reducible assumption) | decide)) | ((with_reducible apply ss_rmI); (· first | (with_reducible assumption) | decide)) | ((with_reducible apply ss_rz1); (· first | (with_reducible assumption) | exact Or.inl rfl | exact Or.inr rfl))) | (with_reducible refine ss_pure hs ?_) | (with_reducible refine ss_pure hl ?_))
          refine ss_call hr ?_
          (repeat (first | (with_reducible refine ss_ret ?_) | (with_reducible refine ss_bret ?_) | ((with_reducible apply ss_rc); (· first | (with_reducible assumption) | exact rfl)) | ((with_reducible apply ss_pt); (· first | (with_reducible assumption) | exact rfl); (· exact rfl)) | ((with_reducible apply ss_gR); (· first | (with_reducible assumption) | exact rfl); (· (with_reducible assumption))) | ((with_reducible apply ss_gI); (· first | (with_reducible assumption) | exact rfl); (· ((repeat (first | (with_reducible apply zr_e) | ((with_reducible apply zr_a); (· first | decide | omega)) | ((with_reducible apply zr_k); (· omega)) | (with_reducible apply zr_1e) | ((with_reducible apply zr_1a); (· first | decide | omega)))); (first | (with_reducible assumption) | exact rfl)))) | ((with_reducible apply ss_pI); (· first | (with_reducible assumption) | exact rfl)) | ((with_reducible apply ss_aI); (· first | (with_reducible assumption) | exact rfl); (· (repeat (first | (with_reducible assumption) | (with_reducible exact rfl) | (with_reducible apply zn_add) | (with_reducible apply zn_mul) | (with_reducible exact zi_lit2 _)))); (· first | omega | decide); (· decide); (· ((repeat (first | (with_reducible apply zr_e) | ((with_reducible apply zr_a); (· first | decide | omega)) | ((with_reducible apply zr_k); (· omega)) | (with_reducible apply zr_1e) | ((with_reducible apply zr_1a); (· first | decide | omega)))); (first | (with_reducible assumption) | exact rfl)))) | ((with_reducible apply ss_sI); (· first | (with_reducible assumption) | exact rfl); (· (repeat (first | (with_reducible assumption) | (with_reducible exact rfl) | (with_reducible apply zn_add) | (with_reducible apply zn_mul) | (with_reducible exact zi_lit2 _)))); (· first | omega | decide); (· decide)) | ((with_reducible apply ss_len); (· first | (with_reducible assumption) | exact rfl); (· decide)) | (with_reducible refine ss_as ?_) | (with_reducible refine ss_bor ?_) | (with_reducible refine ss_or ?_) | (with_reducible refine ss_bcl ?_) | (with_reducible refine ss_bcr ?_) | (with_reducible refine ss_cl ?_) | (with_reducible refine ss_cr ?_) | (first | ((with_reducible refine ss_biT ?_ ?_); (· first | (with_reducible assumption) | decide)) | ((with_reducible refine ss_biF ?_ ?_); (· first | (with_reducible assumption) | decide)) | ((with_reducible refine ss_iT ?_ ?_); (· first | (with_reducible assumption) | decide)) | ((with_reducible refine ss_iF ?_ ?_); (· first | (with_reducible assumption) | decide))) | ((with_reducible apply ss_pZ); (· first | (with_reducible assumption) | exact rfl); (· first | (with_reducible assumption) | exact Or.inl rfl | exact Or.inr rfl)) | ((with_reducible apply ss_dvL); (· first | (with_reducible assumption) | decide)) | ((with_reducible apply ss_rmL); (· first | (with_reducible assumption) | decide)) | ((with_reducible apply ss_rmI); (· first | (with_reducible assumption) | decide)) | ((with_reducible apply ss_rz1); (· first | (with_reducible assumption) | exact Or.inl rfl | exact Or.inr rfl))))
          refine ⟨rfl, _, rfl, zf_u2 (zf_u2 (zf_refl _ _) rfl) rfl, ?_, mx_lg_fr (by rw [zu_a (by decide), zu_k (by decide)]) (by rw [zu_r (by decide), zu_r (by decide)]) m1, an_ref 112 0 113 (by decide) (by decide) (by decide)⟩
          rw [zu_r (by decide), zu_r (by decide)]; exact e1
        · have hq : ¬ Int32.ofNat n = (6 : Int32) := zi_ne (b := 6) h6 (by omega) (by omega)
          have hn : n < 6 := by omega
          rw [if_neg (show ¬ I 114 228 = 6 by rw [e]; exact hq)]
          have g2 : (213 : Int32) + 2 * Int32.ofNat n = Int32.ofNat (213 + 2 * n) := by
            have : (2 : Int32) * Int32.ofNat n = Int32.ofNat (2 * n) := (Int32.ofNat_mul 2 n).symm
            rw [this]; exact zi_add 213 (2 * n)
          have g3 : Int32.ofNat (213 + 2 * n) + 1 = Int32.ofNat (214 + 2 * n) := by rw [zi_s]; congr 1; omega
          have l2' : 213 + 2 * n < 5838 := by omega
          have l3' : 214 + 2 * n < 5838 := by omega
          have n1 : 228 ≠ 213 + 2 * n := by omega
          have n2 : 228 ≠ 214 + 2 * n := by omega
          have k4 : sf_u2 (sf_u2 I1 114 (213 + 2 * n) s) 114 (214 + 2 * n) v 114 228 = Int32.ofNat n := by rw [zu_k n2, zu_k n1]; exact k228
          have k5 : sf_u2 (sf_u2 (sf_u2 I1 114 (213 + 2 * n) s) 114 (214 + 2 * n) v) 114 228 (Int32.ofNat n + 1) 114 228 = Int32.ofNat n + 1 := zu_eq
          refine ss_pure hs ?_
          refine ss_or ?_
          refine ss_biF (by decide) ?_
          refine ss_as ?_
          refine ss_pure hl ?_
          refine ss_biF (by decide) ?_
          refine ss_as ?_
          refine ss_pt rfl rfl ?_
          refine ss_as ?_
          refine ss_aI rfl rfl (by decide) (by decide) k228 ?_
          refine ss_as ?_
          refine ss_bret ?_
          refine ss_as ?_
          refine ss_pt rfl rfl ?_
          refine ss_as ?_
          refine ss_aI rfl rfl (by decide) (by decide) k228 ?_
          refine ss_biF hq ?_
          rw [g2, g3]
          refine ss_as ?_
          refine ss_pt rfl rfl ?_
          refine ss_as ?_
          refine ss_sI rfl rfl l2' (by decide) ?_
          refine ss_as ?_
          refine ss_pt rfl rfl ?_
          refine ss_as ?_
          refine ss_sI rfl rfl l3' (by decide) ?_
          refine ss_as ?_
          refine ss_pt rfl rfl ?_
          refine ss_as ?_
          refine ss_aI rfl rfl (by decide) (by decide) k4 ?_
          refine ss_as ?_
          refine ss_sI rfl rfl (by decide) (by decide) ?_
          refine ss_as ?_
          refine ss_pt rfl rfl ?_
          refine ss_as ?_
          refine ss_aI rfl rfl (by decide) (by decide) k5 ?_
          refine ss_as ?_
          refine ss_rc rfl ?_
          refine ss_call (mx_good _) ?_
          refine ss_bret ?_
          refine ss_cl ?_
          have har : 0 ≤ Int32.ofNat n + 1 := by rw [zi_s]; exact zi_leL (a := 0) (by omega) (by omega)
          rw [e]
          refine ⟨rfl, _, rfl, zf_u2 (zf_u2 (zf_u2 (zf_u2 (zf_refl _ _) rfl) rfl) rfl) rfl, ?_, mx_lg_fr ?_ ?_ m1, an_l (fun k => ?_) (an_acc 112 0 113 (by decide) har)⟩
          · rw [zu_r (by decide)]
            show _ = kT (I 114) s v
            unfold kT
            rw [e, zi_ixn (by omega)]
            exact kS_u (kS_u (kS_u e1))
          · rw [zu_k (by decide), zu_a (by decide), zu_a (by decide), zu_a (by decide)]
          · rw [zu_r (by decide), zu_r (by decide), zu_r (by decide), zu_r (by decide)]
          · rw [zu_a (by decide), zu_a (by decide), zu_a (by decide)]
end
