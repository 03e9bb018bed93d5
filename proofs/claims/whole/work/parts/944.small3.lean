section
variable {t : List (Nat × Nat)} {I : Nat → Nat → Int32} {J : Nat → Nat → Int64} {D : Nat → Nat → Option Nat} {K : Nat → Int32} {L : lg_L}
set_option maxRecDepth 20000 in
/-- forgetting: the row after -/
theorem zv_forget (hv : zv K) : zv (kS K 228 0) := by
  obtain ⟨v1, v2, v3, v4, v5, v6, v7, v8, v9, v10, v11, v12⟩ := hv
  exact ⟨fun i hi => by rw [kS_n (by omega)]; exact v1 i hi, by rw [kS_n (by omega)]; exact v2, by rw [kS_n (by omega)]; exact v3, by rw [kS_n (by omega)]; exact v4, fun i hi => by rw [kS_n (by omega)]; exact v5 i hi, fun i hi => by rw [kS_n (by omega)]; exact v6 i hi, by rw [kS_n (by omega)]; exact v7, by rw [kS_n (by omega)]; exact v8, by rw [kS_n (by omega)]; exact v9, by rw [kS_e]; decide, by rw [kS_n (by omega)]; exact v11, by rw [kS_n (by omega), kS_n (by omega)]; exact v12⟩
set_option maxRecDepth 20000 in
/-- case 31 -/
theorem CL_forget : CL (jx_SF_forget (some 0)) (jx_Mo_forget (some 112)) := by
  intro t I J D h
  have k28 : I 2 8 = I 114 228 := h.1.1.2.2.2.2.2.2.2.2.2.2.2.2.1
  have k9 : sf_u2 I 2 8 0 114 228 = I 114 228 := zu_a (by decide)
  unfold jx_SF_forget jx_Mo_forget
  refine ss_pt rfl rfl ?_
  refine ss_pt rfl rfl ?_
  refine ss_gI rfl k28 ?_
  refine ss_pt rfl rfl ?_
  refine ss_pt rfl rfl ?_
  refine ss_pI rfl ?_
  refine ss_ret ?_
  refine ss_pt rfl rfl ?_
  refine ss_aI rfl rfl (by decide) (by decide) k9 ?_
  refine ss_pt rfl rfl ?_
  refine ss_sI rfl rfl (by decide) (by decide) ?_
  refine ss_ret ?_
  refine CL.fin ?_ rfl
  obtain ⟨h1, h2, ⟨L, l1, l2, l3⟩, h4, ⟨g1, g2, g3, g4, g5, g6, g7⟩, h6, h7, h8, h9⟩ := h
  have row : ∀ a, a ≠ 2 → a ≠ 114 → sf_u2 (sf_u2 I 2 8 0) 114 228 0 a = I a := fun a q1 q2 => by rw [zu_r q2, zu_r q1]
  have e114 : sf_u2 (sf_u2 I 2 8 0) 114 228 0 114 = kS (I 114) 228 0 := kS_u (zu_r (by decide))
  have q : ∀ i, i ≠ 228 → kS (I 114) 228 0 i = I 114 i := fun i hi => kS_n hi
  refine ⟨?_, h2, ⟨L, cx_lg_fr (fun k hk => by rw [row 20 (by decide) (by decide)]) (fun a q1 q2 => row a (by omega) (by omega)) l1, mx_lg_fr (by rw [row 112 (by decide) (by decide)]) (row 133 (by decide) (by decide)) l2, l3⟩, tp_fr (by rw [row 95 (by decide) (by decide)]) (by rw [row 112 (by decide) (by decide)]) (row 96 (by decide) (by decide)) (row 119 (by decide) (by decide)) h4, ⟨?_, ?_, ?_, ?_, ?_, ?_, ?_⟩, ?_, im_fr (row 115 (by decide) (by decide)) (row 116 (by decide) (by decide)) (fun a q => row a (by omega) (by omega)) h7, im_fr (row 115 (by decide) (by decide)) (row 116 (by decide) (by decide)) (fun a q => row a (by omega) (by omega)) h8, h9⟩
  · rw [e114]
    obtain ⟨q1, q2, q3, q4, q5, q6, q7, q8, q9, q10, q11, q12, q13, q14, q15⟩ := h1.1
    refine zr_cl_w h1 (fun k hk => q k (by omega)) (q 229 (by omega)) (fun x hx => row x (by omega) (by omega)) ?_ (zv_forget h1.2.1)
    refine ⟨fun i hi => ?_, ?_, ?_, ?_, fun i hi => ?_, fun i hi => ?_, fun i hi => ?_, fun i hi => ?_, fun i hi => ?_, ?_, ?_, ?_, ?_, ?_, ?_⟩
    · rw [q i (by omega)]; exact q1 i hi
    · rw [q 192 (by omega)]; exact q2
    · rw [q 193 (by omega)]; exact q3
    · rw [q 194 (by omega)]; exact q4
    · rw [q (195 + i) (by omega)]; exact q5 i hi
    · rw [q (201 + i) (by omega)]; exact q6 i hi
    · rw [q (207 + i) (by omega)]; exact q7 i hi
    · rw [q (213 + 2 * i) (by omega)]; exact q8 i hi
    · rw [q (214 + 2 * i) (by omega)]; exact q9 i hi
    · rw [q 225 (by omega)]; exact q10
    · rw [q 226 (by omega)]; exact q11
    · rw [q 227 (by omega)]; exact q12
    · rw [kS_e]; rw [zu_a (by decide), zu_eq]
    · rw [q 229 (by omega)]; exact q14
    · rw [q 230 (by omega)]; exact q15
  · rw [row 0 (by decide) (by decide), row 112 (by decide) (by decide)]; exact g1
  · rw [row 108 (by decide) (by decide), row 113 (by decide) (by decide)]; exact g2
  · rw [row 0 (by decide) (by decide), row 112 (by decide) (by decide)]; exact g3
  · rw [row 0 (by decide) (by decide), row 112 (by decide) (by decide)]; exact g4
  · rw [row 0 (by decide) (by decide), row 112 (by decide) (by decide)]; exact g5
  · rw [row 0 (by decide) (by decide), row 112 (by decide) (by decide)]; exact g6
  · rw [row 110 (by decide) (by decide), row 138 (by decide) (by decide)]; exact g7
  · intro k hk; rw [row 118 (by decide) (by decide)]; exact h6 k hk
set_option maxRecDepth 20000 in
theorem zv_ku (hv : zv K) {f : Int32} (hf : sp_isLaw K f = true) : zv (kS K 230 f) := by
  have h30 := (sp_isLaw_iff hv).mp hf
  obtain ⟨v1, v2, v3, v4, v5, v6, v7, v8, v9, v10, v11, v12⟩ := hv
  refine ⟨fun i hi => by rw [kS_n (by omega)]; exact v1 i hi, by rw [kS_n (by omega)]; exact v2, by rw [kS_n (by omega)]; exact v3, by rw [kS_n (by omega)]; exact v4, fun i hi => by rw [kS_n (by omega)]; exact v5 i hi, fun i hi => by rw [kS_n (by omega)]; exact v6 i hi, by rw [kS_n (by omega)]; exact v7, by rw [kS_n (by omega)]; exact v8, by rw [kS_n (by omega)]; exact v9, by rw [kS_n (by omega)]; exact v10, by rw [kS_n (by omega)]; exact v11, ?_⟩
  rw [kS_e, kS_n (by omega)]
  rcases h30 with h | h
  · subst h; refine ⟨by decide, ?_⟩
    (simp only [Int32.le_iff_toInt_le, Int32.lt_iff_toInt_lt, ← Int32.toInt_inj, Int32.toInt_ofNat', Int32.reduceToInt, zi_ix, Int32.toInt_add, Int32.toInt_sub, Int32.toInt_mul, Int32.toInt_neg, zi_bm, zi_bms, zp_in] at *; omega)
  · exact ⟨by (simp only [Int32.le_iff_toInt_le, Int32.lt_iff_toInt_lt, ← Int32.toInt_inj, Int32.toInt_ofNat', Int32.reduceToInt, zi_ix, Int32.toInt_add, Int32.toInt_sub, Int32.toInt_mul, Int32.toInt_neg, zi_bm, zi_bms, zp_in] at *; omega), h.2⟩
set_option maxRecDepth 20000 in
theorem zr_cl_ku (hC : zr_cl t I D K) {f : Int32} (hf : sp_isLaw K f = true) {I' : Nat → Nat → Int32} (h6 : I' 2 6 = f) (h2 : ∀ k, k ≠ 6 → I' 2 k = I 2 k) (hr : ∀ a, a ≠ 2 → a ≠ 0 → a ≠ 108 → I' a = I a) : zr_cl t I' D (kS K 230 f) := by
  obtain ⟨q1, q2, q3, q4, q5, q6, q7, q8, q9, q10, q11, q12, q13, q14, q15⟩ := hC.1
  have q : ∀ i, i ≠ 230 → kS K 230 f i = K i := fun i hi => kS_n hi
  refine zr_cl_w hC (fun k hk => q k (by omega)) (q 229 (by omega)) (fun x hx => hr x (by omega) (by omega) (by omega)) ?_ (zv_ku hC.2.1 hf)
  refine ⟨fun i hi => ?_, ?_, ?_, ?_, fun i hi => ?_, fun i hi => ?_, fun i hi => ?_, fun i hi => ?_, fun i hi => ?_, ?_, ?_, ?_, ?_, ?_, ?_⟩
  · rw [q i (by omega), hr _ (by omega) (by omega) (by omega)]; exact q1 i hi
  · rw [q 192 (by omega), hr _ (by omega) (by omega) (by omega)]; exact q2
  · rw [q 193 (by omega), hr _ (by omega) (by omega) (by omega)]; exact q3
  · rw [q 194 (by omega), hr _ (by omega) (by omega) (by omega)]; exact q4
  · rw [q (195 + i) (by omega), hr _ (by omega) (by omega) (by omega)]; exact q5 i hi
  · rw [q (201 + i) (by omega), hr _ (by omega) (by omega) (by omega)]; exact q6 i hi
  · rw [q (207 + i) (by omega), hr _ (by omega) (by omega) (by omega)]; exact q7 i hi
  · rw [q (213 + 2 * i) (by omega), hr _ (by omega) (by omega) (by omega)]; exact q8 i hi
  · rw [q (214 + 2 * i) (by omega), hr _ (by omega) (by omega) (by omega)]; exact q9 i hi
  · rw [q 225 (by omega), h2 _ (by omega)]; exact q10
  · rw [q 226 (by omega), h2 _ (by omega)]; exact q11
  · rw [q 227 (by omega), h2 _ (by omega)]; exact q12
  · rw [q 228 (by omega), h2 _ (by omega)]; exact q13
  · rw [q 229 (by omega), h2 _ (by omega)]; exact q14
  · rw [kS_e]; exact h6
def sp_force (K : Nat → Int32) (f : Int32) : Int32 × (Nat → Int32) := if sp_isLaw K f = true then (K 230, kS K 230 f) else (-2, K)
end
