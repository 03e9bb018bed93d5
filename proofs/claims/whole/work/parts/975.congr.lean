/-! Only the first 5838 cells of a row count. -/
section
variable {K K' : Nat → Int32} {n : Nat} {o : Bool}
set_option maxRecDepth 20000 in
theorem ks_c (h : ∀ k, k < 5838 → K' k = K k) (hn : n ≤ 6) (h4 : kz K n ≤ 400) : kz K' n = kz K n ∧ kc K' n = kc K n ∧ kv K' n = kv K n ∧ ks K' n o = ks K n o := by
  have ez : kz K' n = kz K n := by unfold kz; rw [h _ (by omega)]
  have ec : kc K' n = kc K n := by
    funext k; unfold kc; rw [ez]
    by_cases hk : k < kz K n
    · rw [if_pos hk, if_pos hk, h _ (by omega)]
    · rw [if_neg hk, if_neg hk]
  have ev : kv K' n = kv K n := by
    funext k; unfold kv; rw [ez]
    by_cases hk : k < kz K n
    · rw [if_pos hk, if_pos hk, h _ (by omega)]
    · rw [if_neg hk, if_neg hk]
  exact ⟨ez, ec, ev, by unfold ks; rw [ec, ev, ez]⟩
set_option maxRecDepth 20000 in
theorem zr_txt_c (h : ∀ k, k < 5838 → K' k = K k) (hn : n ≤ 6) (ht : zr_txt K n o) : zr_txt K' n o := by
  obtain ⟨ez, ec, ev, es⟩ := ks_c (o := o) h hn ht.2.1
  unfold zr_txt at *
  rw [es, ec, ev, ez, h _ (by omega)]; exact ht
set_option maxRecDepth 20000 in
theorem zv_c (h : ∀ k, k < 5838 → K' k = K k) (hv : zv K) : zv K' := by
  obtain ⟨v1, v2, v3, v4, v5, v6, v7, v8, v9, v10, v11, v12⟩ := hv
  exact ⟨fun i hi => by rw [h i (by omega)]; exact v1 i hi, by rw [h 192 (by omega)]; exact v2, by rw [h 193 (by omega)]; exact v3, by rw [h 194 (by omega)]; exact v4, fun i hi => by rw [h (195 + i) (by omega)]; exact v5 i hi, fun i hi => by rw [h (213 + 2 * i) (by omega)]; exact v6 i hi, by rw [h 225 (by omega)]; exact v7, by rw [h 226 (by omega)]; exact v8, by rw [h 227 (by omega)]; exact v9, by rw [h 228 (by omega)]; exact v10, by rw [h 229 (by omega)]; exact v11, by rw [h 229 (by omega), h 230 (by omega)]; exact v12⟩
set_option maxRecDepth 20000 in
theorem zr_off_c {I : Nat → Nat → Int32} {b : Nat} (h : ∀ k, k < 5838 → K' k = K k) (hO : zr_off I b K) : zr_off I b K' := by
  obtain ⟨q1, q2, q3, q4, q5, q6, q7, q8, q9, q10, q11, q12, q13, q14, q15⟩ := hO
  exact ⟨fun i hi => by rw [h i (by omega)]; exact q1 i hi, by rw [h 192 (by omega)]; exact q2, by rw [h 193 (by omega)]; exact q3, by rw [h 194 (by omega)]; exact q4, fun i hi => by rw [h (195 + i) (by omega)]; exact q5 i hi, fun i hi => by rw [h (201 + i) (by omega)]; exact q6 i hi, fun i hi => by rw [h (207 + i) (by omega)]; exact q7 i hi, fun i hi => by rw [h (213 + 2 * i) (by omega)]; exact q8 i hi, fun i hi => by rw [h (214 + 2 * i) (by omega)]; exact q9 i hi, by rw [h 225 (by omega)]; exact q10, by rw [h 226 (by omega)]; exact q11, by rw [h 227 (by omega)]; exact q12, by rw [h 228 (by omega)]; exact q13, by rw [h 229 (by omega)]; exact q14, by rw [h 230 (by omega)]; exact q15⟩
set_option maxRecDepth 20000 in
theorem zr_cl_c {t : List (Nat × Nat)} {I : Nat → Nat → Int32} {D : Nat → Nat → Option Nat} (h : ∀ k, k < 5838 → K' k = K k) (hC : zr_cl t I D K) : zr_cl t I D K' := by
  refine ⟨zr_off_c h hC.1, zv_c h hC.2.1, fun n hn => ?_⟩
  obtain ⟨c, hc6, hc⟩ := zv_229 hC.2.1
  rw [h 229 (by omega)] at hn
  have hn6 : n < 6 := by rw [hc, zi_ixn (by omega)] at hn; omega
  obtain ⟨p, h1, h2, h3, h4, h5⟩ := hC.2.2 n hn
  exact ⟨p, h1, h2, h3, zr_txt_c h (by omega) h4, by rw [(ks_c (o := false) h (by omega) h4.2.1).2.2.2]; exact h5⟩
end
