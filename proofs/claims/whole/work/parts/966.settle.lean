/-! A text read by both: fault, tape. -/
section
variable {t : List (Nat × Nat)} {I : Nat → Nat → Int32} {J : Nat → Nat → Int64} {D : Nat → Nat → Option Nat} {T : Nat → Int32} {n : Nat} {K : Nat → Int32}
set_option maxRecDepth 20000 in
theorem tk_place (h : zr_tk I T n) {f : Nat} (hf : f ≤ tk_n T n) : I 105 f = Int32.ofNat (tkS T n f) := by
  obtain ⟨h1, h2, h3, h4, h5, h6, h7⟩ := h
  by_cases e : f = tk_n T n
  · subst e; rw [tkS_end]; exact h6
  · obtain ⟨s, s1, s2, s3⟩ := tk_n_sur (T := T) n f (by omega)
    rw [← s3, tkS_eq s1 s2]
    exact (h4 s s1 s2).2.1
set_option maxRecDepth 20000 in
theorem cx_settle0 (h : zr_tk I T n) {f : Nat} (hf : f ≤ tk_n T n) (h5 : zr_at I f) : jx_SF_settleText (some 0) 0 (zp_Z t I J D) = some (0, zp_Z t (sf_u2 (sf_u2 I 0 9 (Int32.ofNat (tkS T n f))) 95 1 0) J D) := by
  have hp := tk_place h hf
  have hn := tk_n_le (T := T) n
  have lf : f < 401 := by have := h.1; omega
  apply zp_wp_eq
  unfold jx_SF_settleText
  refine zp_wp_call (P := fun v τ => v = Int32.ofNat (tkS T n f) ∧ τ = zp_Z t I J D) ?_ ?_
  · refine ss_iT rfl ?_
    refine ss_pt rfl rfl ?_
    refine ss_rc rfl ?_
    unfold jx_Reader_place jx_Tokens_place
    refine ss_as ?_
    refine ss_pt rfl rfl ?_
    refine ss_as ?_
    refine ss_rc rfl ?_
    refine ss_as ?_
    refine ss_gI rfl (h5.2.2.1.trans hp) ?_
    refine ss_bret ?_
    refine ss_bret ?_
    exact ss_ret ⟨rfl, rfl⟩
  · rintro v τ ⟨rfl, rfl⟩
    refine ss_pI rfl ?_
    refine ss_pt rfl rfl ?_
    refine ss_pI rfl ?_
    refine ss_rz1 (Or.inl rfl) ?_
    exact ss_ret ⟨rfl, rfl⟩
set_option maxRecDepth 20000 in
theorem cx_settle1 : jx_SF_settleText (some 0) 1 (zp_Z t I J D) = some (1, zp_Z t (sf_u2 (sf_u2 I 0 9 (-1)) 95 1 0) J D) := by
  apply zp_wp_eq
  unfold jx_SF_settleText
  refine zp_wp_call (P := fun v τ => v = -1 ∧ τ = zp_Z t I J D) ?_ ?_
  · exact ss_iF (by decide) (ss_ret ⟨rfl, rfl⟩)
  · rintro v τ ⟨rfl, rfl⟩
    refine ss_pI rfl ?_
    refine ss_pt rfl rfl ?_
    refine ss_pI rfl ?_
    refine ss_rz1 (Or.inr rfl) ?_
    exact ss_ret ⟨rfl, rfl⟩
/-- the row that a law leaves -/
noncomputable def kN (K : Nat → Int32) (n m : Nat) (T : Nat → Int32) (l : Nat) : Nat → Int32 := kS (kL K n m (tkC T l) (tkV T l)) 229 (Int32.ofNat (n + 1))
set_option maxRecDepth 20000 in
theorem kN_lo {m l i : Nat} (hi : i < 231) (h9 : i ≠ 229) : kN K n m T l i = K i := by
  unfold kN; rw [kS_n h9, kL_lo hi]
set_option maxRecDepth 20000 in
theorem kN_hi {m l i : Nat} (hi : 231 ≤ i) : kN K n m T l i = kL K n m (tkC T l) (tkV T l) i := by
  unfold kN; rw [kS_n (by omega)]
set_option maxRecDepth 20000 in
/-- the new text, in the row -/
theorem kN_txt {l : Nat} {cs : List tx_C} (hn : n < 6) (hl : l ≤ 400) (ht : tx_text (tkC T l) (tkV T l) false (tk_n T l) 12 0 0 = .inr cs) : ks (kN K n (tk_n T l) T l) n false = cs ∧ zr_txt (kN K n (tk_n T l) T l) n false := by
  have h4 : tk_n T l ≤ 400 := by have := tk_n_le (T := T) l; omega
  have w : ∀ k, 231 ≤ k → kN K n (tk_n T l) T l k = kL K n (tk_n T l) (tkC T l) (tkV T l) k := fun k hk => kN_hi hk
  obtain ⟨z1, z2⟩ := kL_kz (K := K) (C := tkC T l) (V := tkV T l) (n := n) h4
  obtain ⟨c1, c2⟩ := kL_kc (K := K) (C := tkC T l) (V := tkV T l) (n := n) (by omega) h4
  have d1 : (fun k => if k < tk_n T l then tkC T l k else 0) = tkC T l := by
    funext k
    by_cases h : k < tk_n T l
    · rw [if_pos h]
    · rw [if_neg h]; unfold tkC; rw [if_neg h]
  have d2 : (fun k => if k < tk_n T l then tkV T l k else 0) = tkV T l := by
    funext k
    by_cases h : k < tk_n T l
    · rw [if_pos h]
    · rw [if_neg h]; unfold tkV; rw [if_neg h]
  rw [d1] at c1
  rw [d2] at c2
  have ez : kz (kN K n (tk_n T l) T l) n = tk_n T l := by rw [kz_w w]; exact z1
  have ec : kc (kN K n (tk_n T l) T l) n = tkC T l := by rw [kc_w w]; exact c1
  have ev : kv (kN K n (tk_n T l) T l) n = tkV T l := by rw [kv_w w]; exact c2
  have es : ks (kN K n (tk_n T l) T l) n false = cs := by unfold ks; rw [ec, ev, ez, ht]
  refine ⟨es, ?_⟩
  unfold zr_txt
  rw [es, ec, ev, ez, w _ (by omega)]
  exact ⟨z2, h4, tkV_0, ht, tx_text_cok (size := tk_n T l) tkV_0 (fun k hk => by unfold tkC; rw [if_neg (by omega)]) h4 12 0 0 (Nat.zero_le _) (by omega) cs ht⟩
set_option maxRecDepth 20000 in
theorem kN_other {m l : Nat} (hn : n < 6) (hm : m < 6) (hne : m ≠ n) (hl : l ≤ 400) (h : zr_txt K m false) : zr_txt (kN K n (tk_n T l) T l) m false := by
  have h4 : tk_n T l ≤ 400 := by have := tk_n_le (T := T) l; omega
  exact zr_txt_w (fun k hk => kN_hi hk) (kL_other (by omega) hm hne h4 h)
set_option maxRecDepth 20000 in
theorem zv_kN {m l : Nat} (hv : zv K) (h9 : K 229 = Int32.ofNat n) (hn : n < 6) : zv (kN K n m T l) := by
  have q : ∀ i, i < 231 → i ≠ 229 → kN K n m T l i = K i := fun i h1 h2 => kN_lo h1 h2
  have q9 : kN K n m T l 229 = Int32.ofNat (n + 1) := kS_e
  obtain ⟨v1, v2, v3, v4, v5, v6, v7, v8, v9, v10, v11, v12⟩ := hv
  refine ⟨fun i hi => by rw [q i (by omega) (by omega)]; exact v1 i hi, by rw [q 192 (by omega) (by omega)]; exact v2, by rw [q 193 (by omega) (by omega)]; exact v3, by rw [q 194 (by omega) (by omega)]; exact v4, fun i hi => by rw [q (195 + i) (by omega) (by omega)]; exact v5 i hi, fun i hi => by rw [q (213 + 2 * i) (by omega) (by omega)]; exact v6 i hi, by rw [q 225 (by omega) (by omega)]; exact v7, by rw [q 226 (by omega) (by omega)]; exact v8, by rw [q 227 (by omega) (by omega)]; exact v9, by rw [q 228 (by omega) (by omega)]; exact v10, ?_, ?_⟩
  · rw [q9]; exact ⟨zi_leL (a := 0) (by omega) (by omega), zi_leL (b := 6) (by omega) (by omega)⟩
  · rw [q9, q 230 (by omega) (by omega)]
    refine ⟨v12.1, ?_⟩
    have h1 := v12.2
    rw [h9] at h1
    have h2 : Int32.ofNat n < Int32.ofNat (n + 1) := zi_ltL (by omega) (by omega)
    exact Int32.lt_trans h1 h2
end
