/-! orders: the model runs a clause. -/
set_option maxRecDepth 20000 in
theorem zl_gA {β γ δ S : Type} {body : β → sf_M (β ⊕ γ)} {kk : γ → sf_M δ} {Q : δ → sf_St → Prop} {t : List (Nat × Nat)} {J : Nat → Nat → Int64} {D : Nat → Nat → Option Nat} {I : Nat → Nat → Int32} {b0 : β} (enc : Nat → S → β) (a L : Nat) {s0 : S} (hb : b0 = enc a s0) (hL : L < 999999) (haL : a ≤ L)
    (P : Nat → S → (Nat → Nat → Int32) → (Nat → Nat → Int64) → Prop) (h0 : P a s0 I J)
    (hs : ∀ i s I J, a ≤ i → i < L → P i s I J → zp_wp (body (enc i s)) (fun r τ => (∃ s' I' J', r = .inl (enc (i + 1) s') ∧ τ = zp_Z t I' J' D ∧ P (i + 1) s' I' J') ∨ (∃ g, r = .inr g ∧ zp_wp (kk g) Q τ)) (zp_Z t I J D))
    (he : ∀ s I J, P L s I J → zp_wp (body (enc L s)) (fun r τ => ∃ g, r = .inr g ∧ zp_wp (kk g) Q τ) (zp_Z t I J D)) : zp_wp (sf_bnd (sf_loop body sf_fuel b0) kk) Q (zp_Z t I J D) := by
  subst hb
  refine zp_loop_b (fun n b σ => ∃ i s I' J', a ≤ i ∧ i ≤ L ∧ n = L - i ∧ b = enc i s ∧ σ = zp_Z t I' J' D ∧ P i s I' J') (L - a) (by unfold sf_fuel; omega) ⟨a, s0, I, J, by omega, haL, rfl, rfl, rfl, h0⟩ ?_
  rintro n b σ ⟨i, s, I', J', hai, hiL, rfl, rfl, rfl, hP⟩
  by_cases hi : i < L
  · refine zp_wp_mono (hs i s I' J' hai hi hP) fun r τ h => ?_
    rcases h with ⟨s', I'', J'', rfl, rfl, h⟩ | ⟨g, rfl, h⟩
    · exact ⟨L - (i + 1), by omega, i + 1, s', I'', J'', by omega, by omega, rfl, rfl, rfl, h⟩
    · exact h
  · have : i = L := by omega
    subst this
    refine zp_wp_mono (he s I' J' hP) fun r τ h => ?_
    obtain ⟨g, rfl, h⟩ := h
    exact h
def smL (v : Int64) : Int32 := if lg_cmp v 0 < 0 then -1 else if lg_cmp v 1000000 ≤ 0 then v.toInt32 else -1
def sm (x : Int32) : Int32 := if 0 ≤ x ∧ x ≤ 1000000 then x else -1
set_option maxRecDepth 20000 in
theorem ze_small (v : Int64) : jx_Mo_small v = sf_ret (smL v) := by
  unfold jx_Mo_small smL; split
  · rfl
  · split <;> rfl
set_option maxRecDepth 20000 in
theorem smL_sm (x : Int32) : smL x.toInt64 = sm x := by
  have e1 : (lg_cmp x.toInt64 0 < 0) = ¬ (0 ≤ x) := by
    have h : (lg_cmp x.toInt64 0 < 0) = ¬ (0 ≤ lg_cmp x.toInt64 0) := by
      apply propext
      exact (Int32.not_le).symm
    rw [h, lg_c2, Int64.le_iff_toInt_le, Int32.le_iff_toInt_le, Int32.toInt_toInt64]
    rfl
  have e2 : (lg_cmp x.toInt64 1000000 ≤ 0) = (x ≤ 1000000) := by
    rw [lg_c3, Int64.le_iff_toInt_le, Int32.le_iff_toInt_le, Int32.toInt_toInt64]
    rfl
  unfold smL sm
  by_cases h0 : 0 ≤ x
  · rw [if_neg (by rw [e1]; exact not_not_intro h0)]
    by_cases h1 : x ≤ 1000000
    · rw [if_pos (by rw [e2]; exact h1), if_pos ⟨h0, h1⟩, tl_back]
    · rw [if_neg (by rw [e2]; exact h1), if_neg (fun h => h1 h.2)]
  · rw [if_pos (by rw [e1]; exact h0), if_neg (fun h => h0 h.1)]
set_option maxRecDepth 20000 in
theorem sm_st {x : Int32} : zs_st (sm x) = zs_st x ∧ (zs_st x = true → sm x = x) := by
  unfold sm
  by_cases h : 0 ≤ x ∧ x ≤ 1000000
  · rw [if_pos h]; exact ⟨rfl, fun _ => rfl⟩
  · rw [if_neg h]
    have hx : zs_st x = false := by
      unfold zs_st
      rw [← Bool.not_eq_true, zs_inT]
      rintro ⟨h1, h2⟩
      exact h ⟨h1, by (simp only [Int32.le_iff_toInt_le, Int32.lt_iff_toInt_lt, ← Int32.toInt_inj, Int32.toInt_ofNat', Int32.reduceToInt, zi_ix, Int32.toInt_add, Int32.toInt_sub, Int32.toInt_mul, Int32.toInt_neg, zi_bm, zi_bms, zp_in] at *; omega)⟩
    exact ⟨by rw [hx]; rfl, fun e => by rw [hx] at e; cases e⟩
set_option maxRecDepth 20000 in
theorem sm_buy (s a b : Int32) (K : Nat → Int32) (L : lg_L) : sp_buy s (sm a) (sm b) K L = sp_buy s a b K L := by
  by_cases h : zs_st a = true ∧ zs_st b = true
  · rw [sm_st.2 h.1, sm_st.2 h.2]
  · have h1 : ∀ u v, ¬ (zs_st u = true ∧ zs_st v = true) → zs_bought s u v = false := by
      intro u v hh
      unfold zs_bought zs_leg
      cases hu : zs_st u <;> cases hv : zs_st v <;> simp_all
    unfold sp_buy
    rw [h1 a b h, h1 (sm a) (sm b) (by rw [sm_st.1, sm_st.1]; exact h), if_neg (by decide), if_neg (by decide)]
set_option maxRecDepth 20000 in
theorem sm_save (a : Int32) (K : Nat → Int32) (L : lg_L) : sp_save (sm a) K L = sp_save a K L := by
  unfold sm
  by_cases h : 0 ≤ a ∧ a ≤ 1000000
  · rw [if_pos h]
  · rw [if_neg h]
    have hx : zs_in 1 a 9999 = false := by
      rw [← Bool.not_eq_true, zs_inT]
      rintro ⟨h1, h2⟩
      exact h ⟨by (simp only [Int32.le_iff_toInt_le, Int32.lt_iff_toInt_lt, ← Int32.toInt_inj, Int32.toInt_ofNat', Int32.reduceToInt, zi_ix, Int32.toInt_add, Int32.toInt_sub, Int32.toInt_mul, Int32.toInt_neg, zi_bm, zi_bms, zp_in] at *; omega), by (simp only [Int32.le_iff_toInt_le, Int32.lt_iff_toInt_lt, ← Int32.toInt_inj, Int32.toInt_ofNat', Int32.reduceToInt, zi_ix, Int32.toInt_add, Int32.toInt_sub, Int32.toInt_mul, Int32.toInt_neg, zi_bm, zi_bms, zp_in] at *; omega)⟩
    unfold sp_save
    have hy : zs_in 1 (-1) 9999 = false := by decide
    rw [hx, hy, if_neg (by decide), if_neg (by decide)]
set_option maxRecDepth 20000 in
theorem sm_ride (a b : Int32) {K : Nat → Int32} (hv : zv K) (L : lg_L) : sp_ride (sm a) (sm b) K L = sp_ride a b K L := by
  unfold sp_ride
  rw [sm_st.1]
  by_cases hb : zs_st b = true
  · rw [if_pos hb, if_pos hb, sm_st.2 hb]
    unfold sm
    by_cases h : 0 ≤ a ∧ a ≤ 1000000
    · rw [if_pos h]
    · rw [if_neg h]
      have h6 := hv.2.2.2.2.2.2.2.2.1.2
      have hx : sp_has K a = false := by
        unfold sp_has
        rw [← Bool.not_eq_true, Bool.and_eq_true, decide_eq_true_eq, decide_eq_true_eq]
        rintro ⟨h1, h2⟩
        exact h ⟨h1, by (simp only [Int32.le_iff_toInt_le, Int32.lt_iff_toInt_lt, ← Int32.toInt_inj, Int32.toInt_ofNat', Int32.reduceToInt, zi_ix, Int32.toInt_add, Int32.toInt_sub, Int32.toInt_mul, Int32.toInt_neg, zi_bm, zi_bms, zp_in] at *; omega)⟩
      have hy : sp_has K (-1) = false := rfl
      rw [hx, hy, if_neg (by decide), if_neg (by decide)]
  · rw [if_neg hb, if_neg hb]
section
variable {t : List (Nat × Nat)} {I : Nat → Nat → Int32} {J : Nat → Nat → Int64} {D : Nat → Nat → Option Nat} {K : Nat → Int32} {L : lg_L} {l : Int32}
def zk_ob (a k : Nat) : Bool := zk_dj a k || (a == 112 && k == 28)
set_option maxRecDepth 20000 in
theorem zk_dj_ob (a k : Nat) (h : zk_dj a k = true) : zk_ob a k = true := by unfold zk_ob; rw [h]; rfl
set_option maxRecDepth 20000 in
theorem mx_obeys (hK : I 114 = K) (hM : zr_ml K) (hL : mx_lg I L) {k : Nat} (hk : k ≤ 4) (h46 : I 112 46 = od_code k) {a b : Int32} (h0 : k ≤ 3 → J 137 0 = a.toInt64) (h1 : k ≤ 2 → J 137 1 = b.toInt64) (h28 : I 112 28 = l) : zp_wp (jx_Mo_obeys (some 112)) (fun r τ => r = (od_do (Int32.ofNat k) a b K L).1 ∧ ∃ I', τ = zp_Z t I' J D ∧ zf zk_ob I I' ∧ I' 114 = (od_do (Int32.ofNat k) a b K L).2.1 ∧ mx_lg I' (od_do (Int32.ofNat k) a b K L).2.2 ∧ I' 112 28 = if k = 2 ∧ 0 ≤ (od_do (Int32.ofNat k) a b K L).1 then (od_do (Int32.ofNat k) a b K L).1 else l) (zp_Z t I J D) := by
  unfold jx_Mo_obeys
  refine ss_pt rfl rfl ?_
  refine ss_aL (m := 0) rfl rfl (by decide) (by decide) rfl ?_
  refine ss_pure (ze_small _) ?_
  refine ss_pt rfl rfl ?_
  refine ss_aL (m := 1) rfl rfl (by decide) (by decide) rfl ?_
  refine ss_pure (ze_small _) ?_
  refine ss_gI rfl h46 ?_
  have fin : ∀ (g : sf_M Int32) (d : DSp), DM g d → k ≠ 2 → od_do (Int32.ofNat k) a b K L = d K L → zp_wp (sf_bnd (sf_rc 11 (some 112) g) fun x => sf_ret x) (fun r τ => r = (od_do (Int32.ofNat k) a b K L).1 ∧ ∃ I', τ = zp_Z t I' J D ∧ zf zk_ob I I' ∧ I' 114 = (od_do (Int32.ofNat k) a b K L).2.1 ∧ mx_lg I' (od_do (Int32.ofNat k) a b K L).2.2 ∧ I' 112 28 = if k = 2 ∧ 0 ≤ (od_do (Int32.ofNat k) a b K L).1 then (od_do (Int32.ofNat k) a b K L).1 else l) (zp_Z t I J D) := by
    intro g d hd hk2 e
    refine ss_rc rfl ?_
    refine zp_wp_call (hd t I J D K L hK hM hL) ?_
    rintro r τ ⟨rfl, I1, rfl, f1, c1, l1⟩
    rw [e]
    refine ss_ret ⟨rfl, I1, rfl, zf_mono f1 zk_dj_ob, c1, l1, ?_⟩
    rw [if_neg (fun h => hk2 h.1), f1 112 28 rfl]; exact h28
  have : k = 0 ∨ k = 1 ∨ k = 2 ∨ k = 3 ∨ k = 4 := by omega
  rcases this with rfl | rfl | rfl | rfl | rfl
  · refine ss_iF (by decide) (ss_iT (by decide) ?_)
    rw [h0 (by omega), h1 (by omega), smL_sm, smL_sm]
    exact fin _ _ (DM_buy 0 (sm a) (sm b)) (by decide) (sm_buy 0 a b K L).symm
  · refine ss_iT (by decide) ?_
    rw [h0 (by omega), h1 (by omega), smL_sm, smL_sm]
    exact fin _ _ (DM_buy 1 (sm a) (sm b)) (by decide) (sm_buy 1 a b K L).symm
  · refine ss_iF (by decide) (ss_iF (by decide) (ss_iF (by decide) (ss_iF (by decide) ?_)))
    rw [h0 (by omega), h1 (by omega), smL_sm, smL_sm]
    have e : od_do (Int32.ofNat 2) a b K L = sp_ride (sm a) (sm b) K L := (sm_ride a b hM.1 L).symm
    refine ss_rc rfl ?_
    refine zp_wp_call (DM_ride (sm a) (sm b) t I J D K L hK hM hL) ?_
    rintro r τ ⟨rfl, I1, rfl, f1, c1, l1⟩
    rw [e]
    have g28 : I1 112 28 = l := (f1 112 28 rfl).trans h28
    have key : ∀ v, v = (if 0 ≤ (sp_ride (sm a) (sm b) K L).1 then (sp_ride (sm a) (sm b) K L).1 else l) → zp_wp (sf_bnd (sf_pI 11 28 (some 112) v) fun _ => sf_ret (sp_ride (sm a) (sm b) K L).1) (fun r τ => r = (sp_ride (sm a) (sm b) K L).1 ∧ ∃ I', τ = zp_Z t I' J D ∧ zf zk_ob I I' ∧ I' 114 = (sp_ride (sm a) (sm b) K L).2.1 ∧ mx_lg I' (sp_ride (sm a) (sm b) K L).2.2 ∧ I' 112 28 = if 2 = 2 ∧ 0 ≤ (sp_ride (sm a) (sm b) K L).1 then (sp_ride (sm a) (sm b) K L).1 else l) (zp_Z t I1 J D) := by
      intro v hv
      refine ss_pI rfl ?_
      refine ss_ret ⟨rfl, _, rfl, zf_u2 (zf_mono f1 zk_dj_ob) rfl, by rw [zu_r (by decide)]; exact c1, mx_lg_fr (zu_k (by decide)) (zu_r (by decide)) l1, ?_⟩
      rw [zu_eq, hv]
      by_cases h : 0 ≤ (sp_ride (sm a) (sm b) K L).1
      · rw [if_pos h, if_pos ⟨rfl, h⟩]
      · rw [if_neg h, if_neg (fun h' => h h'.2)]
    by_cases h : 0 ≤ (sp_ride (sm a) (sm b) K L).1
    · refine ss_biT h (ss_bret (key _ ?_))
      rw [if_pos h]
    · refine ss_biF h ?_
      refine ss_as ?_
      refine ss_gI rfl g28 (ss_bret (key _ ?_))
      rw [if_neg h]
  · refine ss_iF (by decide) (ss_iF (by decide) (ss_iT (by decide) ?_))
    rw [h0 (by omega), smL_sm]
    exact fin _ _ (DM_save (sm a)) (by decide) (sm_save a K L).symm
  · refine ss_iF (by decide) (ss_iF (by decide) (ss_iF (by decide) (ss_iT (by decide) ?_)))
    exact fin _ _ DM_pass (by decide) rfl
end
