/-! orders: the model goes along a clause. -/
def zk_g0 (a k : Nat) : Bool := a == 112 && (k == 22 || k == 24 || (44 < k && k < 49))
set_option maxRecDepth 20000 in
theorem zk_ev_g0 {I I' : Nat → Nat → Int32} (h : zf zk_ev I I') : zf zk_g0 I I' := zf_mono h (fun a k e => by
  simp only [zk_ev, Bool.or_eq_true, Bool.and_eq_true, beq_iff_eq] at e
  simp only [zk_g0, Bool.or_eq_true, Bool.and_eq_true, beq_iff_eq, decide_eq_true_eq]
  omega)
def oE (K : Nat → Int32) (d l : Int32) (I : Nat → Nat → Int32) : Prop := ev_env K 6 I ∧ I 112 25 = 1 ∧ I 112 27 = d ∧ I 112 28 = l
section
variable {t : List (Nat × Nat)} {I : Nat → Nat → Int32} {J : Nat → Nat → Int64} {D : Nat → Nat → Option Nat} {K : Nat → Int32} {d l : Int32}
set_option maxRecDepth 20000 in
theorem oE_fr {I' : Nat → Nat → Int32} (h : oE K d l I) (hf : zf zk_g0 I I') : oE K d l I' := by
  obtain ⟨⟨h1, h2, h3, h4⟩, h5, h6, h7⟩ := h
  exact ⟨⟨(zf_row hf (fun k => rfl)).trans h1, (hf 112 23 rfl).trans h2, h3, h4⟩, (hf 112 25 rfl).trans h5, (hf 112 27 rfl).trans h6, (hf 112 28 rfl).trans h7⟩
set_option maxRecDepth 20000 in
theorem mx_oVal (hv : zv K) (h : oE K d l I) : (∀ x kk, zs_in 13 x 18 = true → jx_Mo_orderValue (some 112) x kk (zp_Z t I J D) = some (ow K d l (sf_ix (x - 13)), zp_Z t I J D)) ∧ (∀ kk, zs_in 0 kk 5 = true → jx_Mo_orderValue (some 112) 19 kk (zp_Z t I J D) = some (ow K d l (sf_ix (6 + kk)), zp_Z t I J D)) := by
  obtain ⟨⟨hK, -, -, -⟩, h25, h27, h28⟩ := h
  have k192 : I 114 192 = K 192 := by rw [hK]
  have k193 : I 114 193 = K 193 := by rw [hK]
  have k194 : I 114 194 = K 194 := by rw [hK]
  refine ⟨fun x kk hx => ?_, fun kk hk => ?_⟩
  · rw [zs_inT] at hx
    obtain ⟨u, hu, e⟩ := zi_rng (x := x - 13) (n := 5) (by have := hx.1; have := hx.2; (simp only [Int32.le_iff_toInt_le, Int32.lt_iff_toInt_lt, ← Int32.toInt_inj, Int32.toInt_ofNat', Int32.reduceToInt, zi_ix, Int32.toInt_add, Int32.toInt_sub, Int32.toInt_mul, Int32.toInt_neg, zi_bm, zi_bms, zp_in] at *; omega)) (by have := hx.1; have := hx.2; (simp only [Int32.le_iff_toInt_le, Int32.lt_iff_toInt_lt, ← Int32.toInt_inj, Int32.toInt_ofNat', Int32.reduceToInt, zi_ix, Int32.toInt_add, Int32.toInt_sub, Int32.toInt_mul, Int32.toInt_neg, zi_bm, zi_bms, zp_in] at *; omega)) (by omega)
    rw [e, zi_ixn (by omega)]
    have ex : x = Int32.ofNat (u + 13) := by
      rw [← Int32.sub_add_cancel x 13, e]
      exact zi_add u 13
    apply zp_wp_eq
    unfold jx_Mo_orderValue
    have : u = 0 ∨ u = 1 ∨ u = 2 ∨ u = 3 ∨ u = 4 ∨ u = 5 := by omega
    rcases this with rfl | rfl | rfl | rfl | rfl | rfl <;> rw [ex]
    · refine ss_iT (by decide) ?_
      refine ss_pt rfl rfl (ss_aI rfl rfl (by decide) (by decide) k194 (ss_ret ⟨rfl, rfl⟩))
    · refine ss_iF (by decide) (ss_iT (by decide) ?_)
      exact ss_gI rfl h27 (ss_ret ⟨rfl, rfl⟩)
    · refine ss_iF (by decide) (ss_iF (by decide) (ss_iT (by decide) ?_))
      exact ss_gI rfl h28 (ss_ret ⟨rfl, rfl⟩)
    · refine ss_iF (by decide) (ss_iF (by decide) (ss_iF (by decide) (ss_iT (by decide) ?_)))
      refine ss_pt rfl rfl (ss_aI rfl rfl (by decide) (by decide) k192 (ss_ret ⟨rfl, rfl⟩))
    · refine ss_iF (by decide) (ss_iF (by decide) (ss_iF (by decide) (ss_iF (by decide) (ss_iT (by decide) ?_))))
      refine ss_pt rfl rfl (ss_aI rfl rfl (by decide) (by decide) k193 (ss_ret ⟨rfl, rfl⟩))
    · refine ss_iF (by decide) (ss_iF (by decide) (ss_iF (by decide) (ss_iF (by decide) (ss_iF (by decide) (ss_iT (by decide) ?_)))))
      exact ss_rc rfl (ss_call (mx_heldAll hK) (ss_ret ⟨rfl, rfl⟩))
  · rw [zs_inT] at hk
    obtain ⟨u, hu, rfl⟩ := zi_rng (n := 5) hk.1 hk.2 (by omega)
    have e6 : (6 : Int32) + Int32.ofNat u = Int32.ofNat (6 + u) := zi_add 6 u
    have e195 : (195 : Int32) + Int32.ofNat u = Int32.ofNat (195 + u) := zi_add 195 u
    rw [e6, zi_ixn (by omega), ow_6]
    have kst : I 114 (195 + u) = K (195 + u) := by rw [hK]
    have hT := mx_isTrain (t := t) (J := J) (D := D) hK hv (Int32.ofNat u)
    apply zp_wp_eq
    unfold jx_Mo_orderValue
    refine ss_iF (by decide) (ss_iF (by decide) (ss_iF (by decide) (ss_iF (by decide) (ss_iF (by decide) (ss_iF (by decide) ?_)))))
    refine ss_rc rfl (ss_call hT ?_)
    cases hb : sp_has K (Int32.ofNat u) with
    | false => exact ss_iT rfl (ss_ret ⟨rfl, rfl⟩)
    | true =>
      refine ss_iF (by decide) ?_
      refine ss_pt rfl rfl ?_
      refine ss_aI rfl e195 (by omega) (by decide) kst ?_
      refine ss_pure (ze_ones _) ?_
      refine ss_ret ⟨?_, rfl⟩
      obtain ⟨b, hb', eb⟩ := zi_rng (n := 255) (hv.2.2.2.2.1 u (by omega)).1 (hv.2.2.2.2.1 u (by omega)).2 (by omega)
      rw [if_pos rfl, eb, zs_ones_pop b (by omega)]
set_option maxRecDepth 20000 in
theorem oE_w (hv : zv K) (h : oE K d l I) : ev_w t J D 6 (ow K d l) true I := by
  unfold ev_w
  rw [if_pos rfl]
  exact ⟨h.2.1, rfl, (mx_oVal hv h).1, (mx_oVal hv h).2⟩
set_option maxRecDepth 20000 in
theorem tx_dn_den {w : Nat → Int32} {xs : tx_L} (h : xs ≠ []) : tx_dn w xs = tx_den w xs := by
  cases xs with
  | nil => exact absurd rfl h
  | cons a b => rfl
set_option maxRecDepth 20000 in
/-- one SUM -/
theorem mx_oSum (hv : zv K) (htx : zr_txt K 6 true) (hE : oE K d l I) {p l0 j : Nat} {r0 : Nat × Nat × tx_L} (hj : j < 2) (hp : p ≤ kz K 6) (hl : l0 ≤ 50) (hs : tx_sum (kc K 6) (kv K 6) true 8 p l0 = .inr r0) (h22 : I 112 22 = Int32.ofNat (400 * 6 + p)) {live z : Int32} (hlv : ev_b live) (h47 : I 112 47 = z) (hz : ev_b z) : zp_wp (
  sf_bnd (sf_pI 11 24 (some 112) (0 : Int32)) fun _ =>
  sf_bnd (sf_gR 11 49 (some 112)) fun x15 =>
  sf_bnd (sf_rc 11 (some 112) (jx_G4 sf_deep 0 (some 112) live)) fun x16 =>
  sf_bnd (sf_sL x15 (Int32.ofNat j) x16) fun _ =>
  sf_bnd (sf_gI 11 47 (some 112)) fun x17 =>
  sf_bnd (α := (Int32)) (
  sf_or (α := (Int32)) (β := (Unit)) (
  if x17 = 0 then (
  sf_ret (.inr ())
  ) else (
  sf_bnd (sf_gI 11 24 (some 112)) fun x19 =>
  if x19 = 0 then (
  sf_ret (.inl (1 : Int32))
  ) else (
  sf_ret (.inr ())
  )
  )
  ) (fun v21 =>
  sf_ret (0 : Int32)
  )
  ) (fun v22 =>
  sf_bnd (sf_pZ 11 47 (some 112) v22) fun _ =>
  sf_bnd (sf_ret (Int32.ofNat j + (1 : Int32))) fun y23 =>
  sf_ret (.inl y23 : Int32 ⊕ Unit)
  )) (fun rr τ => rr = .inl (Int32.ofNat (j + 1)) ∧ ∃ I2 v, τ = zp_Z t I2 (sf_u2 J 137 j v) D ∧ zf zk_g0 I I2 ∧ I2 112 22 = Int32.ofNat (400 * 6 + r0.1) ∧ (∀ k, 44 < k → k < 49 → k ≠ 47 → I2 112 k = I 112 k) ∧ ev_b (I2 112 47) ∧ (live = 1 → (I2 112 47 = if z = 1 ∧ tx_dn (ow K d l) r0.2.2 ≠ none then 1 else 0) ∧ ∀ a, tx_dn (ow K d l) r0.2.2 = some a → v = a.toInt64)) (zp_Z t I J D) := by
  have hS := ev_sumG (t := t) (J := J) (D := D) (Env := oE K d l) (w := ow K d l) (ord := true) (fun _ h => h.1) (fun _ _ h hf => oE_fr h (zk_ev_g0 hf)) (fun _ h => oE_w hv h) htx.2.2.1 htx.2.1 8 97 (by omega)
  have hokS := tx_ok_sum (c := kc K 6) (v := kv K 6) (ord := true) htx.2.2.1 kc_hc htx.2.1 8
  obtain ⟨a1, a2, a3, a4, a5, a6, a7, a8⟩ := hokS.r hp hl hs
  have f0 : zf zk_g0 I (sf_u2 I 112 24 0) := zf_u2 (zf_refl _ _) rfl
  refine ss_pI rfl ?_
  refine ss_pt rfl rfl ?_
  refine ss_rc rfl ?_
  refine zp_wp_call (hS p l0 r0 hp hl hs live _ hlv (by rw [zu_eq]; exact Or.inl rfl) (oE_fr hE f0) (by rw [zu_k (by decide)]; exact h22)) ?_
  rintro v τ ⟨I1, rfl, f1, g1, b1, e1⟩
  rw [zu_eq] at e1
  have g47 : I1 112 47 = z := by rw [f1 112 47 rfl, zu_k (by decide)]; exact h47
  refine ss_sL rfl rfl hj (by decide) ?_
  refine ss_gI rfl g47 ?_
  have fin : ∀ u, u = (if z = 1 ∧ I1 112 24 = 0 then (1 : Int32) else 0) → zp_wp (sf_bnd (sf_pZ 11 47 (some 112) u) fun _ =>
      sf_bnd (sf_ret (Int32.ofNat j + (1 : Int32))) fun y23 =>
      sf_ret (.inl y23 : Int32 ⊕ Unit)) (fun rr τ => rr = .inl (Int32.ofNat (j + 1)) ∧ ∃ I2 v, τ = zp_Z t I2 (sf_u2 J 137 j v) D ∧ zf zk_g0 I I2 ∧ I2 112 22 = Int32.ofNat (400 * 6 + r0.1) ∧ (∀ k, 44 < k → k < 49 → k ≠ 47 → I2 112 k = I 112 k) ∧ ev_b (I2 112 47) ∧ (live = 1 → (I2 112 47 = if z = 1 ∧ tx_dn (ow K d l) r0.2.2 ≠ none then 1 else 0) ∧ ∀ a, tx_dn (ow K d l) r0.2.2 = some a → v = a.toInt64)) (zp_Z t I1 (sf_u2 J 137 j v) D) := by
    intro u hu
    have hub : u = 0 ∨ u = 1 := by rw [hu]; split; exact Or.inr rfl; exact Or.inl rfl
    refine ss_pZ rfl hub ?_
    refine ss_bret ?_
    refine ss_ret ⟨by rw [zi_s], _, v, rfl, zf_u2 (zf_trans f0 (zk_ev_g0 f1)) rfl, by rw [zu_k (by decide)]; exact g1, fun k h1 h2 h3 => ?_, by rw [zu_eq]; exact hub, fun hl1 => ?_⟩
    · rw [zu_k h3, f1 112 k (by simp [zk_ev]; omega), zu_k (by omega)]
    · subst hl1
      rw [zu_eq, hu]
      unfold ev_r at e1
      rw [if_pos ⟨rfl, rfl⟩] at e1
      rw [tx_dn_den a4]
      cases hd : tx_den (ow K d l) r0.2.2 with
      | none =>
        rw [hd] at e1
        refine ⟨?_, fun a h => by cases h⟩
        rw [if_neg (by rintro ⟨-, h⟩; rw [e1.2] at h; exact absurd h (by decide)), if_neg (by rintro ⟨-, h⟩; exact h rfl)]
      | some r =>
        rw [hd] at e1
        refine ⟨?_, fun a h => by cases h; exact e1.1⟩
        by_cases hz1 : z = 1
        · rw [if_pos ⟨hz1, e1.2⟩, if_pos ⟨hz1, by simp⟩]
        · rw [if_neg (fun h => hz1 h.1), if_neg (fun h => hz1 h.1)]
  refine ss_bor ?_
  rcases hz with h0 | h1
  · refine ss_biT h0 (ss_bret (ss_bcr (ss_bret (fin 0 ?_))))
    rw [if_neg (fun h => by rw [h0] at h; exact absurd h.1 (by decide))]
  · refine ss_biF (by rw [h1]; decide) ?_
    refine ss_as ?_
    refine ss_gI rfl rfl ?_
    by_cases h24 : I1 112 24 = 0
    · refine ss_biT h24 (ss_bret (ss_bcl (fin 1 ?_)))
      rw [if_pos ⟨h1, h24⟩]
    · refine ss_biF h24 (ss_bret (ss_bcr (ss_bret (fin 0 ?_))))
      rw [if_neg (fun h => h24 h.2)]
end
