/-! orders: the model goes along a clause, whole. -/
set_option maxRecDepth 20000 in
theorem ss_lp {β γ δ : Type} {body : β → sf_M (β ⊕ γ)} {kk : γ → sf_M δ} {Q : δ → sf_St → Prop} {σ : sf_St} {n : Nat} {b : β} (h : zp_wp (body b) (fun r τ => match r with
    | .inl b' => zp_wp (sf_bnd (sf_loop body n b') kk) Q τ
    | .inr g => zp_wp (kk g) Q τ) σ) : zp_wp (sf_bnd (sf_loop body (n + 1) b) kk) Q σ := by
  rw [zl_s]
  refine ss_as ?_
  refine zp_wp_call h ?_
  intro r τ hr
  cases r with
  | inl b' => exact hr
  | inr g => exact ss_bret hr
def zk_ga (a k : Nat) : Bool := a == 112 && ((21 < k && k < 26) || (44 < k && k < 49))
set_option maxRecDepth 20000 in
theorem zk_g0_ga {I I' : Nat → Nat → Int32} (h : zf zk_g0 I I') : zf zk_ga I I' := zf_mono h (fun a k e => by
  simp only [zk_g0, Bool.or_eq_true, Bool.and_eq_true, beq_iff_eq, decide_eq_true_eq] at e
  simp only [zk_ga, Bool.or_eq_true, Bool.and_eq_true, beq_iff_eq, decide_eq_true_eq]
  omega)
section
variable {t : List (Nat × Nat)} {I : Nat → Nat → Int32} {J : Nat → Nat → Int64} {D : Nat → Nat → Option Nat} {K : Nat → Int32} {d l : Int32}
set_option maxRecDepth 20000 in
theorem kv_K {p : Nat} (h : p < kz K 6) : K (3038 + (400 * 6 + p)) = kv K 6 p := by
  unfold kv; rw [if_pos h]; congr 1; omega
set_option maxRecDepth 20000 in
theorem mx_oTimes (hv : zv K) (htx : zr_txt K 6 true) (hE : oE K d l I) {p l0 q l2 : Nat} {kind : Int32} {xs ys : tx_L} {cl : tx_C} (hp : p ≤ kz K 6) (hl : l0 ≤ 50) (h : tx_times (kc K 6) (kv K 6) true kind xs ys p l0 = .inr (q, l2, cl)) (h22 : I 112 22 = Int32.ofNat (400 * 6 + p)) {live : Int32} (hlv : ev_b live) : zp_wp (
  sf_bnd (sf_pI 11 45 (some 112) (1 : Int32)) fun _ =>
  sf_bnd (sf_rc 11 (some 112) (jx_Mo_passes0 (some 112) (24 : Int32))) fun x25 =>
  sf_bnd (α := (Unit)) (
  if x25 = 0 then (
  sf_ret ()
  ) else (
  sf_bnd (sf_gR 11 2 (some 112)) fun x27 =>
  sf_bnd (sf_gI 11 22 (some 112)) fun x28 =>
  sf_bnd (sf_aI 0 x27 ((3038 : Int32) + x28)) fun x29 =>
  sf_bnd (sf_pI 11 45 (some 112) x29) fun _ =>
  sf_bnd (sf_gI 11 22 (some 112)) fun x30 =>
  sf_bnd (sf_pI 11 22 (some 112) (x30 + (1 : Int32))) fun _ =>
  sf_ret ()
  )
  ) (fun v31 =>
  sf_bnd (sf_pI 11 24 (some 112) (0 : Int32)) fun _ =>
  sf_bnd (sf_rc 11 (some 112) (jx_Mo_passes0 (some 112) (3 : Int32))) fun x32 =>
  sf_bnd (α := (Int32)) (
  sf_or (α := (Int32)) (β := (Unit)) (
  if x32 = 0 then (
  sf_ret (.inr ())
  ) else (
  sf_bnd (sf_rc 11 (some 112) (jx_G5 sf_deep 0 (some 112) live)) fun x34 =>
  if x34 = 0 then (
  sf_ret (.inl (0 : Int32))
  ) else (
  sf_ret (.inr ())
  )
  )
  ) (fun v36 =>
  sf_ret (1 : Int32)
  )
  ) (fun v37 =>
  sf_bnd (sf_pZ 11 48 (some 112) v37) fun _ =>
  sf_bnd (sf_gI 11 48 (some 112)) fun x38 =>
  sf_bnd (α := (Int32)) (
  sf_or (α := (Int32)) (β := (Unit)) (
  if x38 = 0 then (
  sf_ret (.inr ())
  ) else (
  sf_bnd (sf_gI 11 24 (some 112)) fun x40 =>
  if x40 = 0 then (
  sf_ret (.inl (1 : Int32))
  ) else (
  sf_ret (.inr ())
  )
  )
  ) (fun v42 =>
  sf_ret (0 : Int32)
  )
  ) (fun v43 =>
  sf_bnd (sf_pZ 11 48 (some 112) v43) fun _ =>
  sf_bnd (sf_gI 11 22 (some 112)) fun x44 =>
  sf_bnd (sf_pI 11 22 (some 112) (x44 + (1 : Int32))) fun _ =>
  sf_ret ()
  )
  )
  )) (fun _ τ => cl = (kind, cl.2.1, xs, ys, cl.2.2.2.2) ∧ (∃ n, n ≤ 20 ∧ cl.2.1 = Int32.ofNat n) ∧ q ≤ kz K 6 ∧ l2 ≤ 50 ∧ p ≤ q ∧ ∃ I2, τ = zp_Z t I2 J D ∧ zf zk_g2 I I2 ∧ I2 112 22 = Int32.ofNat (400 * 6 + (q + 1)) ∧ I2 112 45 = cl.2.1 ∧ (live = 1 → I2 112 48 = zb (tx_hold (ow K d l) cl))) (zp_Z t I J D) := by
  have hz4 := htx.2.1
  unfold tx_times at h
  have f0 : zf zk_g2 I (sf_u2 I 112 45 1) := zf_u2 (zf_refl _ _) rfl
  have hE0 := oE_fr hE (zk_g2_g0 f0)
  have g0 : sf_u2 I 112 45 1 112 22 = Int32.ofNat (400 * 6 + p) := by rw [zu_k (by decide)]; exact h22
  refine ss_pI rfl ?_
  refine ss_rc rfl ?_
  by_cases h24 : kc K 6 p = 24
  · rw [if_pos h24] at h
    have hlt := kc_lt (show kc K 6 p ≠ 0 by rw [h24]; decide)
    refine ss_call (em_passT hE0.1 (by omega) g0 h24) ?_
    by_cases hc : kc K 6 (p + 1) = 50 ∧ 1 ≤ kv K 6 (p + 1) ∧ kv K 6 (p + 1) ≤ 20
    · rw [if_pos hc] at h
      have hlt2 := kc_lt (show kc K 6 (p + 1) ≠ 0 by rw [hc.1]; decide)
      obtain ⟨n, hn, en⟩ := zi_rng (x := kv K 6 (p + 1)) (n := 20) (by have := hc.2.1; (simp only [Int32.le_iff_toInt_le, Int32.lt_iff_toInt_lt, ← Int32.toInt_inj, Int32.toInt_ofNat', Int32.reduceToInt, zi_ix, Int32.toInt_add, Int32.toInt_sub, Int32.toInt_mul, Int32.toInt_neg, zi_bm, zi_bms, zp_in] at *; omega)) hc.2.2 (by omega)
      have hK : I 114 = K := hE.1.1
      have e1 : (3038 : Int32) + Int32.ofNat (400 * 6 + (p + 1)) = Int32.ofNat (3038 + (400 * 6 + (p + 1))) := zi_add _ _
      have kx : sf_u2 (sf_u2 I 112 45 1) 112 22 (Int32.ofNat (400 * 6 + (p + 1))) 114 (3038 + (400 * 6 + (p + 1))) = kv K 6 (p + 1) := by
        rw [zu_a (by decide), zu_a (by decide), hK]; exact kv_K hlt2
      refine ss_biF (by decide) ?_
      refine ss_as ?_
      refine ss_pt rfl rfl ?_
      refine ss_as ?_
      refine ss_gI rfl zu_eq ?_
      refine ss_as ?_
      refine ss_aI rfl e1 (by omega) (by decide) kx ?_
      refine ss_as ?_
      refine ss_pI rfl ?_
      refine ss_as ?_
      refine ss_gI rfl (show _ = Int32.ofNat (400 * 6 + (p + 1)) by rw [zu_k (by decide), zu_eq]) ?_
      refine ss_as ?_
      refine ss_pI rfl ?_
      refine ss_bret ?_
      have f1 : zf zk_g2 I (sf_u2 (sf_u2 (sf_u2 (sf_u2 I 112 45 1) 112 22 (Int32.ofNat (400 * 6 + (p + 1)))) 112 45 (kv K 6 (p + 1))) 112 22 (Int32.ofNat (400 * 6 + (p + 1)) + 1)) := zf_u2 (zf_u2 (zf_u2 f0 rfl) rfl) rfl
      refine zp_wp_mono (mx_oIf (p := p + 2) hv htx (oE_fr hE (zk_g2_g0 f1)) (by omega) hl h (by rw [zu_eq, zi_s]; rfl) hlv) ?_
      rintro _ τ ⟨ecl, q1, q2, q3, I2, rfl, f2, g2, h2⟩
      refine ⟨?_, ⟨n, hn, ?_⟩, q1, q2, by omega, I2, rfl, zf_trans f1 (zk_g1_g2 f2), g2, ?_, h2⟩
      · rw [ecl]
      · rw [ecl]; exact en
      · rw [f2 112 45 rfl, zu_k (by decide), zu_eq, ecl]
    · rw [if_neg hc] at h; cases h
  · rw [if_neg h24] at h
    refine ss_call (em_passF hE0.1 (by omega) g0 h24) ?_
    refine ss_biT rfl (ss_bret ?_)
    refine zp_wp_mono (mx_oIf (p := p) hv htx hE0 hp hl h g0 hlv) ?_
    rintro _ τ ⟨ecl, q1, q2, q3, I2, rfl, f2, g2, h2⟩
    refine ⟨?_, ⟨1, by omega, ?_⟩, q1, q2, q3, I2, rfl, zf_trans f0 (zk_g1_g2 f2), g2, ?_, h2⟩
    · rw [ecl]
    · rw [ecl]; rfl
    · rw [f2 112 45 rfl, zu_eq, ecl]
set_option maxRecDepth 20000 in
theorem od_47b {A B : Option Int32} : (if (if (1 : Int32) = 1 ∧ A ≠ none then (1 : Int32) else 0) = 1 ∧ B ≠ none then (1 : Int32) else 0) = if A ≠ none ∧ B ≠ none then 1 else 0 := by
  cases A <;> cases B <;> simp
set_option maxRecDepth 20000 in
theorem od_47a {A : Option Int32} {x : Int32} : (if (1 : Int32) = 1 ∧ A ≠ none then (1 : Int32) else 0) = if A ≠ none ∧ some x ≠ none then 1 else 0 := by
  cases A <;> simp
set_option maxRecDepth 20000 in
theorem od_47c {x y : Int32} : (1 : Int32) = if some x ≠ none ∧ some y ≠ none then 1 else 0 := by simp
/-- what a clause's head tells -/
def od_code (k : Nat) : Int32 := if k = 0 then 20 else if k = 1 then 11 else if k = 2 then 21 else if k = 3 then 22 else 23
set_option maxRecDepth 20000 in
theorem mx_along (hv : zv K) (htx : zr_txt K 6 true) (hK : I 114 = K) (h27 : I 112 27 = d) (h28 : I 112 28 = l) {p l0 q l2 : Nat} {cl : tx_C} (hp : p ≤ kz K 6) (hl : l0 ≤ 50) (h44 : I 112 44 = Int32.ofNat (400 * 6 + p)) (hcl : tx_ordC (kc K 6) (kv K 6) true p l0 = .inr (q, l2, cl)) {live : Int32} (hlv : ev_b live) : zp_wp (jx_Mo_goesAlong (some 112) (Int32.ofNat (400 * 6 + kz K 6)) live) (fun _ τ => ∃ k n I2 J2, k ≤ 4 ∧ cl.1 = Int32.ofNat k ∧ kc K 6 p = od_code k ∧ n ≤ 20 ∧ cl.2.1 = Int32.ofNat n ∧ q ≤ kz K 6 ∧ l2 ≤ 50 ∧ p ≤ q ∧ τ = zp_Z t I2 J2 D ∧ zf zk_ga I I2 ∧ I2 112 22 = Int32.ofNat (400 * 6 + (q + 1)) ∧ I2 112 45 = cl.2.1 ∧ I2 112 46 = od_code k ∧ (live = 1 → I2 112 48 = zb (tx_hold (ow K d l) cl) ∧ (I2 112 47 = if tx_dn (ow K d l) cl.2.2.1 ≠ none ∧ tx_dn (ow K d l) cl.2.2.2.1 ≠ none then 1 else 0) ∧ (k ≤ 3 → ∀ a, tx_dn (ow K d l) cl.2.2.1 = some a → J2 137 0 = a.toInt64) ∧ (k ≤ 2 → ∀ b, tx_dn (ow K d l) cl.2.2.2.1 = some b → J2 137 1 = b.toInt64))) (zp_Z t I J D) := by
  have hz4 := htx.2.1
  unfold jx_Mo_goesAlong
  refine ss_pI rfl ?_
  refine ss_pI rfl ?_
  refine ss_gI rfl (show _ = Int32.ofNat (400 * 6 + p) by rw [zu_k (by decide), zu_k (by decide)]; exact h44) ?_
  refine ss_pI rfl ?_
  refine ss_gI rfl zu_eq ?_
  refine ss_rc rfl ?_
  have hEa : ev_env K 6 (sf_u2 (sf_u2 (sf_u2 I 112 25 1) 112 23 (Int32.ofNat (400 * 6 + kz K 6))) 112 22 (Int32.ofNat (400 * 6 + p))) := ⟨by rw [zu_r (by decide), zu_r (by decide), zu_r (by decide)]; exact hK, by rw [zu_k (by decide), zu_eq], by decide, hz4⟩
  refine ss_call (em_codeAt hEa (by omega)) ?_
  refine ss_pI rfl ?_
  refine ss_gI rfl (show _ = Int32.ofNat (400 * 6 + p) by rw [zu_k (by decide), zu_eq]) ?_
  refine ss_pI rfl ?_
  refine ss_pI rfl ?_
  refine ss_gI rfl (show _ = kc K 6 p by rw [zu_k (by decide), zu_k (by decide), zu_eq]) ?_
  generalize hI1 : sf_u2 (sf_u2 (sf_u2 (sf_u2 (sf_u2 (sf_u2 I 112 25 1) 112 23 (Int32.ofNat (400 * 6 + kz K 6))) 112 22 (Int32.ofNat (400 * 6 + p))) 112 46 (kc K 6 p)) 112 22 (Int32.ofNat (400 * 6 + p) + 1)) 112 47 1 = I1
  have f1 : zf zk_ga I I1 := by subst hI1; exact zf_u2 (zf_u2 (zf_u2 (zf_u2 (zf_u2 (zf_u2 (zf_refl _ _) rfl) rfl) rfl) rfl) rfl) rfl
  have hE1 : oE K d l I1 := by
    subst hI1
    refine ⟨⟨by rw [zu_r (by decide), zu_r (by decide), zu_r (by decide)]; exact hEa.1, ?_, by decide, hz4⟩, ?_, ?_, ?_⟩
    · rw [zu_k (by decide), zu_k (by decide), zu_k (by decide)]; exact hEa.2.1
    · rw [zu_k (by decide), zu_k (by decide), zu_k (by decide), zu_k (by decide), zu_k (by decide), zu_eq]
    · rw [zu_k (by decide), zu_k (by decide), zu_k (by decide), zu_k (by decide), zu_k (by decide), zu_k (by decide)]; exact h27
    · rw [zu_k (by decide), zu_k (by decide), zu_k (by decide), zu_k (by decide), zu_k (by decide), zu_k (by decide)]; exact h28
  have g22 : I1 112 22 = Int32.ofNat (400 * 6 + (p + 1)) := by subst hI1; rw [zu_k (by decide), zu_eq, zi_s]; rfl
  have g46 : I1 112 46 = kc K 6 p := by subst hI1; rw [zu_k (by decide), zu_k (by decide), zu_eq]
  have g47 : I1 112 47 = 1 := by subst hI1; rw [zu_eq]
  clear hI1 hEa
  have hokS := tx_ok_sum (c := kc K 6) (v := kv K 6) (ord := true) htx.2.2.1 kc_hc htx.2.1 8
  have hlt : p < kz K 6 := by
    rcases Nat.lt_or_ge p (kz K 6) with h1 | h1
    · exact h1
    · exfalso
      have h0 : kc K 6 p = 0 := kc_hc p h1
      unfold tx_ordC at hcl
      rw [if_neg (by rw [h0]; decide), if_neg (by rw [h0]; decide), if_neg (by rw [h0]; decide), if_neg (by rw [h0]; decide), if_neg (by rw [h0]; decide)] at hcl
      cases hcl
  -- two SUMS
  have two : ∀ k, k ≤ 2 → kc K 6 p = od_code k → tx_two (kc K 6) (kv K 6) true (Int32.ofNat k) p l0 = .inr (q, l2, cl) → ∃ r s, tx_sum (kc K 6) (kv K 6) true 8 (p + 1) l0 = .inr r ∧ kc K 6 r.1 = 12 ∧ tx_sum (kc K 6) (kv K 6) true 8 (r.1 + 1) r.2.1 = .inr s ∧ tx_times (kc K 6) (kv K 6) true (Int32.ofNat k) r.2.2 s.2.2 s.1 s.2.1 = .inr (q, l2, cl) := by
    intro k _ _ h
    unfold tx_two at h
    cases hr : tx_sum (kc K 6) (kv K 6) true 8 (p + 1) l0 with
    | inl f => rw [hr] at h; cases h
    | inr r =>
      rw [hr] at h
      simp only at h
      by_cases h12 : kc K 6 r.1 = 12
      · rw [if_pos h12] at h
        cases hs : tx_sum (kc K 6) (kv K 6) true 8 (r.1 + 1) r.2.1 with
        | inl f => rw [hs] at h; cases h
        | inr s => rw [hs] at h; exact ⟨r, s, rfl, h12, hs, h⟩
      · rw [if_neg h12] at h; cases h
  have hcase : (∃ k, k ≤ 2 ∧ kc K 6 p = od_code k ∧ tx_two (kc K 6) (kv K 6) true (Int32.ofNat k) p l0 = .inr (q, l2, cl)) ∨ (kc K 6 p = 22 ∧ ∃ r, tx_sum (kc K 6) (kv K 6) true 8 (p + 1) l0 = .inr r ∧ tx_times (kc K 6) (kv K 6) true 3 r.2.2 [] r.1 r.2.1 = .inr (q, l2, cl)) ∨ (kc K 6 p = 23 ∧ tx_times (kc K 6) (kv K 6) true 4 [] [] (p + 1) l0 = .inr (q, l2, cl)) := by
    unfold tx_ordC at hcl
    by_cases c0 : kc K 6 p = 20
    · rw [if_pos c0] at hcl; exact Or.inl ⟨0, by omega, c0, hcl⟩
    rw [if_neg c0] at hcl
    by_cases c1 : kc K 6 p = 11
    · rw [if_pos c1] at hcl; exact Or.inl ⟨1, by omega, c1, hcl⟩
    rw [if_neg c1] at hcl
    by_cases c2 : kc K 6 p = 21
    · rw [if_pos c2] at hcl; exact Or.inl ⟨2, by omega, c2, hcl⟩
    rw [if_neg c2] at hcl
    by_cases c3 : kc K 6 p = 22
    · rw [if_pos c3] at hcl
      cases hr : tx_sum (kc K 6) (kv K 6) true 8 (p + 1) l0 with
      | inl f => rw [hr] at hcl; cases hcl
      | inr r => rw [hr] at hcl; exact Or.inr (Or.inl ⟨c3, r, rfl, hcl⟩)
    rw [if_neg c3] at hcl
    by_cases c4 : kc K 6 p = 23
    · rw [if_pos c4] at hcl; exact Or.inr (Or.inr ⟨c4, hcl⟩)
    rw [if_neg c4] at hcl; cases hcl
  rcases hcase with ⟨k, hk, hcd, h2⟩ | ⟨hcd, r, hr, htm⟩ | ⟨hcd, htm⟩
  · obtain ⟨r, s, hr, h12, hs, htm⟩ := two k hk hcd h2
    obtain ⟨a1, a2, a3, a4, a5, a6, a7, a8⟩ := hokS.r (show p + 1 ≤ kz K 6 by omega) hl hr
    have hr1 := kc_lt (show kc K 6 r.1 ≠ 0 by rw [h12]; decide)
    obtain ⟨b1, b2, b3, b4, b5, b6, b7, b8⟩ := hokS.r (show r.1 + 1 ≤ kz K 6 by omega) a6 hs
    have n23 : ¬ kc K 6 p = 23 := by
      rw [hcd]
      have : k = 0 ∨ k = 1 ∨ k = 2 := by omega
      rcases this with rfl | rfl | rfl <;> decide
    have n22 : ¬ kc K 6 p = 22 := by
      rw [hcd]
      have : k = 0 ∨ k = 1 ∨ k = 2 := by omega
      rcases this with rfl | rfl | rfl <;> decide
    refine ss_biF n23 ?_
    refine ss_as ?_
    refine ss_gI rfl g46 ?_
    refine ss_biF n22 (ss_bret ?_)
    refine ss_lp (n := 999999) (b := Int32.ofNat 0) ?_
    refine ss_iF (by decide) ?_
    refine ss_biT (by decide) (ss_bret ?_)
    refine zp_wp_mono (mx_oSum (j := 0) hv htx hE1 (by omega) (by omega) hl hr g22 hlv g47 (Or.inr rfl)) ?_
    rintro rr τ ⟨rfl, I2, v0, rfl, f2, g2, k2, z2, e2⟩
    show zp_wp (sf_bnd (sf_loop _ 999999 (Int32.ofNat 1)) _) _ _
    refine ss_lp (n := 999998) ?_
    refine ss_iF (by decide) ?_
    refine ss_biF (by decide) ?_
    refine ss_as ?_
    refine ss_gI rfl g2 ?_
    refine ss_as ?_
    refine ss_pI rfl ?_
    refine ss_bret ?_
    have f3 : zf zk_g0 I1 (sf_u2 I2 112 22 (Int32.ofNat (400 * 6 + r.1) + 1)) := zf_u2 f2 rfl
    refine zp_wp_mono (mx_oSum (j := 1) (z := I2 112 47) hv htx (oE_fr hE1 f3) (by omega) (by omega) a6 hs (by rw [zu_eq, zi_s]; rfl) hlv (zu_k (by decide)) z2) ?_
    rintro rr τ ⟨rfl, I4, v1, rfl, f4, g4, k4, z4, e4⟩
    show zp_wp (sf_bnd (sf_loop _ 999998 (Int32.ofNat 2)) _) _ _
    refine ss_lp (n := 999997) ?_
    refine ss_iT (by decide) ?_
    refine ss_ret ?_
    have f5 := zf_trans f3 f4
    refine zp_wp_mono (mx_oTimes hv htx (oE_fr hE1 f5) b2 b6 htm g4 hlv) ?_
    rintro _ τ ⟨ecl, ⟨n, hn, en⟩, q1, q2, q3, I6, rfl, f6, g6, h45, h48⟩
    have e46 : I6 112 46 = od_code k := by
      rw [f6 112 46 rfl, k4 46 (by omega) (by omega) (by omega), zu_k (by decide), k2 46 (by omega) (by omega) (by omega), g46, hcd]
    refine ⟨k, n, I6, _, by omega, by rw [ecl], hcd, hn, en, q1, q2, by omega, rfl, zf_trans f1 (zk_g0_ga (zf_trans f5 (zk_g2_g0 f6))), g6, h45, e46, fun hl1 => ⟨h48 hl1, ?_, fun _ a ha => ?_, fun _ b hb => ?_⟩⟩
    · rw [f6 112 47 rfl, (e4 hl1).1, (e2 hl1).1, ecl]
      exact od_47b
    · rw [ecl] at ha
      rw [zu_k (by decide), zu_eq]; exact (e2 hl1).2 a ha
    · rw [ecl] at hb
      rw [zu_eq]; exact (e4 hl1).2 b hb
  · obtain ⟨a1, a2, a3, a4, a5, a6, a7, a8⟩ := hokS.r (show p + 1 ≤ kz K 6 by omega) hl hr
    refine ss_biF (by rw [hcd]; decide) ?_
    refine ss_as ?_
    refine ss_gI rfl g46 ?_
    refine ss_biT hcd (ss_bret ?_)
    refine ss_lp (n := 999999) (b := Int32.ofNat 0) ?_
    refine ss_iF (by decide) ?_
    refine ss_biT (by decide) (ss_bret ?_)
    refine zp_wp_mono (mx_oSum (j := 0) hv htx hE1 (by omega) (by omega) hl hr g22 hlv g47 (Or.inr rfl)) ?_
    rintro rr τ ⟨rfl, I2, v0, rfl, f2, g2, k2, z2, e2⟩
    show zp_wp (sf_bnd (sf_loop _ 999999 (Int32.ofNat 1)) _) _ _
    refine ss_lp (n := 999998) ?_
    refine ss_iT (by decide) ?_
    refine ss_ret ?_
    refine zp_wp_mono (mx_oTimes hv htx (oE_fr hE1 f2) a2 a6 htm g2 hlv) ?_
    rintro _ τ ⟨ecl, ⟨n, hn, en⟩, q1, q2, q3, I6, rfl, f6, g6, h45, h48⟩
    have e46 : I6 112 46 = od_code 3 := by
      rw [f6 112 46 rfl, k2 46 (by omega) (by omega) (by omega), g46, hcd]; rfl
    refine ⟨3, n, I6, _, by omega, by rw [ecl]; rfl, hcd, hn, en, q1, q2, by omega, rfl, zf_trans f1 (zk_g0_ga (zf_trans f2 (zk_g2_g0 f6))), g6, h45, e46, fun hl1 => ⟨h48 hl1, ?_, fun _ a ha => ?_, fun h => absurd h (by omega)⟩⟩
    · rw [f6 112 47 rfl, (e2 hl1).1, ecl]
      exact od_47a (x := 1)
    · rw [ecl] at ha
      rw [zu_eq]; exact (e2 hl1).2 a ha
  · refine ss_biT hcd (ss_bret ?_)
    refine ss_lp (n := 999999) (b := Int32.ofNat 0) ?_
    refine ss_iT (by decide) ?_
    refine ss_ret ?_
    refine zp_wp_mono (mx_oTimes hv htx hE1 (by omega) hl htm g22 hlv) ?_
    rintro _ τ ⟨ecl, ⟨n, hn, en⟩, q1, q2, q3, I6, rfl, f6, g6, h45, h48⟩
    refine ⟨4, n, I6, J, by omega, by rw [ecl]; rfl, hcd, hn, en, q1, q2, by omega, rfl, zf_trans f1 (zk_g0_ga (zk_g2_g0 f6)), g6, h45, by rw [f6 112 46 rfl, g46, hcd]; rfl, fun hl1 => ⟨h48 hl1, ?_, fun h => absurd h (by omega), fun h => absurd h (by omega)⟩⟩
    rw [f6 112 47 rfl, g47, ecl]
    exact od_47c (x := 1) (y := 1)
end
