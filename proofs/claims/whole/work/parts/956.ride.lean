/-! ride. -/
noncomputable def rd_fin (K : Nat → Int32) (L : lg_L) (x q : Int32) : Option Nat → Int32 × (Nat → Int32) × lg_L
  | some c => (Int32.ofNat c, kS (rdK K (sf_ix x) (sf_ix q) (sf_ix (K 192)) c) 192 q, lg_push L (1, K))
  | none => (-3, K, L)
noncomputable def sp_ride (x q : Int32) : DSp := fun K L => if zs_st q = true then (if sp_has K x = true then rd_fin K L x q (sp_ron K x q) else (-2, K, L)) else (-1, K, L)
set_option maxRecDepth 20000 in
theorem sp_ron_T {K : Nat → Int32} {x q : Int32} {c : Nat} (hv : zv K) (h : sp_ron K x q = some c) : ∃ n p b, n < 6 ∧ p < 8 ∧ b < 8 ∧ x = Int32.ofNat n ∧ K 192 = Int32.ofNat p ∧ q = Int32.ofNat b ∧ sp_rd K n p b = some c ∧ c ≤ 1050000 := by
  have hle := sp_ron_le h
  unfold sp_ron at h
  split at h
  · rename_i h0
    rw [Bool.and_eq_true] at h0
    obtain ⟨n, hn6, rfl, hn⟩ := sp_has_T hv h0.1
    obtain ⟨p, hp, e⟩ := zv_192 hv
    have hl := h0.2
    rw [e] at hl
    obtain ⟨a, b, ha, hb, e1, rfl, -⟩ := zs_leg_T hl
    rw [e, zi_ixn (by omega), zi_ixn (by omega), zi_ixn (by omega)] at h
    exact ⟨n, p, b, hn6, hp, hb, rfl, e, rfl, h, by omega⟩
  · cases h
set_option maxRecDepth 20000 in
theorem pk_192 {K : Nat → Int32} (h : pk_ok K) {b : Nat} (hb : b < 8) : pk_ok (kS K 192 (Int32.ofNat b)) := ⟨fun i hi => by rw [kS_n (by omega)]; exact h.1 i hi, by rw [kS_e]; exact ⟨zi_leL (a := 0) (by omega) (by omega), zi_leL (b := 7) (by omega) (by omega)⟩, by rw [kS_n (by omega)]; exact h.2.2.1, by rw [kS_n (by omega)]; exact h.2.2.2⟩
set_option maxRecDepth 20000 in
theorem DO_ride (x q : Int32) : DO (sp_ride x q) := by
  intro K L hv
  unfold sp_ride
  split
  · split
    · cases hr : sp_ron K x q with
      | none => exact ⟨ar_neg 3 (by decide) (by decide), fun hl => hl, hv, fun i hi => rfl⟩
      | some c =>
        obtain ⟨n, p, b, hn, hp, hb, rfl, e, rfl, hc, hle⟩ := sp_ron_T hv hr
        obtain ⟨i1, i2, -⟩ := rdK_ok (pk_ok_of hv) hp hb hc c (Nat.le_refl _)
        have hk : ∀ i, 195 ≤ i → kS (rdK K n b p c) 192 (Int32.ofNat b) i = K i := fun i hi => by rw [kS_n (by omega)]; exact i2 i (by omega)
        unfold rd_fin
        rw [e, zi_ixn (by omega), zi_ixn (by omega), zi_ixn (by omega)]
        exact ⟨Or.inl (zi_leL (a := 0) (by omega) (by omega)), fun hl => lg_push_ok hl ⟨⟨1, by decide, rfl⟩, pk_ok_of hv⟩, zv_pk hv (pk_192 i1 hb) hk, hk⟩
    · exact ⟨ar_neg 2 (by decide) (by decide), fun hl => hl, hv, fun i hi => rfl⟩
  · exact ⟨ar_neg 1 (by decide) (by decide), fun hl => hl, hv, fun i hi => rfl⟩
section
variable {t : List (Nat × Nat)} {I : Nat → Nat → Int32} {J : Nat → Nat → Int64} {D : Nat → Nat → Option Nat} {K K' : Nat → Int32} {L : lg_L}
set_option maxRecDepth 20000 in
theorem cx_sortOf {a b : Nat} (ha : a < 8) (hb : b < 8) (hne : a ≠ b) {v : Int32} (h : I 16 (8 * a + b) = v) : jx_Ways_sortOf (some 14) (Int32.ofNat a) (Int32.ofNat b) (zp_Z t I J D) = some (v, zp_Z t I J D) := by
  have e : Int32.ofNat a * 8 + Int32.ofNat b = Int32.ofNat (8 * a + b) := by
    have : ∀ a, a < 8 → ∀ b, b < 8 → Int32.ofNat a * 8 + Int32.ofNat b = Int32.ofNat (8 * a + b) := by decide +kernel
    exact this a ha b hb
  have l : 8 * a + b < 64 := by omega
  apply zp_wp_eq
  unfold jx_Ways_sortOf
  have hl := ze_isLegT (p := Int32.ofNat a) (q := Int32.ofNat b) (by rw [zs_legN ha hb, decide_eq_true hne])
  refine ss_pure hl ?_
  refine ss_iF (by decide) ?_
  refine ss_pt rfl rfl ?_
  refine ss_aI rfl e l (by decide) h ?_
  exact ss_ret ⟨rfl, rfl⟩
set_option maxRecDepth 20000 in
/-- one step of the class's ride -/
theorem cx_useP {j s s' : Nat} (hj : j < 3) (hs : s < 8) (hs' : s' < 8) (hp : pk_at I 3 K) (hok : pk_ok K) (hpos : 0 < K (64 * j + (8 * s + s'))) (h2 : I 3 2 = Int32.ofNat s) {γ : Type} {g : Unit → sf_M γ} {Q : γ → sf_St → Prop}
    (hQ : ∀ I', zf (fun a k => a == 4 || (a == 3 && k == 2)) I I' → pk_at I' 3 (kS (kU K (Int32.ofNat j) s s') 192 (Int32.ofNat s')) → zp_wp (g ()) Q (zp_Z t I' J D)) :
    zp_wp (sf_bnd (sf_gI 5 2 (some 3)) fun x25 => sf_bnd (sf_rc 5 (some 3) (jx_Pocket_change (some 3) (Int32.ofNat j) x25 (Int32.ofNat s') (-1 : Int32))) fun _ =>
      sf_bnd (α := Unit) (if Int32.ofNat j = (1 : Int32) then (sf_bnd (sf_gI 5 2 (some 3)) fun x28 => sf_bnd (sf_rc 5 (some 3) (jx_Pocket_change (some 3) (2 : Int32) (Int32.ofNat s') x28 (1 : Int32))) fun _ => sf_ret ()) else (sf_ret ())) (fun _ => sf_bnd (sf_pI 5 2 (some 3) (Int32.ofNat s')) g)) Q (zp_Z t I J D) := by
  have h9 := hok.1 (64 * j + (8 * s + s')) (by omega)
  obtain ⟨p1, p2, p3, p4⟩ := hp
  have hx : I 4 (64 * j + (8 * s + s')) = K (64 * j + (8 * s + s')) := p1 _ (by omega)
  refine ss_gI rfl h2 ?_
  refine ss_rc rfl ?_
  refine ss_call (cx_change (s := j) (d := -1) (y := K (64 * j + (8 * s + s')) - 1) hj hs hs' hx ?_) ?_
  · generalize K (64 * j + (8 * s + s')) = z at hpos h9
    have e1 : z + -1 < 9 := by (simp only [Int32.le_iff_toInt_le, Int32.lt_iff_toInt_lt, ← Int32.toInt_inj, Int32.toInt_ofNat', Int32.reduceToInt, zi_ix, Int32.toInt_add, Int32.toInt_sub, Int32.toInt_mul, Int32.toInt_neg, zi_bm, zi_bms, zp_in] at *; omega)
    have e2 : ¬ z + -1 < 0 := by (simp only [Int32.le_iff_toInt_le, Int32.lt_iff_toInt_lt, ← Int32.toInt_inj, Int32.toInt_ofNat', Int32.reduceToInt, zi_ix, Int32.toInt_add, Int32.toInt_sub, Int32.toInt_mul, Int32.toInt_neg, zi_bm, zi_bms, zp_in] at *; omega)
    rw [if_pos e1, if_neg e2, Int32.sub_eq_add_neg]
  have hfin : ∀ (I1 : Nat → Nat → Int32) (R : Nat → Int32), zf (fun a k => a == 4 || (a == 3 && k == 2)) I I1 → (∀ k, k < 192 → I1 4 k = R k) → R 193 = K 193 → R 194 = K 194 → I1 3 1 = K 193 → I1 3 3 = K 194 → pk_at (sf_u2 I1 3 2 (Int32.ofNat s')) 3 (kS R 192 (Int32.ofNat s')) := by
    intro I1 R f r1 r2 r3 r4 r5
    exact ⟨fun k hk => by rw [zu_a (by decide), kS_n (by omega)]; exact r1 k hk, by rw [zu_eq, kS_e], by rw [zu_k (by decide), kS_n (by omega), r2]; exact r4, by rw [zu_k (by decide), kS_n (by omega), r3]; exact r5⟩
  have f1 : zf (fun a k => a == 4 || (a == 3 && k == 2)) I (sf_u2 I 4 (64 * j + (8 * s + s')) (K (64 * j + (8 * s + s')) - 1)) := zf_u2 (zf_refl _ _) rfl
  have r1 : ∀ k, k < 192 → sf_u2 I 4 (64 * j + (8 * s + s')) (K (64 * j + (8 * s + s')) - 1) 4 k = kS K (64 * j + (8 * s + s')) (K (64 * j + (8 * s + s')) - 1) k := fun k hk => by
    by_cases e : k = 64 * j + (8 * s + s')
    · subst e; rw [zu_eq, kS_e]
    · rw [zu_k e, kS_n e]; exact p1 k hk
  by_cases h1 : j = 1
  · subst h1
    have h2' : sf_u2 I 4 (64 * 1 + (8 * s + s')) (K (64 * 1 + (8 * s + s')) - 1) 3 2 = Int32.ofNat s := by rw [zu_a (by decide)]; exact h2
    have hy := r1 (64 * 2 + (8 * s' + s)) (by omega)
    refine zp_wp_call (P := fun _ τ => ∃ I2, τ = zp_Z t I2 J D ∧ zf (fun a k => a == 4 || (a == 3 && k == 2)) I I2 ∧ (∀ k, k < 192 → I2 4 k = kU K (Int32.ofNat 1) s s' k) ∧ I2 3 1 = K 193 ∧ I2 3 3 = K 194) ?_ ?_
    · refine ss_iT rfl ?_
      refine ss_gI rfl h2' ?_
      refine ss_rc rfl ?_
      have hk9 : pk_ok (kU K (Int32.ofNat 1) s s') := pk_kU hok (by omega) hs hs' hpos
      generalize hz : kS K (64 * 1 + (8 * s + s')) (K (64 * 1 + (8 * s + s')) - 1) = K1 at r1 hy
      have hK1 : 0 ≤ K1 (64 * 2 + (8 * s' + s)) ∧ K1 (64 * 2 + (8 * s' + s)) ≤ 9 := by
        subst hz
        by_cases e : 64 * 2 + (8 * s' + s) = 64 * 1 + (8 * s + s')
        · omega
        · rw [kS_n e]; exact hok.1 _ (by omega)
      have hKU : kU K (Int32.ofNat 1) s s' = kS K1 (128 + (8 * s' + s)) (if K1 (128 + (8 * s' + s)) + 1 < 9 then K1 (128 + (8 * s' + s)) + 1 else 9) := by
        subst hz; rfl
      refine ss_call (cx_change (s := 2) (d := 1) (y := if K1 (128 + (8 * s' + s)) + 1 < 9 then K1 (128 + (8 * s' + s)) + 1 else 9) (by omega) hs' hs hy ?_) ?_
      · show (if (if K1 (128 + (8 * s' + s)) + 1 < 9 then K1 (128 + (8 * s' + s)) + 1 else 9) < 0 then (0 : Int32) else (if K1 (128 + (8 * s' + s)) + 1 < 9 then K1 (128 + (8 * s' + s)) + 1 else 9)) = _
        have hK1' : 0 ≤ K1 (128 + (8 * s' + s)) ∧ K1 (128 + (8 * s' + s)) ≤ 9 := hK1
        generalize K1 (128 + (8 * s' + s)) = z at hK1' ⊢
        by_cases e1 : z + 1 < 9
        · rw [if_pos e1, if_neg (by (simp only [Int32.le_iff_toInt_le, Int32.lt_iff_toInt_lt, ← Int32.toInt_inj, Int32.toInt_ofNat', Int32.reduceToInt, zi_ix, Int32.toInt_add, Int32.toInt_sub, Int32.toInt_mul, Int32.toInt_neg, zi_bm, zi_bms, zp_in] at *; omega))]
        · rw [if_neg e1, if_neg (by decide)]
      refine ss_ret ⟨_, rfl, zf_u2 f1 rfl, fun k hk => ?_, ?_, ?_⟩
      · rw [hKU]
        by_cases e : k = 128 + (8 * s' + s)
        · subst e; rw [kS_e]; exact zu_eq
        · rw [kS_n e, zu_k (by omega)]; exact r1 k hk
      · rw [zu_a (by decide), zu_a (by decide)]; exact p3
      · rw [zu_a (by decide), zu_a (by decide)]; exact p4
    · rintro _ τ ⟨I2, rfl, f2, q1, q2, q3⟩
      refine ss_pI rfl ?_
      exact hQ _ (zf_u2 f2 rfl) (hfin I2 _ f2 q1 (kU_n (by omega) (by omega) (by omega)) (kU_n (by omega) (by omega) (by omega)) q2 q3)
  · have hne : ¬ Int32.ofNat j = (1 : Int32) := zi_ne (b := 1) h1 (by omega) (by omega)
    refine zp_wp_call (P := fun _ τ => τ = zp_Z t (sf_u2 I 4 (64 * j + (8 * s + s')) (K (64 * j + (8 * s + s')) - 1)) J D) (ss_iF hne (ss_ret rfl)) ?_
    rintro _ τ rfl
    refine ss_pI rfl ?_
    have hKU : kU K (Int32.ofNat j) s s' = kS K (64 * j + (8 * s + s')) (K (64 * j + (8 * s + s')) - 1) := by
      unfold kU; rw [if_neg hne, zi_ixn (by omega)]
    refine hQ _ (zf_u2 f1 rfl) (hfin _ _ f1 (fun k hk => by rw [hKU]; exact r1 k hk) (kU_n hj (by omega) (by omega)) (kU_n hj (by omega) (by omega)) ?_ ?_)
    · rw [zu_a (by decide)]; exact p3
    · rw [zu_a (by decide)]; exact p4
end
