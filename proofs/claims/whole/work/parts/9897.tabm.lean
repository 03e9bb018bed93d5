/-! thereAndBack: the model; both. -/
def zk_l3 (a k : Nat) : Bool := zk_m1 a k || a == 130 || a == 131 || a == 132
set_option maxRecDepth 20000 in
theorem zk_m1_l3 (a k : Nat) (h : zk_m1 a k = true) : zk_l3 a k = true := by unfold zk_l3; rw [h]; rfl
set_option maxRecDepth 20000 in
theorem zk_sl3 (a k : Nat) (h : zk_l3 a k = true) : zk_sc a k = true := by
  simp only [zk_l3, Bool.or_eq_true, beq_iff_eq] at h
  rcases h with ((h | h) | h) | h
  · exact zk_sm1 a k h
  all_goals (subst h; rfl)
set_option maxRecDepth 20000 in
theorem tb_leg {K : Nat → Int32} {x y : Int32} {u v j : Nat} (h : sp_J K x y u v = some j) : u < 8 ∧ v < 8 ∧ sp_has K x = true ∧ sp_has K y = true ∧ sp_goes K (sf_ix x) u v = true ∧ sp_goes K (sf_ix y) v u = true := by
  unfold sp_J at h
  split at h
  · next hh =>
    obtain ⟨hu, hv⟩ := hh
    rcases jn_le h with h | h
    · unfold sp_jo at h
      split at h
      · next f g hf hg =>
        obtain ⟨-, b1, n1, w1⟩ := sp_on9 hf hu hv
        obtain ⟨-, b2, n2, w2⟩ := sp_on9 hg hv hu
        exact ⟨hu, hv, b1, b2, wy_goes hv 7 u f hu n1 w1, wy_goes hu 7 v g hv n2 w2⟩
      · cases h
    · obtain ⟨c1, c2, c3, c4, c5, -⟩ := sp_rt_s hu hv h
      exact ⟨hu, hv, c2, c3, c4, c5⟩
  · cases h
set_option maxRecDepth 20000 in
theorem tb_wyJ {K : Nat → Int32} {x y : Int32} {b : Nat} (hb : b < 8) : ∀ k a c, a < 8 → a ≠ b → wy (sp_J K x y) b k a c → sp_has K x = true ∧ sp_has K y = true ∧ sp_goes K (sf_ix x) a b = true ∧ sp_goes K (sf_ix y) b a = true
  | 0, a, c, _, hne, h => absurd h.1 hne
  | k + 1, a, c, ha, hne, h => by
    rcases h with h | ⟨z, j, w, hz, hj, hw, -⟩
    · exact tb_wyJ hb k a c ha hne h
    · obtain ⟨-, -, h1, h2, h3, h4⟩ := tb_leg hj
      by_cases e : z = b
      · subst e; exact ⟨h1, h2, h3, h4⟩
      · obtain ⟨-, -, h5, h6⟩ := tb_wyJ hb k z w hz e hw
        obtain ⟨g1, g2, g3, g4, g5⟩ := sp_goes_T ha hz h3
        obtain ⟨f1, f2, f3, f4, f5⟩ := sp_goes_T hz hb h5
        obtain ⟨g1', g2', g3', g4', g5'⟩ := sp_goes_T hz ha h4
        obtain ⟨f1', f2', f3', f4', f5'⟩ := sp_goes_T hb hz h6
        exact ⟨h1, h2, sp_goes_I ha hb hne g2 f3 (fun u => by have := g4 u; have := f4 u; omega) (fun u => by have := g5 u; have := f5 u; omega), sp_goes_I hb ha (Ne.symm hne) f2' g3' (fun u => by have := g4' u; have := f4' u; omega) (fun u => by have := g5' u; have := f5' u; omega)⟩
set_option maxRecDepth 20000 in
theorem sp_tab_no {K : Nat → Int32} {x y p q : Int32} (h : ¬ (sp_ask K x p q = true ∧ sp_ask K y q p = true)) : sp_tab K x y p q = -1 := by
  unfold sp_tab
  by_cases hl : zs_leg p q = true
  · rw [if_pos hl]
    obtain ⟨a, b, ha, hb, rfl, rfl, hne⟩ := zs_leg_T hl
    rw [zi_ixn (by omega), zi_ixn (by omega)]
    have : sp_min (wy (sp_J K x y) b 7 a) = none := sp_min_eq ⟨fun c hc => by
      exfalso
      obtain ⟨h1, h2, h3, h4⟩ := tb_wyJ hb 7 a c ha hne hc
      apply h
      unfold sp_ask
      rw [h1, h2, zi_ixn (show a < 2147483648 by omega), zi_ixn (show b < 2147483648 by omega), h3, h4, zs_legN ha hb, zs_legN hb ha, decide_eq_true hne, decide_eq_true (Ne.symm hne)]
      exact ⟨rfl, rfl⟩, fun v hv => by cases hv⟩
    rw [this]; rfl
  · rw [if_neg hl]
section
variable {t : List (Nat × Nat)} {I : Nat → Nat → Int32} {J : Nat → Nat → Int64} {D : Nat → Nat → Option Nat} {K : Nat → Int32} {n m p q : Nat}
set_option maxRecDepth 20000 in
theorem mx_sglF (hK : I 114 = K) (hM : zr_ml K) (hn : n < 6) {u v : Nat} (hu : u < 8) (hv : v < 8) {γ : Type} {kk : Int32 → sf_M γ} {Q : γ → sf_St → Prop} (h : ∀ I', zf zk_m1 I I' → zp_wp (kk (enF (sp_sgl K n u v))) Q (zp_Z t I' J D)) : zp_wp (sf_bnd (sf_rc 11 (some 112) (jx_Mo_barredFrom (some 112) (Int32.ofNat n) (0 : Int32) (Int32.ofNat u) (Int32.ofNat v))) fun x9 =>
  sf_bnd (α := (Int32)) (
  if x9 = 0 then (
  sf_bnd (sf_rc 11 (some 112) (jx_Mo_costOf (some 112) (0 : Int32) (Int32.ofNat u) (Int32.ofNat v))) fun x11 =>
  sf_ret x11
  ) else (
  sf_ret (100000000 : Int32)
  )
  ) kk) Q (zp_Z t I J D) := by
  refine ss_rc rfl ?_
  refine zp_wp_call (mx_barredFrom (s := 0) hK hM hn hu hv (by omega)) ?_
  rintro b τ ⟨rfl, I1, rfl, f1⟩
  have hK1 : I1 114 = K := (zf_row f1 (fun k => rfl)).trans hK
  cases hb : sp_bars K (Int32.ofNat 0) (Int32.ofNat u) (Int32.ofNat v) (K (207 + n)) with
  | true =>
    have e : sp_sgl K n u v = none := by unfold sp_sgl; rw [if_pos (show sp_bars K 0 (Int32.ofNat u) (Int32.ofNat v) (K (207 + n)) = true from hb)]
    refine ss_biF (by decide) (ss_bret ?_)
    have := h I1 f1
    rw [e] at this; exact this
  | false =>
    have e : sp_sgl K n u v = some (sf_ix (sp_cost K (K 230) 0 (Int32.ofNat u) (Int32.ofNat v))) := by unfold sp_sgl; rw [if_neg (by rw [show sp_bars K 0 (Int32.ofNat u) (Int32.ofNat v) (K (207 + n)) = false from hb]; decide)]
    obtain ⟨c, hc, ec⟩ := sp_cost_rng K (K 230) (s := 0) (by omega) hu hv
    have ec' : sp_cost K (K 230) 0 (Int32.ofNat u) (Int32.ofNat v) = Int32.ofNat c := ec
    refine ss_biT rfl ?_
    refine ss_as ?_
    refine ss_rc rfl ?_
    refine zp_wp_call (mx_costOf (s := 0) hK1 hM hu hv (by omega)) ?_
    rintro b τ ⟨rfl, I2, rfl, f2⟩
    refine ss_bret ?_
    have := h I2 (zf_trans f1 f2)
    rw [e, ec', zi_ixn (by omega)] at this
    rw [show sp_cost K (K 230) (Int32.ofNat 0) (Int32.ofNat u) (Int32.ofNat v) = Int32.ofNat c from ec]
    exact this
set_option maxRecDepth 20000 in
theorem mx_rrF (hK : I 114 = K) (hM : zr_ml K) (hn : n < 6) (hm : m < 6) {u v : Nat} (hu : u < 8) (hv : v < 8) {γ : Type} {kk : Int32 → sf_M γ} {Q : γ → sf_St → Prop} (h : ∀ I', zf zk_m1 I I' → zp_wp (kk (enF (sp_rr K n m u v))) Q (zp_Z t I' J D)) : zp_wp (sf_bnd (sf_rc 11 (some 112) (jx_Mo_barredFrom (some 112) (Int32.ofNat n) (1 : Int32) (Int32.ofNat u) (Int32.ofNat v))) fun x19 =>
  sf_bnd (α := (Int32)) (
  sf_or (α := (Int32)) (β := (Unit)) (
  if x19 = 0 then (
  sf_bnd (sf_rc 11 (some 112) (jx_Mo_barredFrom (some 112) (Int32.ofNat m) (1 : Int32) (Int32.ofNat u) (Int32.ofNat v))) fun x21 =>
  if x21 = 0 then (
  sf_bnd (sf_rc 11 (some 112) (jx_Mo_costOf (some 112) (1 : Int32) (Int32.ofNat u) (Int32.ofNat v))) fun x23 =>
  sf_ret (.inl x23)
  ) else (
  sf_ret (.inr ())
  )
  ) else (
  sf_ret (.inr ())
  )
  ) (fun v24 =>
  sf_ret (100000000 : Int32)
  )
  ) kk) Q (zp_Z t I J D) := by
  refine ss_rc rfl ?_
  refine zp_wp_call (mx_barredFrom (s := 1) hK hM hn hu hv (by omega)) ?_
  rintro b τ ⟨rfl, I1, rfl, f1⟩
  have hK1 : I1 114 = K := (zf_row f1 (fun k => rfl)).trans hK
  refine ss_bor ?_
  cases hb : sp_bars K (Int32.ofNat 1) (Int32.ofNat u) (Int32.ofNat v) (K (207 + n)) with
  | true =>
    have e : sp_rr K n m u v = none := by unfold sp_rr; rw [if_pos (Or.inl (show sp_bars K 1 (Int32.ofNat u) (Int32.ofNat v) (K (207 + n)) = true from hb))]
    refine ss_biF (by decide) (ss_bret (ss_bcr (ss_bret ?_)))
    have := h I1 f1
    rw [e] at this; exact this
  | false =>
    refine ss_biT rfl ?_
    refine ss_as ?_
    refine ss_rc rfl ?_
    refine zp_wp_call (mx_barredFrom (s := 1) hK1 hM hm hu hv (by omega)) ?_
    rintro b τ ⟨rfl, I2, rfl, f2⟩
    have hK2 : I2 114 = K := (zf_row f2 (fun k => rfl)).trans hK1
    cases hb2 : sp_bars K (Int32.ofNat 1) (Int32.ofNat u) (Int32.ofNat v) (K (207 + m)) with
    | true =>
      have e : sp_rr K n m u v = none := by unfold sp_rr; rw [if_pos (Or.inr (show sp_bars K 1 (Int32.ofNat u) (Int32.ofNat v) (K (207 + m)) = true from hb2))]
      refine ss_biF (by decide) (ss_bret (ss_bcr (ss_bret ?_)))
      have := h I2 (zf_trans f1 f2)
      rw [e] at this; exact this
    | false =>
      have e : sp_rr K n m u v = some (sf_ix (sp_cost K (K 230) 1 (Int32.ofNat u) (Int32.ofNat v))) := by
        unfold sp_rr
        rw [if_neg (by
          rw [show sp_bars K 1 (Int32.ofNat u) (Int32.ofNat v) (K (207 + n)) = false from hb, show sp_bars K 1 (Int32.ofNat u) (Int32.ofNat v) (K (207 + m)) = false from hb2]
          rintro (e | e) <;> cases e)]
      obtain ⟨c, hc, ec⟩ := sp_cost_rng K (K 230) (s := 1) (by omega) hu hv
      have ec' : sp_cost K (K 230) 1 (Int32.ofNat u) (Int32.ofNat v) = Int32.ofNat c := ec
      refine ss_biT rfl ?_
      refine ss_as ?_
      refine ss_rc rfl ?_
      refine zp_wp_call (mx_costOf (s := 1) hK2 hM hu hv (by omega)) ?_
      rintro b τ ⟨rfl, I3, rfl, f3⟩
      refine ss_bret (ss_bcl ?_)
      have := h I3 (zf_trans f1 (zf_trans f2 f3))
      rw [e, ec', zi_ixn (by omega)] at this
      rw [show sp_cost K (K 230) (Int32.ofNat 1) (Int32.ofNat u) (Int32.ofNat v) = Int32.ofNat c from ec]
      exact this
set_option maxRecDepth 20000 in
theorem mx_laysBoth (hK : I 114 = K) (hM : zr_ml K) (hn : n < 6) (hm : m < 6) : zp_wp (jx_Mo_laysBoth (some 112) (Int32.ofNat n) (Int32.ofNat m)) (fun _ τ => ∃ I', τ = zp_Z t I' J D ∧ zf zk_l3 I I' ∧ zr_tb I' K n m) (zp_Z t I J D) := by
  unfold jx_Mo_laysBoth
  refine zl_g (fun i (_ : Unit) => Int32.ofNat i) 0 8 (s0 := ()) rfl (by omega) (by omega) (fun i _ I' => zf zk_l3 I I' ∧ ∀ u v, u < i → v < 8 → u ≠ v → I' 130 (8 * u + v) = enF (sp_sgl K n u v) ∧ I' 131 (8 * u + v) = enF (sp_sgl K m u v) ∧ I' 132 (8 * u + v) = enF (sp_rr K n m u v)) ⟨zf_refl _ _, fun u v h => absurd h (by omega)⟩ ?step ?fin
  case fin =>
    rintro s I' ⟨f1, r1⟩
    refine ss_iT (by decide) ?_
    refine ss_ret ⟨_, rfl, ?_⟩
    exact ss_ret ⟨I', rfl, f1, fun u v hu hv hne => r1 u v hu hv hne⟩
  case step =>
    rintro i s I1 - hi ⟨f1, r1⟩
    have n1 : ¬ (8 : Int32) ≤ Int32.ofNat i := zi_nle (a := 8) hi (by omega)
    refine ss_iF n1 ?_
    refine zl_g (fun j (_ : Unit) => Int32.ofNat j) 0 8 (s0 := ()) rfl (by omega) (by omega) (fun j _ I' => zf zk_l3 I I' ∧ ∀ u v, (u < i ∨ (u = i ∧ v < j)) → v < 8 → u ≠ v → I' 130 (8 * u + v) = enF (sp_sgl K n u v) ∧ I' 131 (8 * u + v) = enF (sp_sgl K m u v) ∧ I' 132 (8 * u + v) = enF (sp_rr K n m u v)) ⟨f1, fun u v h hv hne => r1 u v (by omega) hv hne⟩ ?step2 ?fin2
    case fin2 =>
      rintro s I2 ⟨f2, r2⟩
      refine ss_iT (by decide) ?_
      refine ss_ret ⟨_, rfl, ?_⟩
      refine ss_bret ?_
      exact ss_ret (Or.inl ⟨(), I2, by rw [zi_s], rfl, f2, fun u v hu hv hne => r2 u v (by omega) hv hne⟩)
    case step2 =>
      rintro j s I2 - hj ⟨f2, r2⟩
      have n2 : ¬ (8 : Int32) ≤ Int32.ofNat j := zi_nle (a := 8) hj (by omega)
      refine ss_iF n2 ?_
      by_cases hij : i = j
      · subst hij
        refine ss_iT rfl ?_
        refine ss_bret ?_
        exact ss_ret (Or.inl ⟨(), I2, by rw [zi_s], rfl, f2, fun u v h hv hne => r2 u v (by omega) hv hne⟩)
      · have hK2 : I2 114 = K := (zf_row f2 (fun k => rfl)).trans hK
        refine ss_iF (zi_ne hij (by omega) (by omega)) ?_
        refine ss_pure (ze_pairAt _ _) ?_
        refine ss_pt rfl rfl ?_
        refine mx_sglF hK2 hM hn hi hj (fun I3 f3 => ?_)
        refine ss_sI rfl i_pair (by omega) (by decide) ?_
        have F4 : zf zk_l3 I (sf_u2 I3 130 (8 * i + j) (enF (sp_sgl K n i j))) := zf_u2 (zf_trans f2 (zf_mono f3 zk_m1_l3)) (by simp [zk_l3])
        refine ss_pt rfl rfl ?_
        refine mx_sglF ((zf_row F4 (fun k => rfl)).trans hK) hM hm hi hj (fun I5 f5 => ?_)
        refine ss_sI rfl i_pair (by omega) (by decide) ?_
        have F6 : zf zk_l3 I (sf_u2 I5 131 (8 * i + j) (enF (sp_sgl K m i j))) := zf_u2 (zf_trans F4 (zf_mono f5 zk_m1_l3)) (by simp [zk_l3])
        refine ss_pt rfl rfl ?_
        refine mx_rrF ((zf_row F6 (fun k => rfl)).trans hK) hM hn hm hi hj (fun I7 f7 => ?_)
        refine ss_sI rfl i_pair (by omega) (by decide) ?_
        have F8 : zf zk_l3 I (sf_u2 I7 132 (8 * i + j) (enF (sp_rr K n m i j))) := zf_u2 (zf_trans F6 (zf_mono f7 zk_m1_l3)) (by simp [zk_l3])
        refine ss_bret ?_
        refine ss_ret (Or.inl ⟨(), _, by rw [zi_s], rfl, F8, fun u v h hv hne => ?_⟩)
        by_cases e : u = i ∧ v = j
        · obtain ⟨rfl, rfl⟩ := e
          refine ⟨?_, ?_, zu_eq⟩
          · rw [zu_a (by decide), f7 130 _ rfl, zu_a (by decide), f5 130 _ rfl, zu_eq]
          · rw [zu_a (by decide), f7 131 _ rfl, zu_eq]
        · have hk : 8 * u + v ≠ 8 * i + j := by omega
          obtain ⟨q1, q2, q3⟩ := r2 u v (by omega) hv hne
          refine ⟨?_, ?_, ?_⟩
          · rw [zu_a (by decide), f7 130 _ rfl, zu_a (by decide), f5 130 _ rfl, zu_k hk, f3 130 _ rfl]; exact q1
          · rw [zu_a (by decide), f7 131 _ rfl, zu_k hk, f5 131 _ rfl, zu_a (by decide), f3 131 _ rfl]; exact q2
          · rw [zu_k hk, f7 132 _ rfl, zu_a (by decide), f5 132 _ rfl, zu_a (by decide), f3 132 _ rfl]; exact q3
end
/-- what two masks cost -/
def TTm (K : Nat → Int32) (n m p q i1 i2 : Nat) : Nat := TT (tpA K n p q) (tpA K m p q) (tkR K n m p q) (mS (Int32.ofNat i1) p q) (mS (Int32.ofNat i2) p q) (zd p q)
def sbm (i y : Nat) : Prop := ∀ s, s < 8 → i.testBit s = true → y.testBit s = true
section
variable {K : Nat → Int32} {n m p q : Nat}
set_option maxRecDepth 20000 in
/-- the mask of the stations between, at which a train stops -/
theorem tb_mask (hp : p < 8) (hq : q < 8) (hpq : p ≠ q) {w : Nat} (hw : w ≤ 255) (ew : K (195 + n) = Int32.ofNat w) : (bts (if p < q then p else q) (if p < q then q else p) &&& w) < 256 ∧ ∀ d, 0 < d → d < zd p q → ((bts (if p < q then p else q) (if p < q then q else p) &&& w).testBit (sd p q d) = true ↔ tk1 K n p q d) := by
  have h1 : (if p < q then p else q) < 8 ∧ (if p < q then q else p) < 8 := by split <;> omega
  obtain ⟨b1, b2⟩ := bts_bit _ h1.1 _ h1.2
  refine ⟨Nat.lt_of_le_of_lt Nat.and_le_left b1, fun d hd0 hdN => ?_⟩
  have h8 : sd p q d < 8 := tb_lt hp hq (by omega)
  have hbt : (decide ((if p < q then p else q) < sd p q d) && decide (sd p q d < (if p < q then q else p))) = true := by
    rw [Bool.and_eq_true, decide_eq_true_eq, decide_eq_true_eq]
    rcases Nat.lt_or_gt_of_ne hpq with h | h
    · obtain ⟨a1, a2⟩ := tb_up h (show d ≤ zd p q by omega)
      have hz : zd p q = q - p := by unfold zd; rw [if_pos (by omega)]
      rw [if_pos h, if_pos h, a1]; omega
    · obtain ⟨a1, a2, a3⟩ := tb_dn h (show d ≤ zd p q by omega)
      have hz : zd p q = p - q := by unfold zd; rw [if_neg (by omega)]
      rw [if_neg (by omega), if_neg (by omega), a1]; omega
  rw [Nat.testBit_and, b2 _ h8, hbt, Bool.true_and]
  unfold tk1 zs_stop
  rw [ew, bit_nat w (by omega) _ h8]
set_option maxRecDepth 20000 in
theorem tb_mk (hp : p < 8) (hq : q < 8) (hpq : p ≠ q) {w : Nat} (hw : w ≤ 255) (ew : K (195 + n) = Int32.ofNat w) {S : Nat → Bool} (hS : ∀ e, S e = true → tk1 K n p q e ∧ 0 < e ∧ e ≤ zd p q) (hN : S (zd p q) = true) : ∃ i, i < 256 ∧ sbm i (bts (if p < q then p else q) (if p < q then q else p) &&& w) ∧ ∀ e, 0 < e → e ≤ zd p q → mS (Int32.ofNat i) p q e = S e := by
  obtain ⟨m1, m2⟩ := tb_mask (n := n) hp hq hpq hw ew
  obtain ⟨i, hi, hb⟩ := bits_ex (fun s => S (zd p s) && decide (sd p q (zd p s) = s) && decide (0 < zd p s) && decide (zd p s < zd p q)) 8
  refine ⟨i, hi, fun s hs hbit => ?_, fun e he0 heN => ?_⟩
  · rw [hb s hs] at hbit
    simp only [Bool.and_eq_true, decide_eq_true_eq] at hbit
    obtain ⟨⟨⟨c1, c2⟩, c3⟩, c4⟩ := hbit
    have := (m2 (zd p s) c3 c4).mpr (hS _ c1).1
    rw [c2] at this; exact this
  · by_cases hE : e = zd p q
    · rw [hE, mS_N, hN]
    · have h8 : sd p q e < 8 := tb_lt hp hq heN
      have hz : zd p (sd p q e) = e := zd_sd heN
      rw [mS_b hE, bit_nat i hi _ h8, hb _ h8]
      simp only [hz]
      rw [decide_eq_true he0, decide_eq_true (show e < zd p q by omega)]
      simp
set_option maxRecDepth 20000 in
/-- the model's sets of stations, and two ways beside each other -/
theorem tb_M (hp : p < 8) (hq : q < 8) (gn : sp_goes K n p q = true) (gm : sp_goes K m q p = true) {w1 w2 : Nat} (hw1 : w1 ≤ 255) (ew1 : K (195 + n) = Int32.ofNat w1) (hw2 : w2 ≤ 255) (ew2 : K (195 + m) = Int32.ofNat w2) (T : Nat) : tkM K n m p q T ↔ (T < 100000000 ∧ ∃ i1 i2, i1 < 256 ∧ i2 < 256 ∧ sbm i1 (bts (if p < q then p else q) (if p < q then q else p) &&& w1) ∧ sbm i2 (bts (if p < q then p else q) (if p < q then q else p) &&& w2) ∧ T = TTm K n m p q i1 i2) := by
  have hpq := (sp_goes_T hp hq gn).1
  have hN0 : 0 < zd p q := by unfold zd; split <;> omega
  have okN1 : tk1 K n p q (zd p q) := by unfold tk1; rw [tb_N]; exact (sp_goes_T hp hq gn).2.2.1
  have okN2 : tk1 K m p q (zd p q) := by unfold tk1; rw [tb_N]; exact (sp_goes_T hq hp gm).2.1
  have topS : ∀ S : Nat → Bool, pv S (zd p q) = zd p q → S (zd p q) = true := fun S h => by
    rcases pv_S (S := S) (zd p q) with h0 | h0
    · omega
    · rw [h] at h0; exact h0
  have topV : ∀ S : Nat → Bool, S (zd p q) = true → pv S (zd p q) = zd p q := fun S h => pv_eq (Or.inr h) _ (Nat.le_refl _) (fun y h1 h2 => by omega)
  constructor
  · rintro ⟨hT, hR⟩
    obtain ⟨S1, S2, h1, h2, h3, h4, h5⟩ := RR_TT _ _ _ _ hR
    obtain ⟨i1, a1, a2, a3⟩ := tb_mk hp hq hpq hw1 ew1 h1 (topS _ h3)
    obtain ⟨i2, b1, b2, b3⟩ := tb_mk hp hq hpq hw2 ew2 h2 (topS _ h4)
    refine ⟨hT, i1, i2, a1, b1, a2, b2, ?_⟩
    unfold TTm
    rw [TT_congr (S1 := S1) (S2 := S2) _ a3 b3, h5]
  · rintro ⟨hT, i1, i2, a1, b1, a2, b2, rfl⟩
    refine ⟨hT, ?_⟩
    have okS : ∀ (k i w : Nat), i < 256 → w ≤ 255 → K (195 + k) = Int32.ofNat w → tk1 K k p q (zd p q) → sbm i (bts (if p < q then p else q) (if p < q then q else p) &&& w) → ∀ e, 0 < e → e ≤ zd p q → mS (Int32.ofNat i) p q e = true → tk1 K k p q e := by
      intro k i w hi hw ew hN hs e he0 heN hm
      by_cases hE : e = zd p q
      · rw [hE]; exact hN
      · have h8 : sd p q e < 8 := tb_lt hp hq heN
        rw [mS_b hE, bit_nat i hi _ h8] at hm
        exact ((tb_mask (n := k) hp hq hpq hw ew).2 e he0 (by omega)).mp (hs _ h8 hm)
    have := TT_RR (ok1 := tk1 K n p q) (ok2 := tk1 K m p q) (a := tpA K n p q) (b := tpA K m p q) (r := tkR K n m p q) (S1 := mS (Int32.ofNat i1) p q) (S2 := mS (Int32.ofNat i2) p q) (zd p q) (okS n i1 w1 a1 hw1 ew1 okN1 a2) (okS m i2 w2 b1 hw2 ew2 okN2 b2)
    rw [topV _ mS_N, topV _ mS_N] at this
    exact this
end
