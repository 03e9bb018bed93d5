/-! thereAndBack: what two ways cost together, as the model tells it. -/
/-- the stops of a way that is told by a mask -/
def mS (M : Int32) (p q d : Nat) : Bool := decide (d = zd p q) || zs_bit M (Int32.ofNat (sd p q d))
set_option maxRecDepth 20000 in
theorem mS_N {M : Int32} {p q : Nat} : mS M p q (zd p q) = true := by unfold mS; rw [decide_eq_true rfl]; rfl
set_option maxRecDepth 20000 in
theorem mS_b {M : Int32} {p q d : Nat} (h : d ≠ zd p q) : mS M p q d = zs_bit M (Int32.ofNat (sd p q d)) := by unfold mS; rw [decide_eq_false h, Bool.false_or]
set_option maxRecDepth 20000 in
theorem enF_fO (o : Option Nat) : enF o = Int32.ofNat (fO o) := by cases o <;> rfl
set_option maxRecDepth 20000 in
theorem fO_le {o : Option Nat} (h : ∀ c, o = some c → c ≤ 9999) : fO o ≤ 100000000 := by
  cases o with
  | none => exact Nat.le_refl _
  | some c => have := h c rfl; show c ≤ _; omega
/-- the model's rows: SINGLES there, SINGLES back, RETURNS -/
def zr_tb (I : Nat → Nat → Int32) (K : Nat → Int32) (n m : Nat) : Prop := ∀ u v, u < 8 → v < 8 → u ≠ v → I 130 (8 * u + v) = enF (sp_sgl K n u v) ∧ I 131 (8 * u + v) = enF (sp_sgl K m u v) ∧ I 132 (8 * u + v) = enF (sp_rr K n m u v)
section
variable {t : List (Nat × Nat)} {I : Nat → Nat → Int32} {J : Nat → Nat → Int64} {D : Nat → Nat → Option Nat} {K : Nat → Int32} {n m p q : Nat}
set_option maxRecDepth 20000 in
theorem tb_zd (hpq : p ≠ q) {d : Nat} (hd : d ≤ zd p q) : zd (sd p q d) q = zd p q - d ∧ zd (sd p q d) p = d ∧ (∀ k, k ≤ zd p q - d → sd (sd p q d) q k = sd p q (d + k)) ∧ ∀ k, k ≤ d → sd (sd p q d) p k = sd p q (d - k) := by
  rcases Nat.lt_or_gt_of_ne hpq with h | h
  · obtain ⟨a1, a2⟩ := tb_up h hd
    have hz : zd p q = q - p := by unfold zd; rw [if_pos (by omega)]
    rw [a1, hz] at *
    refine ⟨by unfold zd; rw [if_pos a2]; omega, ?_, fun k hk => ?_, fun k hk => ?_⟩
    · unfold zd
      split <;> omega
    · unfold sd
      rw [if_pos a2, if_pos (by omega)]; omega
    · unfold sd
      by_cases e : d = 0
      · subst e
        have : k = 0 := by omega
        subst this
        rw [if_pos (by omega), if_pos (by omega)]
      · rw [if_neg (by omega), if_pos (by omega)]; omega
  · obtain ⟨a1, a2, a3⟩ := tb_dn h hd
    have hz : zd p q = p - q := by unfold zd; rw [if_neg (by omega)]
    rw [a1, hz] at *
    refine ⟨?_, ?_, fun k hk => ?_, fun k hk => ?_⟩
    · unfold zd
      split <;> omega
    · unfold zd
      split <;> omega
    · unfold sd
      by_cases e : d = p - q
      · have : k = 0 := by omega
        subst this
        rw [if_pos (by omega), if_neg (by omega)]; omega
      · rw [if_neg (by omega), if_neg (by omega)]; omega
    · unfold sd
      rw [if_pos (by omega), if_neg (by omega)]; omega
set_option maxRecDepth 20000 in
theorem mx_up (M : Int32) (hp : p < 8) (hq : q < 8) (hpq : p ≠ q) {d : Nat} (hd : d < zd p q) : ∃ e, d < e ∧ e ≤ zd p q ∧ mS M p q e = true ∧ (∀ x, d < x → x < e → ¬ mS M p q x = true) ∧ jx_Mo_nextIn M (Int32.ofNat (sd p q d)) (Int32.ofNat q) (zp_Z t I J D) = some (Int32.ofNat (sd p q e), zp_Z t I J D) := by
  obtain ⟨z1, z2, z3, z4⟩ := tb_zd hpq (show d ≤ zd p q by omega)
  have hne : sd p q d ≠ q := fun e => by
    have := tb_inj (show d ≤ zd p q by omega) (Nat.le_refl _) (e.trans tb_N.symm); omega
  obtain ⟨k, k1, k2, k3, k4, k5⟩ := mx_nextIn (t := t) (I := I) (J := J) (D := D) M (tb_lt hp hq (show d ≤ zd p q by omega)) hq hne
  rw [z1] at k2 k3
  rw [z3 k k2] at k3 k5
  refine ⟨d + k, by omega, by omega, ?_, fun x h1 h2 => ?_, k5⟩
  · unfold mS
    rcases k3 with h | h
    · rw [decide_eq_true (by omega)]; rfl
    · rw [h, Bool.or_true]
  · have := k4 (x - d) (by omega) (by omega)
    rw [z3 (x - d) (by omega), show d + (x - d) = x by omega] at this
    rw [mS_b (by omega)]; exact this
set_option maxRecDepth 20000 in
theorem mx_dn (M : Int32) (hp : p < 8) (hq : q < 8) (hpq : p ≠ q) {d : Nat} (hd0 : 0 < d) (hd : d ≤ zd p q) : jx_Mo_nextIn M (Int32.ofNat (sd p q d)) (Int32.ofNat p) (zp_Z t I J D) = some (Int32.ofNat (sd p q (pv (mS M p q) (d - 1))), zp_Z t I J D) := by
  obtain ⟨z1, z2, z3, z4⟩ := tb_zd hpq hd
  have hne : sd p q d ≠ p := fun e => by
    have := tb_inj hd (Nat.zero_le _) (e.trans tb_0.symm); omega
  obtain ⟨k, k1, k2, k3, k4, k5⟩ := mx_nextIn (t := t) (I := I) (J := J) (D := D) M (tb_lt hp hq hd) hp hne
  rw [z2] at k2 k3
  rw [z4 k k2] at k3 k5
  have e : pv (mS M p q) (d - 1) = d - k := by
    refine pv_eq ?_ (d - 1) (by omega) (fun y h1 h2 => ?_)
    · rcases k3 with h | h
      · exact Or.inl (by omega)
      · by_cases h0 : d - k = 0
        · exact Or.inl h0
        · exact Or.inr (by rw [mS_b (by omega)]; exact h)
    · have := k4 (d - y) (by omega) (by omega)
      rw [z4 (d - y) (by omega), show d - (d - y) = y by omega] at this
      rw [mS_b (by omega)]; exact this
  rw [e]; exact k5
set_option maxRecDepth 20000 in
theorem i_pair {u v : Nat} : (8 : Int32) * Int32.ofNat u + Int32.ofNat v = Int32.ofNat (8 * u + v) := zn_add (zn_mul (zi_lit 8) rfl) rfl
set_option maxRecDepth 20000 in
theorem sgl_le {u v : Nat} (hu : u < 8) (hv : v < 8) : fO (sp_sgl K n u v) ≤ 100000000 := fO_le (fun c hc => sp_sgl_le hu hv hc)
set_option maxRecDepth 20000 in
theorem rr_le {u v : Nat} (hu : u < 8) (hv : v < 8) : fO (sp_rr K n m u v) ≤ 100000000 := fO_le (fun c hc => by
  unfold sp_rr at hc
  split at hc
  · cases hc
  · cases hc
    obtain ⟨c, hc, e⟩ := sp_cost_rng K (K 230) (s := 1) (by omega) hu hv
    rw [show sp_cost K (K 230) 1 (Int32.ofNat u) (Int32.ofNat v) = Int32.ofNat c from e, zi_ixn (by omega)]; exact hc)
set_option maxRecDepth 20000 in
theorem ofInt_nat (x : Nat) : Int32.ofInt (x : Int) = Int32.ofNat x := Int32.ofInt_eq_ofNat
set_option maxRecDepth 20000 in
theorem less_int {aa bb rr : Nat} (ha : aa ≤ 100000000) (hb : bb ≤ 100000000) (hr : rr ≤ 100000000) : (if Int32.ofNat rr - Int32.ofNat bb < Int32.ofNat aa then Int32.ofNat rr - Int32.ofNat bb else Int32.ofNat aa) = Int32.ofInt (if (rr : Int) - (bb : Int) < (aa : Int) then (rr : Int) - (bb : Int) else (aa : Int)) := by
  have e : Int32.ofNat rr - Int32.ofNat bb = Int32.ofInt ((rr : Int) - (bb : Int)) := by rw [Int32.ofInt_sub, ofInt_nat, ofInt_nat]
  have t1 : (Int32.ofInt ((rr : Int) - (bb : Int))).toInt = (rr : Int) - (bb : Int) := Int32.toInt_ofInt_of_le (by omega) (by omega)
  have t2 : (Int32.ofNat aa).toInt = (aa : Int) := zi_ofNat (by omega)
  rw [e]
  by_cases h : (rr : Int) - (bb : Int) < (aa : Int)
  · rw [if_pos (by rw [Int32.lt_iff_toInt_lt, t1, t2]; exact h), if_pos h]
  · rw [if_neg (by rw [Int32.lt_iff_toInt_lt, t1, t2]; exact h), if_neg h, ofInt_nat]
set_option maxRecDepth 20000 in
theorem mx_together (M1 M2 : Int32) (hI : zr_tb I K n m) (hp : p < 8) (hq : q < 8) (hpq : p ≠ q) : jx_Mo_costsTogether (some 112) M1 M2 (Int32.ofNat p) (Int32.ofNat q) (zp_Z t I J D) = some (Int32.ofNat (TT (tpA K n p q) (tpA K m p q) (tkR K n m p q) (mS M1 p q) (mS M2 p q) (zd p q)), zp_Z t I J D) := by
  have hN8 : zd p q < 8 := by unfold zd; split <;> omega
  have e8 : ∀ d, d ≤ zd p q → sd p q d < 8 := fun d hd => tb_lt hp hq hd
  have ne : ∀ d e, d ≤ zd p q → e ≤ zd p q → d ≠ e → sd p q d ≠ sd p q e := fun d e hd he h hh => h (tb_inj hd he hh)
  apply zp_wp_eq
  unfold jx_Mo_costsTogether
  -- the way back
  refine zp_loop_b (fun k b σ => ∃ d x, k = d ∧ d ≤ zd p q ∧ (d = 0 ∨ mS M2 p q d = true) ∧ b = (Int32.ofNat x, Int32.ofNat (sd p q d)) ∧ x + Bk (tpA K m p q) (mS M2 p q) d = Bk (tpA K m p q) (mS M2 p q) (zd p q) ∧ σ = zp_Z t I J D) (zd p q) (by unfold sf_fuel; omega) ⟨zd p q, 0, rfl, Nat.le_refl _, Or.inr mS_N, by rw [tb_N]; rfl, by omega, rfl⟩ ?_
  rintro k b σ ⟨d, x, rfl, hd, hS, rfl, hx, rfl⟩
  by_cases h0 : k = 0
  · subst h0
    refine ss_iT (by rw [tb_0]) ?_
    refine ss_ret ?_
    have hx' : x = Bk (tpA K m p q) (mS M2 p q) (zd p q) := by
      have : x + 0 = _ := hx
      omega
    -- the way there
    refine zp_loop_b (fun k b σ => ∃ d, k = zd p q - d ∧ d ≤ zd p q ∧ (d = 0 ∨ mS M1 p q d = true) ∧ b = (Int32.ofInt ((Bk (tpA K m p q) (mS M2 p q) (zd p q) : Int) + Fw (tpA K n p q) (tpA K m p q) (tkR K n m p q) (mS M1 p q) (mS M2 p q) d), Int32.ofNat (sd p q d)) ∧ σ = zp_Z t I J D) (zd p q) (by unfold sf_fuel; omega) ⟨0, by omega, Nat.zero_le _, Or.inl rfl, by rw [tb_0, hx']; show (_, _) = (Int32.ofInt (_ + 0), _); rw [Int.add_zero, ofInt_nat], rfl⟩ ?_
    rintro k b σ ⟨d, rfl, hd, hS, rfl, rfl⟩
    by_cases hN : d = zd p q
    · subst hN
      refine ss_iT (by rw [tb_N]) ?_
      refine ss_ret ?_
      refine ss_ret ⟨?_, rfl⟩
      show Int32.ofInt _ = _
      rw [← TT_sum, ofInt_nat]
    · have hdN : d < zd p q := by omega
      obtain ⟨e, e1, e2, e3, e4, e5⟩ := mx_up (t := t) (I := I) (J := J) (D := D) M1 hp hq hpq hdN
      have hnq : ¬ Int32.ofNat (sd p q d) = Int32.ofNat q := by
        have := ne d (zd p q) hd (Nat.le_refl _) hN
        rw [tb_N] at this
        exact zi_ne this (by have := e8 d hd; omega) (by omega)
      obtain ⟨i1, i2, i3⟩ := hI (sd p q d) (sd p q e) (e8 d hd) (e8 e e2) (ne d e hd e2 (by omega))
      obtain ⟨-, b2, -⟩ := hI (sd p q e) (sd p q d) (e8 e e2) (e8 d hd) (ne e d e2 hd (by omega))
      rw [enF_fO] at i1 i3 b2
      have hd8 := e8 d hd
      have he8 := e8 e e2
      have eFw : Fw (tpA K n p q) (tpA K m p q) (tkR K n m p q) (mS M1 p q) (mS M2 p q) e = Fw (tpA K n p q) (tpA K m p q) (tkR K n m p q) (mS M1 p q) (mS M2 p q) d + Fl (tpA K n p q) (tpA K m p q) (tkR K n m p q) (mS M2 p q) d e := Fw_S e1 hS e3 e4
      refine ss_iF hnq ?_
      refine ss_call e5 ?_
      -- what one more leg tells
      have fin : ∀ (Q : ((Int32 × Int32) ⊕ Int32) → sf_St → Prop), Q (.inl (Int32.ofInt ((Bk (tpA K m p q) (mS M2 p q) (zd p q) : Int) + Fw (tpA K n p q) (tpA K m p q) (tkR K n m p q) (mS M1 p q) (mS M2 p q) e), Int32.ofNat (sd p q e))) (zp_Z t I J D) → ∀ v, v = Int32.ofInt (Fl (tpA K n p q) (tpA K m p q) (tkR K n m p q) (mS M2 p q) d e) → zp_wp (sf_bnd (sf_ret ((Int32.ofInt ((Bk (tpA K m p q) (mS M2 p q) (zd p q) : Int) + Fw (tpA K n p q) (tpA K m p q) (tkR K n m p q) (mS M1 p q) (mS M2 p q) d) + v))) fun y33 => sf_bnd (jx_Mo_nextIn M1 (Int32.ofNat (sd p q d)) (Int32.ofNat q)) fun x34 => sf_ret (.inl (y33, x34) : (Int32 × Int32) ⊕ Int32)) Q (zp_Z t I J D) := by
        intro Q hQ v hv
        refine ss_bret ?_
        refine ss_call e5 ?_
        refine ss_ret ?_
        rw [hv, ← Int32.ofInt_add, Int.add_assoc, ← eFw]
        exact hQ
      have last : ∃ m', m' < zd p q - d ∧ ∃ d', m' = zd p q - d' ∧ d' ≤ zd p q ∧ (d' = 0 ∨ mS M1 p q d' = true) ∧ (Int32.ofInt ((Bk (tpA K m p q) (mS M2 p q) (zd p q) : Int) + Fw (tpA K n p q) (tpA K m p q) (tkR K n m p q) (mS M1 p q) (mS M2 p q) e), Int32.ofNat (sd p q e)) = (Int32.ofInt ((Bk (tpA K m p q) (mS M2 p q) (zd p q) : Int) + Fw (tpA K n p q) (tpA K m p q) (tkR K n m p q) (mS M1 p q) (mS M2 p q) d'), Int32.ofNat (sd p q d')) ∧ zp_Z t I J D = zp_Z t I J D := ⟨zd p q - e, by omega, e, rfl, e2, Or.inr e3, rfl, rfl⟩
      refine ss_bor ?_
      refine ss_bor ?_
      -- is it a RETURN's
      have yes : ∀ (Q : ((Int32 × Int32) ⊕ Int32) → sf_St → Prop), Q (.inl (Int32.ofInt ((Bk (tpA K m p q) (mS M2 p q) (zd p q) : Int) + Fw (tpA K n p q) (tpA K m p q) (tkR K n m p q) (mS M1 p q) (mS M2 p q) e), Int32.ofNat (sd p q e))) (zp_Z t I J D) → mS M2 p q e = true → zp_wp (sf_bnd (sf_bnd (jx_Mo_nextIn M2 (Int32.ofNat (sd p q e)) (Int32.ofNat p)) fun x17 =>
          if x17 = Int32.ofNat (sd p q d) then (
          sf_ret (.inl (1 : Int32))
          ) else (
          sf_ret (.inr () : Int32 ⊕ Unit)
          )) fun r => sf_bnd (sf_cs (fun _ => sf_ret (0 : Int32)) r) fun v20 =>
          sf_bnd (sf_gR 11 35 (some 112)) fun x21 =>
          sf_bnd (jx_Mo_pairAt (Int32.ofNat (sd p q d)) (Int32.ofNat (sd p q e))) fun x22 =>
          sf_bnd (sf_aI 0 x21 x22) fun x23 =>
          sf_bnd (α := (Int32)) (
          if v20 = 0 then (
          sf_ret x23
          ) else (
          sf_bnd (sf_gR 11 37 (some 112)) fun x25 =>
          sf_bnd (jx_Mo_pairAt (Int32.ofNat (sd p q d)) (Int32.ofNat (sd p q e))) fun x26 =>
          sf_bnd (sf_aI 0 x25 x26) fun x27 =>
          sf_bnd (sf_gR 11 36 (some 112)) fun x28 =>
          sf_bnd (jx_Mo_pairAt (Int32.ofNat (sd p q e)) (Int32.ofNat (sd p q d))) fun x29 =>
          sf_bnd (sf_aI 0 x28 x29) fun x30 =>
          sf_bnd (jx_Mo_lesser x23 (x27 - x30)) fun x31 =>
          sf_ret x31
          )
          ) (fun v32 =>
          sf_bnd (sf_ret ((Int32.ofInt ((Bk (tpA K m p q) (mS M2 p q) (zd p q) : Int) + Fw (tpA K n p q) (tpA K m p q) (tkR K n m p q) (mS M1 p q) (mS M2 p q) d) + v32))) fun y33 =>
          sf_bnd (jx_Mo_nextIn M1 (Int32.ofNat (sd p q d)) (Int32.ofNat q)) fun x34 =>
          sf_ret (.inl (y33, x34) : (Int32 × Int32) ⊕ Int32)
          )) Q (zp_Z t I J D) := by
        intro Q hQ hS2
        refine ss_as ?_
        refine ss_call (mx_dn M2 hp hq hpq (show 0 < e by omega) e2) ?_
        have hpv := pv_le (S := mS M2 p q) (e - 1)
        by_cases hc : pv (mS M2 p q) (e - 1) = d
        · refine ss_biT (by rw [hc]) (ss_bret (ss_bcl ?_))
          refine ss_pt rfl rfl ?_
          refine ss_pure (ze_pairAt _ _) ?_
          refine ss_aI rfl i_pair (by omega) (by decide) i1 ?_
          refine ss_biF (by decide) ?_
          refine ss_as ?_
          refine ss_pt rfl rfl ?_
          refine ss_as ?_
          refine ss_pure (ze_pairAt _ _) ?_
          refine ss_as ?_
          refine ss_aI rfl i_pair (by omega) (by decide) i3 ?_
          refine ss_as ?_
          refine ss_pt rfl rfl ?_
          refine ss_as ?_
          refine ss_pure (ze_pairAt _ _) ?_
          refine ss_as ?_
          refine ss_aI rfl i_pair (by omega) (by decide) b2 ?_
          refine ss_as ?_
          refine ss_pure (ze_lesser _ _) ?_
          refine ss_bret (fin Q hQ _ ?_)
          rw [less_int (sgl_le hd8 he8) (sgl_le he8 hd8) (rr_le hd8 he8)]
          unfold Fl
          rw [if_pos (show mS M2 p q e = true ∧ pv (mS M2 p q) (e - 1) = d from ⟨hS2, hc⟩)]
          rfl
        · refine ss_biF (zi_ne (ne _ _ (by omega) hd hc) (by have := e8 (pv (mS M2 p q) (e - 1)) (by omega); omega) (by omega)) (ss_bret (ss_bcr (ss_bret ?_)))
          refine ss_pt rfl rfl ?_
          refine ss_pure (ze_pairAt _ _) ?_
          refine ss_aI rfl i_pair (by omega) (by decide) i1 ?_
          refine ss_biT rfl (ss_bret (fin Q hQ _ ?_))
          unfold Fl
          rw [if_neg (fun h => hc h.2), ofInt_nat]
          rfl
      by_cases heN : e = zd p q
      · refine ss_biT (by rw [heN, tb_N]) (ss_bret (ss_bcr ?_))
        exact yes _ last (by rw [heN]; exact mS_N)
      · have hnq2 : ¬ Int32.ofNat (sd p q e) = Int32.ofNat q := by
          have := ne e (zd p q) e2 (Nat.le_refl _) heN
          rw [tb_N] at this
          exact zi_ne this (by omega) (by omega)
        refine ss_biF hnq2 ?_
        refine ss_as ?_
        refine ss_pure (ze_isIn _ _) ?_
        have hb := mS_b (M := M2) (p := p) (q := q) heN
        cases hbb : zs_bit M2 (Int32.ofNat (sd p q e)) with
        | false =>
          refine ss_biT rfl (ss_bret ?_)
          rw [hbb] at hb
          refine ss_bcl ?_
          refine ss_bcr (ss_bret ?_)
          refine ss_pt rfl rfl ?_
          refine ss_pure (ze_pairAt _ _) ?_
          refine ss_aI rfl i_pair (by omega) (by decide) i1 ?_
          refine ss_biT rfl (ss_bret (fin _ last _ ?_))
          unfold Fl
          rw [if_neg (fun h => by rw [hb] at h; exact absurd h.1 (by decide)), ofInt_nat]
          rfl
        | true =>
          refine ss_biF (by decide) (ss_bret (ss_bcr ?_))
          exact yes _ last (by rw [hb, hbb])
  · obtain ⟨d, rfl⟩ : ∃ d, k = d + 1 := ⟨k - 1, by omega⟩
    have hS' : mS M2 p q (d + 1) = true := hS.resolve_left h0
    have hpv := pv_le (S := mS M2 p q) d
    have hnp : ¬ Int32.ofNat (sd p q (d + 1)) = Int32.ofNat p := by
      have := ne (d + 1) 0 hd (Nat.zero_le _) h0
      rw [tb_0] at this
      exact zi_ne this (by have := e8 (d + 1) hd; omega) (by omega)
    have e5 := mx_dn (t := t) (I := I) (J := J) (D := D) M2 hp hq hpq (show 0 < d + 1 by omega) hd
    rw [show d + 1 - 1 = d from rfl] at e5
    have u8 := e8 (d + 1) hd
    have v8 := e8 (pv (mS M2 p q) d) (by omega)
    obtain ⟨-, b2, -⟩ := hI (sd p q (d + 1)) (sd p q (pv (mS M2 p q) d)) u8 v8 (ne _ _ hd (by omega) (by omega))
    rw [enF_fO] at b2
    refine ss_iF hnp ?_
    refine ss_pt rfl rfl ?_
    refine ss_call e5 ?_
    refine ss_pure (ze_pairAt _ _) ?_
    refine ss_aI rfl i_pair (by omega) (by decide) b2 ?_
    refine ss_bret ?_
    refine ss_call e5 ?_
    refine ss_ret ⟨pv (mS M2 p q) d, by omega, pv (mS M2 p q) d, x + tpA K m p q (d + 1) (pv (mS M2 p q) d), rfl, by omega, pv_S d, ?_, ?_, rfl⟩
    · rw [show Int32.ofNat x + Int32.ofNat (fO (sp_sgl K m (sd p q (d + 1)) (sd p q (pv (mS M2 p q) d)))) = Int32.ofNat (x + tpA K m p q (d + 1) (pv (mS M2 p q) d)) from zi_add _ _]
    · have := Bk_S (b := tpA K m p q) hS'
      omega
end
