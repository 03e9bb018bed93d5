/-! months: the model, and both. -/
section
variable {t : List (Nat × Nat)} {I : Nat → Nat → Int32} {J : Nat → Nat → Int64} {D : Nat → Nat → Option Nat} {K K' : Nat → Int32} {L : lg_L}
def zk_mo (a k : Nat) : Bool := zk_m2 a k || a == 114 || (a == 112 && k == 52)
set_option maxRecDepth 20000 in
theorem zk_m1_mo (a k : Nat) (h : zk_m1 a k = true) : zk_mo a k = true := by unfold zk_mo zk_m2; rw [h]; rfl
set_option maxRecDepth 20000 in
theorem zk_m2_mo (a k : Nat) (h : zk_m2 a k = true) : zk_mo a k = true := by unfold zk_mo; rw [h]; rfl
set_option maxRecDepth 20000 in
theorem zk_n_mo (a k : Nat) (h : (zk_m1 a k || a == 114) = true) : zk_mo a k = true := by
  rw [Bool.or_eq_true] at h
  rcases h with h | h
  · exact zk_m1_mo a k h
  · simp only [beq_iff_eq] at h; simp [zk_mo, h]
set_option maxRecDepth 20000 in
theorem mx_draws {x m : Nat} (h52 : I 112 52 = Int32.ofNat x) (hx : x ≤ 1000002) (hm : 0 < m) (hm8 : m < 100) : jx_Mo_draws (some 112) (Int32.ofNat m) (zp_Z t I J D) = some (Int32.ofNat (dr x % m), zp_Z t (sf_u2 I 112 52 (Int32.ofNat (dr x))) J D) := by
  have hd := dr_le x
  apply zp_wp_eq
  unfold jx_Mo_draws
  refine ss_gI rfl h52 ?_
  rw [drM hx]
  refine ss_pI rfl ?_
  refine ss_gI rfl zu_eq ?_
  refine ss_rmI (zi_ne (b := 0) (by omega) (by omega) (by omega)) ?_
  exact ss_ret ⟨zi_modN (by omega) (by omega) hm, rfl⟩
set_option maxRecDepth 20000 in
theorem mx_drawnAct (hK : I 114 = K) (hM : zr_ml K) {m x : Nat} (hm : K 227 = Int32.ofNat m) (hm0 : 0 < m) (hm6 : m ≤ 6) (hx : x ≤ 1000002) (h52 : I 112 52 = Int32.ofNat x) (h9 : ¬ 999 ≤ K 194) (L : lg_L) : zp_wp (jx_Mo_drawnAct (some 112)) (fun r τ => r = Int32.ofNat (mo_gain x (mo_do x K L).1) ∧ ∃ I', τ = zp_Z t I' J D ∧ zf zk_mo I I' ∧ I' 114 = (mo_do x K L).2.1 ∧ I' 112 52 = Int32.ofNat (dr (dr (dr x)))) (zp_Z t I J D) := by
  obtain ⟨p, hp, e192⟩ := zv_192 hM.1
  have q1 := dr_le x
  have q2 := dr_le (dr x)
  have hst8 : dr (dr x) % 8 < 8 := Nat.mod_lt _ (by decide)
  have htr : dr x % m < m := Nat.mod_lt _ hm0
  have hf4 : dr (dr (dr x)) % 4 < 4 := Nat.mod_lt _ (by decide)
  have k227 : I 114 227 = Int32.ofNat m := by rw [hK]; exact hm
  unfold jx_Mo_drawnAct
  refine ss_pt rfl rfl ?_
  refine ss_aI rfl rfl (by decide) (by decide) k227 ?_
  refine ss_rc rfl ?_
  refine ss_call (mx_draws h52 hx hm0 (by omega)) ?_
  refine ss_rc rfl ?_
  refine ss_call (mx_draws (m := 8) zu_eq q1 (by omega) (by omega)) ?_
  refine ss_rc rfl ?_
  refine ss_call (mx_draws (m := 4) zu_eq q2 (by omega) (by omega)) ?_
  generalize hI1 : sf_u2 (sf_u2 (sf_u2 I 112 52 (Int32.ofNat (dr x))) 112 52 (Int32.ofNat (dr (dr x)))) 112 52 (Int32.ofNat (dr (dr (dr x)))) = I1
  have f1 : zf zk_mo I I1 := by subst hI1; exact zf_u2 (zf_u2 (zf_u2 (zf_refl _ _) rfl) rfl) rfl
  have e114 : I1 114 = K := by subst hI1; rw [zu_r (by decide), zu_r (by decide), zu_r (by decide)]; exact hK
  have e52 : I1 112 52 = Int32.ofNat (dr (dr (dr x))) := by subst hI1; exact zu_eq
  have k192 : I1 114 192 = Int32.ofNat p := by rw [e114]; exact e192
  clear hI1
  generalize hs' : dr (dr x) % 8 = st at hst8
  generalize htr' : dr x % m = tr at htr
  have htr6 : tr < 6 := by omega
  have hz2 : ∀ a b : Nat, a < 100 → b < 100 → a ≠ b → ¬ Int32.ofNat a = Int32.ofNat b := fun a b ha hb hab => zi_ne hab (by omega) (by omega)
  -- buying
  have buy : ∀ v, v < 2 → dr (dr (dr x)) % 4 = v → (mo_do x K L = sp_buy (Int32.ofNat v) (K 192) (Int32.ofNat st) K L) ∧ mo_gain x (mo_do x K L).1 = 0 := by
    intro v hv h
    constructor
    · unfold mo_do
      rw [hs']
      rcases (show v = 0 ∨ v = 1 by omega) with rfl | rfl
      · rw [if_pos h]; rfl
      · rw [if_neg (by omega), if_pos h]; rfl
    · unfold mo_gain; rw [if_neg (by omega)]
  by_cases hlt : dr (dr (dr x)) % 4 < 2
  · obtain ⟨em, eg⟩ := buy _ hlt rfl
    generalize hv : dr (dr (dr x)) % 4 = v at hlt em
    have hn2 : ¬ (2 : Int32) ≤ Int32.ofNat v := zi_nle (a := 2) hlt (by omega)
    rw [eg]
    refine zp_wp_call (P := fun _ τ => ∃ I2, τ = zp_Z t I2 J D ∧ zf zk_mo I1 I2 ∧ I2 114 = (mo_do x K L).2.1 ∧ I2 112 52 = Int32.ofNat (dr (dr (dr x)))) ?_ ?_
    · refine ss_iF hn2 ?_
      refine ss_pt rfl rfl ?_
      refine ss_aI rfl rfl (by decide) (by decide) k192 ?_
      refine ss_rc rfl ?_
      refine zp_wp_call (mx_canBuyN e114 hM hlt (Int32.ofNat p) (Int32.ofNat st)) ?_
      rintro w τ ⟨I2, rfl, f2, rfl⟩
      have e114' : I2 114 = K := by rw [zf_row f2 (fun k => rfl)]; exact e114
      have e52' : I2 112 52 = Int32.ofNat (dr (dr (dr x))) := by rw [f2 112 52 rfl]; exact e52
      rw [em, e192]
      cases hl : zs_leg (Int32.ofNat p) (Int32.ofNat st) with
      | false =>
        have eS : sp_buy (Int32.ofNat v) (Int32.ofNat p) (Int32.ofNat st) K L = (-1, K, L) := by
          unfold sp_buy; rw [zs_bought_in, hl, Bool.and_false]; rfl
        rw [eS]
        exact ss_iT rfl (ss_ret ⟨I2, rfl, zf_mono f2 zk_m1_mo, e114', e52'⟩)
      | true =>
        have hb : zs_bought (Int32.ofNat v) (Int32.ofNat p) (Int32.ofNat st) = true := by
          rw [zs_bought_in, hl, Bool.and_true]
          exact zs_inT.mpr ⟨zi_leL (a := 0) (by omega) (by omega), zi_leL (b := 1) (by omega) (by omega)⟩
        rw [Bool.true_and]
        by_cases h : sp_cost K (K 230) (Int32.ofNat v) (Int32.ofNat p) (Int32.ofNat st) ≤ K 193 ∧ K (tkx (Int32.ofNat v) (Int32.ofNat p) (Int32.ofNat st)) < 9
        · have eS : sp_buy (Int32.ofNat v) (Int32.ofNat p) (Int32.ofNat st) K L = (K 193 - sp_cost K (K 230) (Int32.ofNat v) (Int32.ofNat p) (Int32.ofNat st), kB K (Int32.ofNat v) (Int32.ofNat p) (Int32.ofNat st), lg_push L (0, K)) := by
            unfold sp_buy; rw [if_pos hb, if_pos h]
          rw [eS, decide_eq_true h]
          have k192' : I2 114 192 = Int32.ofNat p := by rw [e114']; exact e192
          refine ss_iF (by decide) ?_
          refine ss_pt rfl rfl ?_
          refine ss_aI rfl rfl (by decide) (by decide) k192' ?_
          refine ss_rc rfl ?_
          refine zp_wp_call (mx_buysN e114' hM hlt hp hst8) ?_
          rintro _ τ ⟨I3, rfl, f3, e3⟩
          exact ss_ret ⟨I3, rfl, zf_trans (zf_mono f2 zk_m1_mo) (zf_mono f3 zk_n_mo), e3, by rw [f3 112 52 rfl]; exact e52'⟩
        · have eS : sp_buy (Int32.ofNat v) (Int32.ofNat p) (Int32.ofNat st) K L = (-3, K, L) := by
            unfold sp_buy; rw [if_pos hb, if_neg h]
          rw [eS, decide_eq_false h]
          exact ss_iT rfl (ss_ret ⟨I2, rfl, zf_mono f2 zk_m1_mo, e114', e52'⟩)
    · rintro _ τ ⟨I2, rfl, f2, e2, e5⟩
      refine ss_or ?_
      refine ss_biF (hz2 v 2 (by omega) (by omega) (by omega)) ?_
      refine ss_bret ?_
      refine ss_cr ?_
      refine ss_iF (hz2 v 3 (by omega) (by omega) (by omega)) ?_
      exact ss_ret ⟨rfl, I2, rfl, zf_trans f1 f2, e2, e5⟩
  · generalize hv : dr (dr (dr x)) % 4 = v at hlt hf4
    have hn2 : (2 : Int32) ≤ Int32.ofNat v := zi_leL (a := 2) (by omega) (by omega)
    refine zp_wp_call (P := fun _ τ => τ = zp_Z t I1 J D) (ss_iT hn2 (ss_ret rfl)) ?_
    rintro _ τ rfl
    refine ss_or ?_
    by_cases h2 : v = 2
    · subst h2
      have em : mo_do x K L = sp_ride (Int32.ofNat tr) (Int32.ofNat st) K L := by
        unfold mo_do; rw [if_neg (by omega), if_neg (by omega), if_pos hv, hm, zi_ixn (by omega), htr', hs']
      have hhas := zn_has hM.1 (j := tr) (by rw [hm, zi_ixn (by omega)]; exact htr)
      have hron := sp_ron_N hhas.1 htr6 hp hst8 e192
      have eR : mo_do x K L = rd_fin K L (Int32.ofNat tr) (Int32.ofNat st) (sp_rd K tr p st) := by
        rw [em]; unfold sp_ride; rw [if_pos (zs_st_N hst8), if_pos hhas.1, hron]
      refine ss_biT rfl ?_
      refine ss_as ?_
      refine ss_rc rfl ?_
      refine zp_wp_call (mx_canRide e114 hM htr6 hp hst8 e192) ?_
      rintro w τ ⟨I2, rfl, f2, rfl, hl⟩
      have e114' : I2 114 = K := by rw [zf_row f2 (fun k => rfl)]; exact e114
      have e52' : I2 112 52 = Int32.ofNat (dr (dr (dr x))) := by rw [f2 112 52 rfl]; exact e52
      cases hrd : sp_rd K tr p st with
      | none =>
        have eS : mo_do x K L = (-3, K, L) := by rw [eR, hrd]; rfl
        have eg : mo_gain x (mo_do x K L).1 = 0 := by
          unfold mo_gain; rw [if_pos hv, eS]; rfl
        refine ss_biT rfl ?_
        refine ss_bret ?_
        refine ss_cr ?_
        refine ss_iF (by decide) ?_
        exact ss_ret ⟨by rw [eg]; rfl, I2, rfl, zf_trans f1 (zf_mono f2 zk_m2_mo), by rw [eS]; exact e114', e52'⟩
      | some c =>
        rw [hrd] at hl
        obtain ⟨mm, ln, F, hlaid, hF, hc⟩ := hl rfl
        have hcF : c = F 0 := Option.some.inj hc
        have hc7 := sp_rd7 hp hst8 hrd
        have eS : mo_do x K L = (Int32.ofNat c, kS (rdK K tr st p c) 192 (Int32.ofNat st), lg_push L (1, K)) := by
          rw [eR, hrd]; unfold rd_fin; rw [e192, zi_ixn (by omega), zi_ixn (by omega), zi_ixn (by omega)]
        have eg : mo_gain x (mo_do x K L).1 = c := by
          unfold mo_gain
          rw [if_pos hv, eS]
          show (if 0 ≤ Int32.ofNat c then sf_ix (Int32.ofNat c) else 0) = c
          rw [if_pos (show (0 : Int32) ≤ Int32.ofNat c from zi_leL (a := 0) (by omega) (by omega)), zi_ixn (by omega)]
        refine ss_biF (show ¬ zb (some c).isSome = 0 by rw [show (some c).isSome = true from rfl]; decide) ?_
        refine ss_as ?_
        refine ss_rc rfl ?_
        refine zp_wp_call (mx_ridesN e114' hM htr6 hp hst8 hrd hlaid hF hcF) ?_
        rintro r τ ⟨rfl, I3, rfl, f3, e3⟩
        refine ss_bret ?_
        refine ss_cl ?_
        exact ⟨by rw [eg], I3, rfl, zf_trans (zf_trans f1 (zf_mono f2 zk_m2_mo)) (zf_mono f3 zk_n_mo), by rw [eS]; exact e3, by rw [f3 112 52 rfl]; exact e52'⟩
    · have h3 : v = 3 := by omega
      subst h3
      have em : mo_do x K L = sp_pass K L := by unfold mo_do; rw [if_neg (by omega), if_neg (by omega), if_neg (by omega)]
      have hne : ¬ K 194 = 999 := fun e => h9 (by rw [e]; exact Int32.le_refl _)
      have eS : mo_do x K L = (hsm (fun i => K (128 + i)) 64, kP K, lg_push L (3, K)) := by rw [em]; exact if_neg hne
      have eg : mo_gain x (mo_do x K L).1 = 0 := by unfold mo_gain; rw [if_neg (by omega)]
      refine ss_biF (by decide) ?_
      refine ss_bret ?_
      refine ss_cr ?_
      refine ss_iT rfl ?_
      refine ss_rc rfl ?_
      refine zp_wp_call (mx_dayPassesN e114) ?_
      rintro r τ ⟨-, I3, rfl, f3, e3⟩
      exact ss_ret ⟨by rw [eg]; rfl, I3, rfl, zf_trans f1 (zf_mono f3 (fun a k e => by simp only [beq_iff_eq] at e; simp [zk_mo, e])), by rw [eS]; exact e3, by rw [f3 112 52 rfl]; exact e52⟩
end
