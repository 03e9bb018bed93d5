/-! The model's deeds, with nothing kept. -/
section
variable {t : List (Nat × Nat)} {I : Nat → Nat → Int32} {J : Nat → Nat → Int64} {D : Nat → Nat → Option Nat} {K K' : Nat → Int32} {L : lg_L}
set_option maxRecDepth 20000 in
theorem mx_canBuyN (hK : I 114 = K) (hM : zr_ml K) {m : Nat} (hm : m < 2) (p q : Int32) : zp_wp (jx_Mo_canBuy (some 112) (Int32.ofNat m) p q) (fun v τ => ∃ I', τ = zp_Z t I' J D ∧ zf zk_m1 I I' ∧ v = zb (zs_leg p q && decide (sp_cost K (K 230) (Int32.ofNat m) p q ≤ K 193 ∧ K (tkx (Int32.ofNat m) p q) < 9))) (zp_Z t I J D) := by
  have h2' := ze_areTwo p q
  unfold jx_Mo_canBuy
  refine ss_pure h2' ?_
  cases hx2 : zs_leg p q with
  | false => exact ss_iT rfl (ss_ret ⟨I, rfl, zf_refl _ _, rfl⟩)
  | true =>
    obtain ⟨a, b, ha, hb8, rfl, rfl, hne⟩ := zs_leg_T hx2
    have e0 : jx_Mo_ticketAt (Int32.ofNat m) (Int32.ofNat a) (Int32.ofNat b) = sf_ret (Int32.ofNat (64 * m + (8 * a + b))) := by rw [ze_ticketAt, (i_tk m (by omega) a ha b hb8).2]
    have l0 : 64 * m + (8 * a + b) < 5838 := by omega
    have k0 : I 114 (64 * m + (8 * a + b)) = K (64 * m + (8 * a + b)) := by rw [hK]
    rw [Bool.true_and, tkxN (by omega) ha hb8]
    refine ss_iF (by decide) ?_
    refine ss_pt rfl rfl ?_
    refine ss_pure e0 ?_
    refine ss_aI rfl rfl l0 (by decide) k0 ?_
    by_cases c1 : 9 ≤ K (64 * m + (8 * a + b))
    · refine ss_iT c1 (ss_ret ⟨I, rfl, zf_refl _ _, ?_⟩)
      rw [decide_eq_false (fun h => by have := h.2; exfalso; (simp only [Int32.le_iff_toInt_le, Int32.lt_iff_toInt_lt, ← Int32.toInt_inj, Int32.toInt_ofNat', Int32.reduceToInt, zi_ix, Int32.toInt_add, Int32.toInt_sub, Int32.toInt_mul, Int32.toInt_neg, zi_bm, zi_bms, zp_in] at *; omega))]; rfl
    · refine ss_iF c1 ?_
      refine ss_rc rfl ?_
      refine zp_wp_call (mx_costOf hK hM ha hb8 hm) ?_
      rintro c τ ⟨hc, I1, rfl, f1⟩
      have k193 : I1 114 193 = K 193 := by rw [zf_row f1 (fun k => rfl), hK]
      refine ss_pt rfl rfl ?_
      refine ss_aI rfl rfl (by decide) (by decide) k193 ?_
      by_cases c2 : K 193 < c
      · refine ss_iT c2 (ss_ret ⟨I1, rfl, f1, ?_⟩)
        rw [← hc, decide_eq_false (fun h => by have := h.1; exfalso; (simp only [Int32.le_iff_toInt_le, Int32.lt_iff_toInt_lt, ← Int32.toInt_inj, Int32.toInt_ofNat', Int32.reduceToInt, zi_ix, Int32.toInt_add, Int32.toInt_sub, Int32.toInt_mul, Int32.toInt_neg, zi_bm, zi_bms, zp_in] at *; omega))]; rfl
      · refine ss_iF c2 (ss_ret ⟨I1, rfl, f1, ?_⟩)
        rw [← hc, decide_eq_true ⟨by (simp only [Int32.le_iff_toInt_le, Int32.lt_iff_toInt_lt, ← Int32.toInt_inj, Int32.toInt_ofNat', Int32.reduceToInt, zi_ix, Int32.toInt_add, Int32.toInt_sub, Int32.toInt_mul, Int32.toInt_neg, zi_bm, zi_bms, zp_in] at *; omega), by (simp only [Int32.le_iff_toInt_le, Int32.lt_iff_toInt_lt, ← Int32.toInt_inj, Int32.toInt_ofNat', Int32.reduceToInt, zi_ix, Int32.toInt_add, Int32.toInt_sub, Int32.toInt_mul, Int32.toInt_neg, zi_bm, zi_bms, zp_in] at *; omega)⟩]; rfl
set_option maxRecDepth 20000 in
theorem mx_buysN (hK : I 114 = K) (hM : zr_ml K) {m a b : Nat} (hm : m < 2) (ha : a < 8) (hb8 : b < 8) : zp_wp (jx_Mo_buys (some 112) (Int32.ofNat m) (Int32.ofNat a) (Int32.ofNat b)) (fun _ τ => ∃ I', τ = zp_Z t I' J D ∧ zf (fun x k => zk_m1 x k || x == 114) I I' ∧ I' 114 = kB K (Int32.ofNat m) (Int32.ofNat a) (Int32.ofNat b)) (zp_Z t I J D) := by
  have e0 : jx_Mo_ticketAt (Int32.ofNat m) (Int32.ofNat a) (Int32.ofNat b) = sf_ret (Int32.ofNat (64 * m + (8 * a + b))) := by rw [ze_ticketAt, (i_tk m (by omega) a ha b hb8).2]
  have l0 : 64 * m + (8 * a + b) < 5838 := by omega
  have k193 : I 114 193 = K 193 := by rw [hK]
  unfold jx_Mo_buys
  refine ss_pt rfl rfl ?_
  refine ss_aI rfl rfl (by decide) (by decide) k193 ?_
  refine ss_rc rfl ?_
  refine zp_wp_call (mx_costOf hK hM ha hb8 hm) ?_
  rintro c τ ⟨rfl, I3, rfl, f3⟩
  have e114 : I3 114 = K := by rw [zf_row f3 (fun k => rfl)]; exact hK
  have k0 : sf_u2 I3 114 193 (K 193 - sp_cost K (K 230) (Int32.ofNat m) (Int32.ofNat a) (Int32.ofNat b)) 114 (64 * m + (8 * a + b)) = K (64 * m + (8 * a + b)) := by rw [zu_k (by omega), e114]
  refine ss_sI rfl rfl (by decide) (by decide) ?_
  refine ss_pt rfl rfl ?_
  refine ss_pure e0 ?_
  refine ss_aI rfl rfl l0 (by decide) k0 ?_
  refine ss_sI rfl rfl l0 (by decide) ?_
  refine ss_ret ⟨_, rfl, zf_u2 (zf_u2 (zf_mono f3 (fun x k e => by rw [e]; rfl)) rfl) rfl, ?_⟩
  unfold kB
  rw [tkxN (by omega) ha hb8]
  exact kS_u (kS_u e114)
set_option maxRecDepth 20000 in
theorem mx_dayPassesN (e114 : I 114 = K) : zp_wp (jx_Mo_dayPasses (some 112)) (fun r τ => r = hsm (fun i => K (128 + i)) 64 ∧ ∃ I', τ = zp_Z t I' J D ∧ zf (fun x _ => x == 114) I I' ∧ I' 114 = kP K) (zp_Z t I J D) := by
  unfold jx_Mo_dayPasses
  refine ss_rc rfl ?_
  unfold jx_Mo_heldOf
  refine ss_as ?_
  refine ss_bret ?_
  refine ss_as ?_
  refine zl_g (fun i (s : Int32) => (s, Int32.ofNat (128 + i))) 0 64 (s0 := 0) rfl (by omega) (by omega) (fun i s I' => I' = I ∧ s = hsm (fun i => K (128 + i)) i) ⟨rfl, rfl⟩ ?step ?fin
  case step =>
    rintro i s I' - hi ⟨rfl, rfl⟩
    have n1 : ¬ ((64 : Int32) * ((2 : Int32) + (1 : Int32))) ≤ Int32.ofNat (128 + i) := zi_nle (a := 192) (b := 128 + i) (by omega) (by omega)
    have a1 : I' 114 (128 + i) = K (128 + i) := by rw [e114]
    have l2 : 128 + i < 5838 := by omega
    have l3 : (0 : Int32) + Int32.ofNat (128 + i) = Int32.ofNat (128 + i) := Int32.zero_add _
    refine ss_iF n1 ?_
    refine ss_pt rfl rfl ?_
    refine ss_aI rfl l3 l2 (by decide) a1 ?_
    refine ss_bret ?_
    refine ss_bret ?_
    exact ss_ret (Or.inl ⟨hsm (fun i => K (128 + i)) (i + 1), I', by rw [zi_s]; rfl, rfl, rfl, rfl⟩)
  case fin =>
    rintro s I' ⟨rfl, rfl⟩
    have n1 : ((64 : Int32) * ((2 : Int32) + (1 : Int32))) ≤ Int32.ofNat (128 + 64) := by decide
    refine ss_iT n1 ?_
    refine ss_ret ⟨_, rfl, ?_⟩
    refine ss_bret ?_
    refine zl_g (fun i (_ : Unit) => Int32.ofNat i) 0 64 (s0 := ()) rfl (by omega) (by omega) (fun i _ I2 => zf (fun a _ => a == 114) I' I2 ∧ I2 114 = fun k => if 128 ≤ k ∧ k < 128 + i then 0 else K k) ⟨zf_refl _ _, by rw [e114]; funext k; rw [if_neg (by omega)]⟩ ?step ?fin
    case step =>
      rintro i s I2 - hi ⟨g, r1⟩
      have n1 : ¬ (64 : Int32) ≤ Int32.ofNat i := zi_nle (a := 64) hi (by omega)
      have l2 : 128 + i < 5838 := by omega
      refine ss_iF n1 ?_
      refine ss_pt rfl rfl ?_
      refine ss_sI rfl (zi_add 128 i) l2 (by decide) ?_
      refine ss_bret ?_
      refine ss_ret (Or.inl ⟨(), _, by rw [zi_s], rfl, zf_u2 g rfl, ?_⟩)
      rw [kS_u r1]
      funext k
      unfold kS
      by_cases e : k = 128 + i
      · rw [if_pos e, if_pos (by omega)]
      · rw [if_neg e]
        show (if 128 ≤ k ∧ k < 128 + i then (0 : Int32) else K k) = _
        by_cases e2 : 128 ≤ k ∧ k < 128 + i
        · rw [if_pos e2, if_pos (by omega)]
        · rw [if_neg e2, if_neg (by omega)]
    case fin =>
      rintro s I2 ⟨g, r1⟩
      have n1 : (64 : Int32) ≤ Int32.ofNat 64 := by decide
      have k194' : I2 114 194 = K 194 := by rw [r1]; rfl
      refine ss_iT n1 ?_
      refine ss_ret ⟨_, rfl, ?_⟩
      refine ss_pt rfl rfl ?_
      refine ss_aI rfl rfl (by decide) (by decide) k194' ?_
      refine ss_sI rfl rfl (by decide) (by decide) ?_
      refine ss_ret ⟨rfl, _, rfl, zf_u2 g rfl, ?_⟩
      · rw [kS_u r1]
        show _ = kP K
        funext k
        unfold kS kP
        by_cases e : k = 194
        · subst e; rfl
        · rw [if_neg e]
          show (if 128 ≤ k ∧ k < 128 + 64 then (0 : Int32) else K k) = _
          by_cases e2 : 128 ≤ k ∧ k < 192
          · rw [if_pos (by omega), if_pos e2]
          · rw [if_neg (by omega), if_neg e2, if_neg e]
set_option maxRecDepth 20000 in
theorem mx_ridesN (hK : I 114 = K) (hM : zr_ml K) {n p b c m : Nat} {ln F : Nat → Nat} (hn6 : n < 6) (hp : p < 8) (hb : b < 8) (hrd : sp_rd K n p b = some c) (hlaid : zr_laid I (sp_tk K n) (zs_stop K n) p b m ln F) (hF : F 0 < 100000000) (hcF : c = F 0) : zp_wp (jx_Mo_rides (some 112) (Int32.ofNat n)) (fun r τ => r = Int32.ofNat c ∧ ∃ I', τ = zp_Z t I' J D ∧ zf (fun a k => zk_m1 a k || a == 114) I I' ∧ I' 114 = kS (rdK K n b p c) 192 (Int32.ofNat b)) (zp_Z t I J D) := by
  obtain ⟨hln, hok, e0, eq, hm2, hleg, hleft⟩ := id hlaid
  obtain ⟨hne, hg, hpt⟩ := pth_ok hp hb hrd
  have hd := sp_tk_dir hp hb hg
  have hle : c ≤ 7 := sp_rd7 hp hb hrd
  have h127 : I 127 0 = Int32.ofNat c := by rw [hcF]; exact (hleft 0 (by omega)).1
  unfold jx_Mo_rides
  refine ss_pt rfl rfl ?_
  refine ss_aI (m := 0) rfl rfl (by decide) (by decide) h127 ?_
  refine zl_g (fun i (s : Nat) => Int32.ofNat s) 0 c (s0 := 0) rfl (by omega) (by omega) (fun i s I' => zf (fun a k => zk_m1 a k || a == 114) I I' ∧ I' 114 = rdK K n b p i ∧ s < m ∧ ln s = pth (sp_tk K n) b p i ∧ F s < 100000000) ⟨zf_refl _ _, hK, by omega, e0, hF⟩ ?step ?fin
  case step =>
    rintro i s I' - hi ⟨g, q1, hsm, hls, hFs⟩
    obtain ⟨s8, sB, hnx, -⟩ := hpt i (by omega)
    obtain ⟨s8', -, -, -⟩ := hpt (i + 1) hi
    obtain ⟨n1', n2, n3, n4⟩ := hnx hi
    obtain ⟨i1, i2, -⟩ := rdK_ok (pk_ok_of hM.1) hp hb hrd i (by omega)
    obtain ⟨j, hj, ej, ej', hpos⟩ := rdK_sort (pk_ok_of hM.1) hp hb hrd hi
    have hstep : rdK K n b p (i + 1) = kU (rdK K n b p i) (Int32.ofNat j) (pth (sp_tk K n) b p i) (pth (sp_tk K n) b p (i + 1)) := by
      show kU _ _ _ _ = _
      rw [ej]
    have g1 : ∀ a k, a = 125 ∨ a = 126 ∨ a = 127 ∨ (a = 112 ∧ k = 30) → I' a k = I a k := fun a k ha => by
      rw [g a k (by rcases ha with rfl | rfl | rfl | ⟨rfl, rfl⟩ <;> rfl)]
    have hlaid' : zr_laid I' (sp_tk K n) (zs_stop K n) p b m ln F := by
      refine ⟨⟨by rw [g1 112 30 (by simp)]; exact hln.1, hln.2.1, fun i hi => ⟨by rw [g1 125 i (by simp)]; exact (hln.2.2 i hi).1, (hln.2.2 i hi).2⟩⟩, hok, e0, eq, hm2, fun i j hij hj => by rw [g1 126 _ (by simp)]; exact hleg i j hij hj, fun i hi => ⟨by rw [g1 127 i (by simp)]; exact (hleft i hi).1, (hleft i hi).2⟩⟩
    have hs1 : s < m - 1 := by
      rcases Nat.lt_or_ge s (m - 1) with h | h
      · exact h
      · exfalso
        have : s = m - 1 := by omega
        rw [this, eq] at hls
        exact n3 hls.symm
    obtain ⟨jn, hj1, hj2, hFj, hnext, hzn⟩ := mx_nextOf (t := t) (J := J) (D := D) hp hb hd hlaid' hs1 hFs
    rw [hls, n1'] at hzn
    have hlj : ln jn = pth (sp_tk K n) b p (i + 1) := (Option.some.inj hzn).symm
    have hm8 := hln.2.1
    have k30 : I' 112 30 = Int32.ofNat m := hlaid'.1.1
    have n1 : ¬ Int32.ofNat m - 1 ≤ Int32.ofNat s := by
      rw [show Int32.ofNat m - 1 = Int32.ofNat (m - 1) from zi_sub (a := m) (b := 1) (by omega)]
      exact zi_nle (by omega) (by omega)
    have a1 : I' 125 s = Int32.ofNat (pth (sp_tk K n) b p i) := by rw [← hls]; exact (hlaid'.1.2.2 s hsm).1
    have a2 : I' 125 jn = Int32.ofNat (pth (sp_tk K n) b p (i + 1)) := by rw [← hlj]; exact (hlaid'.1.2.2 jn hj2).1
    have ls : s < 8 := by omega
    have lj : jn < 8 := by omega
    have hMi : zr_ml (rdK K n b p i) := zr_ml_w hM (fun k hk => i2 k (by omega)) (i2 229 (by omega)) (zv_pk hM.1 i1 (fun k hk => i2 k (by omega)))
    refine ss_gI rfl k30 ?_
    refine ss_iF n1 ?_
    refine ss_rc rfl ?_
    refine ss_call hnext ?_
    refine ss_pt rfl rfl ?_
    refine ss_aI rfl rfl ls (by decide) a1 ?_
    refine ss_pt rfl rfl ?_
    refine ss_aI rfl rfl lj (by decide) a2 ?_
    refine ss_rc rfl ?_
    refine zp_wp_call (mx_uses q1 hMi hn6 s8 s8' hj ej') ?_
    rintro _ τ ⟨I4, rfl, f4, q4⟩
    refine ss_ret (Or.inl ⟨jn, I4, rfl, rfl, zf_trans g f4, by rw [hstep]; exact q4, hj2, hlj, hFj⟩)
  case fin =>
    rintro s I' ⟨g, q1, hsm, hls, hFs⟩
    obtain ⟨-, -, -, hend⟩ := hpt c (Nat.le_refl _)
    rw [hend rfl] at hls
    have hm8 := hln.2.1
    have hs1 : s = m - 1 := by
      rcases Nat.lt_or_ge s (m - 1) with h | h
      · exfalso
        have := hok.2.1 s (m - 1) h (by omega)
        rw [hls, eq] at this
        exact Nat.lt_irrefl _ this
      · omega
    have k30 : I' 112 30 = Int32.ofNat m := by rw [g 112 30 rfl]; exact hln.1
    have n1 : Int32.ofNat m - 1 ≤ Int32.ofNat s := by
      rw [show Int32.ofNat m - 1 = Int32.ofNat (m - 1) from zi_sub (a := m) (b := 1) (by omega)]
      exact zi_leL (by omega) (by omega)
    have a1 : I' 125 s = Int32.ofNat b := by rw [g 125 s rfl, (hln.2.2 s hsm).1, hls]
    have ls : s < 8 := by omega
    refine ss_gI rfl k30 ?_
    refine ss_iT n1 ?_
    refine ss_ret ⟨_, rfl, ?_⟩
    refine ss_pt rfl rfl ?_
    refine ss_pt rfl rfl ?_
    refine ss_aI rfl rfl ls (by decide) a1 ?_
    refine ss_sI rfl rfl (by decide) (by decide) ?_
    exact ss_ret ⟨rfl, _, rfl, zf_u2 g rfl, kS_u q1⟩
end
