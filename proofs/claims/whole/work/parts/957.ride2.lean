section
variable {t : List (Nat × Nat)} {I : Nat → Nat → Int32} {J : Nat → Nat → Int64} {D : Nat → Nat → Option Nat} {K K' : Nat → Int32} {L : lg_L}
set_option maxRecDepth 20000 in
theorem sp_rd7 {n p q c : Nat} (hp : p < 8) (hq : q < 8) (hc : sp_rd K n p q = some c) : c ≤ 7 := by
  obtain ⟨hne, -, -⟩ := pth_ok hp hq hc
  have hB : sp_B (sp_tk K n) q p = some c := by unfold sp_rd at hc; rw [if_neg hne] at hc; exact hc
  have := wy_le (M := 1) (fun s n' a h => by have := (sp_tk_s h).1; omega) 7 p c ((sp_min_min _).2 c hB)
  omega
set_option maxRecDepth 20000 in
theorem zk_ft_dk (a k : Nat) (h : zk_ft a k = true) : zk_dk a k = true := by
  simp only [zk_ft, Bool.or_eq_true, beq_iff_eq] at h; simp [zk_dk]; omega
set_option maxRecDepth 20000 in
theorem zk_bs_dk (a k : Nat) (h : zk_bs a k = true) : zk_dk a k = true := by
  simp only [zk_bs, Bool.or_eq_true, beq_iff_eq] at h; simp [zk_dk]; omega
set_option maxRecDepth 20000 in
theorem DX_ride (x q : Int32) : DX (jx_Desk_rideTrain (some 1) x q) (sp_ride x q) := by
  intro t I J D K L hC hL
  have hst := ze_isStation q
  have hh := cx_hasX (J := J) hC x
  obtain ⟨p, hp, e192⟩ := zv_192 hC.2.1
  have hat : I 3 2 = Int32.ofNat p := by rw [← e192]; exact hC.1.2.1
  unfold jx_Desk_rideTrain
  refine ss_pure hst ?_
  cases hs : zs_st q with
  | false =>
    have eS : sp_ride x q K L = (-1, K, L) := by unfold sp_ride; rw [hs]; rfl
    rw [eS]
    exact ss_iT rfl (ss_ret ⟨rfl, I, rfl, zf_refl _ _, hC, hL⟩)
  | true =>
    refine ss_iF (by decide) ?_
    refine ss_pt rfl rfl ?_
    refine ss_rc rfl ?_
    refine ss_call hh ?_
    cases hx : sp_has K x with
    | false =>
      have eS : sp_ride x q K L = (-2, K, L) := by unfold sp_ride; rw [hs, hx]; rfl
      rw [eS]
      exact ss_iT rfl (ss_ret ⟨rfl, I, rfl, zf_refl _ _, hC, hL⟩)
    | true =>
      have eS : sp_ride x q K L = rd_fin K L x q (sp_ron K x q) := by unfold sp_ride; rw [if_pos hs, if_pos hx]
      rw [eS]
      refine ss_iF (by decide) ?_
      refine ss_pt rfl rfl ?_
      refine ss_pt rfl rfl ?_
      refine ss_pt rfl rfl ?_
      refine ss_pt rfl rfl ?_
      refine ss_rc rfl ?_
      refine zp_wp_call (cx_fillT hC x) ?_
      rintro _ σ ⟨I1, rfl, f1, r1, s1⟩
      have hat1 : I1 3 2 = Int32.ofNat p := by rw [f1 3 2 rfl]; exact hat
      refine ss_pt rfl rfl ?_
      refine ss_gI rfl hat1 ?_
      refine ss_rc rfl ?_
      refine zp_wp_call (cx_leastT r1 q hp e192) ?_
      rintro r σ ⟨I2, rfl, f2, rfl, hB⟩
      have hff : zf zk_dk I I2 := zf_trans (zf_mono f1 zk_ft_dk) (zf_mono f2 zk_bs_dk)
      have hC2 : zr_cl t I2 D K := zr_cl_fr2 (fun a ha => by rw [zf_row f2 (fun k => by simp [zk_bs]; omega), zf_row f1 (fun k => by simp [zk_ft]; omega)]) hC
      have hL2 : cx_lg 20 I2 L := cx_lg_fr (fun k _ => by rw [f2 20 k rfl, f1 20 k rfl]) (fun a q1 q2 => by rw [zf_row f2 (fun k => by simp [zk_bs]; omega), zf_row f1 (fun k => by simp [zk_ft]; omega)]) hL
      cases hon : sp_ron K x q with
      | none =>
        have hng : ¬ 0 ≤ en none := by decide
        refine ss_iF hng ?_
        exact ss_ret ⟨rfl, I2, rfl, hff, hC2, hL2⟩
      | some c =>
        obtain ⟨n, p', b, hn, hp', hb, rfl, e192', rfl, hrd, hle⟩ := sp_ron_T hC.2.1 hon
        have epp : p' = p := by
          rw [e192] at e192'
          rw [zi_eq (by omega) (by omega)] at e192'; exact e192'.symm
        subst epp
        have hc7 := sp_rd7 hp hb hrd
        have hng : 0 ≤ en (some c) := zi_leL (a := 0) (b := c) (by omega) (by omega)
        obtain ⟨hne, hg, hpt⟩ := pth_ok hp hb hrd
        have hl : zs_leg (Int32.ofNat p') (Int32.ofNat b) = true := by rw [zs_legN hp hb, decide_eq_true hne]
        obtain ⟨B, hr, hbs, hmin⟩ := hB hl
        rw [zi_ixn (show b < 2147483648 by omega)] at hmin
        have hlx : sp_tx K (Int32.ofNat n) = sp_tk K n := by funext a b; unfold sp_tx; rw [if_pos hx, zi_ixn (by omega)]
        rw [hlx] at hmin hr
        have hBB : ∀ s, s < 8 → B s = sp_B (sp_tk K n) b s := fun s hs => (sp_min_eq (hmin s hs)).symm
        refine ss_iT hng ?_
        refine ss_pt rfl rfl ?_
        refine ss_rc rfl ?_
        refine zp_wp_call (cx_push (c := 1) hL2 (pk_at_of hC2.1)) ?_
        rintro _ τ ⟨I3, rfl, f3, l3⟩
        have hC3 := zr_cl_lgf hC2 f3
        have hfin : rd_fin K L (Int32.ofNat n) (Int32.ofNat b) (some c) = (Int32.ofNat c, kS (rdK K n b p' c) 192 (Int32.ofNat b), lg_push L (1, K)) := by
          unfold rd_fin; rw [e192, zi_ixn (by omega), zi_ixn (by omega), zi_ixn (by omega)]
        rw [hfin]
        have hr3 : zr_lg I3 (sp_tk K n) := fun a ha d hd => by rw [zf_row f3 (fun k => rfl)]; exact hr a ha d hd
        have hb3 : zr_bs I3 B := fun s hs => by rw [zf_row f3 (fun k => rfl)]; exact hbs s hs
        have hs3 : ∀ a, a < 8 → ∀ d, d < 8 → I3 16 (8 * a + d) = sp_sx K (Int32.ofNat n) a d := fun a ha d hd => by rw [f3 16 _ rfl, f2 16 _ rfl]; exact s1 a ha d hd
        have hp3 : pk_at I3 3 (kS (rdK K n b p' 0) 192 (Int32.ofNat (pth (sp_tk K n) b p' 0))) := by
          have e0 : kS (rdK K n b p' 0) 192 (Int32.ofNat (pth (sp_tk K n) b p' 0)) = K := by
            funext i
            show (if i = 192 then Int32.ofNat p' else K i) = K i
            by_cases hi : i = 192
            · rw [if_pos hi, hi, e192]
            · rw [if_neg hi]
          rw [e0]; exact pk_at_of hC3.1
        have htl : ∀ s n' a, sp_tk K n s n' = some a → a ≤ 150000 := fun s n' a h => by have := (sp_tk_s h).1; omega
        have hBl : ∀ s, s < 8 → ∀ v, B s = some v → v ≤ 2000000 := fun s hs v hv => by have := wy_le htl 7 s v ((hmin s hs).2 v hv); omega
        refine zl_g (fun i (_ : Unit) => Int32.ofNat i) 0 c (s0 := ()) rfl (by omega) (by omega) (fun i _ I' => zf (fun a k => a == 4 || (a == 3 && k == 2)) I3 I' ∧ pk_at I' 3 (kS (rdK K n b p' i) 192 (Int32.ofNat (pth (sp_tk K n) b p' i)))) ⟨zf_refl _ _, hp3⟩ ?step ?fin
        case step =>
          rintro i s I' - hi ⟨g, q1⟩
          have n1 : ¬ en (some c) ≤ Int32.ofNat i := zi_nle (a := c) hi (by omega)
          obtain ⟨s8, sB, hnx, -⟩ := hpt i (by omega)
          obtain ⟨s8', -, -, -⟩ := hpt (i + 1) hi
          obtain ⟨n1', n2, n3, n4⟩ := hnx hi
          obtain ⟨i1, i2, -⟩ := rdK_ok (pk_ok_of hC.2.1) hp hb hrd i (by omega)
          obtain ⟨j, hj, ej, -, hpos⟩ := rdK_sort (pk_ok_of hC.2.1) hp hb hrd hi
          have hstep : rdK K n b p' (i + 1) = kU (rdK K n b p' i) (Int32.ofNat j) (pth (sp_tk K n) b p' i) (pth (sp_tk K n) b p' (i + 1)) := by
            show kU _ _ _ _ = _
            rw [ej]
          rw [hstep]
          have hgo := (sp_tk_s n2).2.2.2.1
          have hss : I' 16 (8 * pth (sp_tk K n) b p' i + pth (sp_tk K n) b p' (i + 1)) = Int32.ofNat j := by
            rw [g 16 _ rfl, hs3 _ s8 _ s8']
            unfold sp_sx
            rw [zi_ixn (by omega), hx, hgo]
            exact ej
          generalize hsv : pth (sp_tk K n) b p' i = s at *
          generalize hsv' : pth (sp_tk K n) b p' (i + 1) = s' at *
          have h2 : I' 3 2 = Int32.ofNat s := by rw [q1.2.1, kS_e]
          have hr' : zr_lg I' (sp_tk K n) := fun a ha d hd => by rw [g 15 _ rfl]; exact hr3 a ha d hd
          have hb' : zr_bs I' B := fun z hz => by rw [g 18 _ rfl]; exact hb3 z hz
          have hns := cx_nextStop (t := t) (J := J) (D := D) hr' hb' htl hBl s8 hb
          rw [zn_nx_congr s8 hb hBB, n1'] at hns
          have hne' : s ≠ s' := fun e => by rw [e] at n4; omega
          have hok' : pk_ok (kS (rdK K n b p' i) 192 (Int32.ofNat s)) := pk_192 i1 s8
          refine ss_iF n1 ?_
          refine ss_pt rfl rfl ?_
          refine ss_gI rfl h2 ?_
          refine ss_rc rfl ?_
          refine ss_call hns ?_
          refine ss_pt rfl rfl ?_
          refine ss_gI rfl h2 ?_
          refine ss_rc rfl ?_
          refine ss_call (cx_sortOf s8 s8' hne' hss) ?_
          refine cx_useP hj s8 s8' q1 hok' (by rw [kS_n (by omega)]; exact hpos) h2 (fun I4 f4 p4 => ?_)
          refine ss_bret ?_
          refine ss_ret (Or.inl ⟨(), I4, by rw [zi_s], rfl, zf_trans g f4, ?_⟩)
          obtain ⟨z1, z2, z3, z4⟩ := p4
          refine ⟨fun k hk => ?_, by rw [z2, kS_e, kS_e], ?_, ?_⟩
          · rw [z1 k hk, kS_n (by omega), kS_n (by omega)]
            unfold kU
            rw [zi_ixn (by omega)]
            have c1 : 64 * j + (8 * s + s') ≠ 192 := by omega
            have c2 : 128 + (8 * s' + s) ≠ 192 := by omega
            have hkk : ∀ v, kS (kS (rdK K n b p' i) 192 (Int32.ofNat s)) (64 * j + (8 * s + s')) v k = kS (rdK K n b p' i) (64 * j + (8 * s + s')) v k := fun v => by
              unfold kS; split
              · rfl
              · exact if_neg (by omega)
            rw [kS_n c1]
            split
            · have hk2 : ∀ v, kS (kS (rdK K n b p' i) 192 (Int32.ofNat s)) (64 * j + (8 * s + s')) v (128 + (8 * s' + s)) = kS (rdK K n b p' i) (64 * j + (8 * s + s')) v (128 + (8 * s' + s)) := fun v => by
                unfold kS; split
                · rfl
                · first | rfl | exact if_neg c2
              rw [hk2]
              by_cases e : k = 128 + (8 * s' + s)
              · rw [e, kS_e, kS_e]
              · rw [kS_n e, kS_n e]; exact hkk _
            · exact hkk _
          · rw [z3, kS_n (by omega), kS_n (by omega), kU_n hj (by omega) (by omega), kU_n hj (by omega) (by omega), kS_n (by omega)]
          · rw [z4, kS_n (by omega), kS_n (by omega), kU_n hj (by omega) (by omega), kU_n hj (by omega) (by omega), kS_n (by omega)]
        case fin =>
          rintro s I' ⟨g, q1⟩
          have n1 : en (some c) ≤ Int32.ofNat c := Int32.le_refl _
          obtain ⟨-, -, -, hend⟩ := hpt c (Nat.le_refl _)
          rw [hend rfl] at q1
          obtain ⟨i1, i2, -⟩ := rdK_ok (pk_ok_of hC.2.1) hp hb hrd c (Nat.le_refl _)
          refine ss_iT n1 ?_
          refine ss_ret ⟨_, rfl, ?_⟩
          refine ss_ret ⟨rfl, I', rfl, zf_trans (zf_trans hff (zf_mono f3 zk_lg_dk)) (zf_mono g ?_), ?_, ?_⟩
          · intro a k e
            simp only [Bool.or_eq_true, Bool.and_eq_true, beq_iff_eq] at e
            simp [zk_dk]; omega
          · show zr_cl t I' D (kS (rdK K n b p' c) 192 (Int32.ofNat b))
            refine zr_cl_pk hC3 (fun i hi => by rw [kS_n (by omega)]; exact i2 i (by omega)) (pk_192 i1 hb) q1 (fun a ha => zf_row g (fun k => by simp; omega))
          · exact cx_lg_fr (fun k _ => g 20 k rfl) (fun a q1 q2 => zf_row g (fun k => by simp; omega)) l3
set_option maxRecDepth 20000 in
/-- one step of the model's ride -/
theorem mx_uses (hK : I 114 = K) (hM : zr_ml K) {n a b j : Nat} (hn : n < 6) (ha : a < 8) (hb : b < 8) (hj : j < 3) (he : sp_sort K n a b = Int32.ofNat j) : zp_wp (jx_Mo_uses (some 112) (Int32.ofNat n) (Int32.ofNat a) (Int32.ofNat b)) (fun _ τ => ∃ I', τ = zp_Z t I' J D ∧ zf (fun x k => zk_m1 x k || x == 114) I I' ∧ I' 114 = kU K (Int32.ofNat j) a b) (zp_Z t I J D) := by
  unfold jx_Mo_uses
  refine ss_rc rfl ?_
  refine zp_wp_call (mx_sortFor hK hM hn ha hb) ?_
  rintro _ τ ⟨rfl, I1, rfl, f1⟩
  rw [he]
  have e114 : I1 114 = K := by rw [zf_row f1 (fun k => rfl)]; exact hK
  have e0 : jx_Mo_ticketAt (Int32.ofNat j) (Int32.ofNat a) (Int32.ofNat b) = sf_ret (Int32.ofNat (64 * j + (8 * a + b))) := by rw [ze_ticketAt, (i_tk j hj a ha b hb).2]
  have e2 : jx_Mo_ticketAt 2 (Int32.ofNat b) (Int32.ofNat a) = sf_ret (Int32.ofNat (128 + (8 * b + a))) := by rw [ze_ticketAt]; exact congrArg sf_ret (i_tk 2 (by omega) b hb a ha).2
  have l0 : 64 * j + (8 * a + b) < 5838 := by omega
  have l2 : 128 + (8 * b + a) < 5838 := by omega
  have k0 : I1 114 (64 * j + (8 * a + b)) = K (64 * j + (8 * a + b)) := by rw [e114]
  have fm : zf (fun x k => zk_m1 x k || x == 114) I I1 := zf_mono f1 (fun x k e => by rw [e]; rfl)
  refine ss_pt rfl rfl ?_
  refine ss_pure e0 ?_
  refine ss_aI rfl rfl l0 (by decide) k0 ?_
  refine ss_sI rfl rfl l0 (by decide) ?_
  have r1 : sf_u2 I1 114 (64 * j + (8 * a + b)) (K (64 * j + (8 * a + b)) - 1) 114 = kS K (64 * j + (8 * a + b)) (K (64 * j + (8 * a + b)) - 1) := kS_u e114
  by_cases h1 : Int32.ofNat j = 1
  · have kk : sf_u2 I1 114 (64 * j + (8 * a + b)) (K (64 * j + (8 * a + b)) - 1) 114 (128 + (8 * b + a)) = kS K (64 * j + (8 * a + b)) (K (64 * j + (8 * a + b)) - 1) (128 + (8 * b + a)) := by rw [r1]
    have hm := ze_lesser 9 (kS K (64 * j + (8 * a + b)) (K (64 * j + (8 * a + b)) - 1) (128 + (8 * b + a)) + 1)
    refine ss_iT h1 ?_
    refine ss_pure e2 ?_
    refine ss_pt rfl rfl ?_
    refine ss_pt rfl rfl ?_
    refine ss_aI rfl rfl l2 (by decide) kk ?_
    refine ss_pure hm ?_
    refine ss_sI rfl rfl l2 (by decide) ?_
    refine ss_ret ⟨_, rfl, zf_u2 (zf_u2 fm rfl) rfl, ?_⟩
    rw [kS_u r1]
    unfold kU
    rw [if_pos h1, zi_ixn (by omega)]
  · refine ss_iF h1 ?_
    refine ss_ret ⟨_, rfl, zf_u2 fm rfl, ?_⟩
    rw [r1]
    unfold kU
    rw [if_neg h1, zi_ixn (by omega)]
set_option maxRecDepth 20000 in
theorem zk_m2_dj (a k : Nat) (h : zk_m2 a k = true) : zk_dj a k = true := by unfold zk_dj; rw [h]; rfl
set_option maxRecDepth 20000 in
theorem DM_ride (x q : Int32) : DM (jx_Mo_ridesKept (some 112) x q) (sp_ride x q) := by
  intro t I J D K L hK hM hL
  have hst := ze_MisStation q
  have hh := mx_isTrain (t := t) (J := J) (D := D) hK hM.1 x
  unfold jx_Mo_ridesKept
  refine ss_pure hst ?_
  cases hs : zs_st q with
  | false =>
    have eS : sp_ride x q K L = (-1, K, L) := by unfold sp_ride; rw [hs]; rfl
    rw [eS]
    exact ss_iT rfl (ss_ret ⟨rfl, I, rfl, zf_refl _ _, hK, hL⟩)
  | true =>
    refine ss_iF (by decide) ?_
    refine ss_rc rfl ?_
    refine ss_call hh ?_
    cases hx : sp_has K x with
    | false =>
      have eS : sp_ride x q K L = (-2, K, L) := by unfold sp_ride; rw [hs, hx]; rfl
      rw [eS]
      exact ss_iT rfl (ss_ret ⟨rfl, I, rfl, zf_refl _ _, hK, hL⟩)
    | true =>
      have eS : sp_ride x q K L = rd_fin K L x q (sp_ron K x q) := by unfold sp_ride; rw [if_pos hs, if_pos hx]
      rw [eS]
      refine ss_iF (by decide) ?_
      refine ss_rc rfl ?_
      obtain ⟨b, hb, rfl⟩ := zs_st_T hs
      obtain ⟨n, hn6, rfl, hn⟩ := sp_has_T hM.1 hx
      obtain ⟨p, hp, hK192⟩ := zv_192 hM.1
      have hron := sp_ron_N hx hn6 hp hb hK192
      rw [hron]
      refine zp_wp_call (mx_canRide hK hM hn6 hp hb hK192) ?_
      rintro r σ ⟨I1, rfl, f1, rfl, hl⟩
      have e114 : I1 114 = K := by rw [zf_row f1 (fun k => rfl)]; exact hK
      have hL1 : mx_lg I1 L := mx_lg_fr (f1 112 40 rfl) (zf_row f1 (fun k => rfl)) hL
      cases hrd : sp_rd K n p b with
      | none => exact ss_iT rfl (ss_ret ⟨rfl, I1, rfl, zf_mono f1 zk_m2_dj, e114, hL1⟩)
      | some c =>
        rw [hrd] at hl
        obtain ⟨m, ln, F, hlaid, hF, hc⟩ := hl rfl
        have hcF : c = F 0 := Option.some.inj hc
        obtain ⟨hln, hok, e0, eq, hm2, hleg, hleft⟩ := id hlaid
        obtain ⟨hne, hg, hpt⟩ := pth_ok hp hb hrd
        have hd := sp_tk_dir hp hb hg
        have hfin : rd_fin K L (Int32.ofNat n) (Int32.ofNat b) (some c) = (Int32.ofNat c, kS (rdK K n b p c) 192 (Int32.ofNat b), lg_push L (1, K)) := by
          unfold rd_fin; rw [hK192, zi_ixn (by omega), zi_ixn (by omega), zi_ixn (by omega)]
        rw [hfin]
        have hle : c ≤ 7 := sp_rd7 hp hb hrd
        refine ss_iF (show ¬ zb (some c).isSome = 0 by rw [show (some c).isSome = true from rfl]; decide) ?_
        refine ss_rc rfl ?_
        refine zp_wp_call (mx_keeps (c := 1) e114 hL1) ?_
        rintro _ τ ⟨I2, rfl, f2, l2⟩
        have e114' : I2 114 = K := by rw [zf_row f2 (fun k => rfl)]; exact e114
        have h127 : I2 127 0 = Int32.ofNat c := by rw [f2 127 0 rfl, hcF]; exact (hleft 0 (by omega)).1
        refine ss_rc rfl ?_
        unfold jx_Mo_rides
        refine ss_as ?_
        refine ss_pt rfl rfl ?_
        refine ss_as ?_
        refine ss_aI (m := 0) rfl rfl (by decide) (by decide) h127 ?_
        refine ss_as ?_
        refine zl_g (fun i (s : Nat) => Int32.ofNat s) 0 c (s0 := 0) rfl (by omega) (by omega) (fun i s I' => zf (fun a k => zk_m1 a k || a == 114) I2 I' ∧ I' 114 = rdK K n b p i ∧ s < m ∧ ln s = pth (sp_tk K n) b p i ∧ F s < 100000000) ⟨zf_refl _ _, e114', by omega, e0, hF⟩ ?step ?fin
        case step =>
          rintro i s I' - hi ⟨g, q1, hsm, hls, hFs⟩
          obtain ⟨s8, sB, hnx, -⟩ := hpt i (by omega)
          obtain ⟨s8', -, -, -⟩ := hpt (i + 1) hi
          obtain ⟨n1', n2, n3, n4⟩ := hnx hi
          obtain ⟨i1, i2, -⟩ := rdK_ok (pk_ok_of hM.1) hp hb hrd i (by omega)
          obtain ⟨j, hj, ej, ej', hpos⟩ := rdK_sort (pk_ok_of hM.1) hp hb hrd hi
          have hstep : rdK K n b p (i + 1) = kU (rdK K n b p i) (Int32.ofNat j) (pth (sp_tk K n) b p i) (pth (sp_tk K n) b p (i + 1)) := by
            show kU _ _ _ _ = _
            rw [ej]
          have g1 : ∀ a k, a = 125 ∨ a = 126 ∨ a = 127 ∨ (a = 112 ∧ k = 30) → I' a k = I1 a k := fun a k ha => by
            rw [g a k (by rcases ha with rfl | rfl | rfl | ⟨rfl, rfl⟩ <;> rfl), f2 a k (by rcases ha with rfl | rfl | rfl | ⟨rfl, rfl⟩ <;> rfl)]
          have hlaid' : zr_laid I' (sp_tk K n) (zs_stop K n) p b m ln F := by
            refine ⟨⟨by rw [g1 112 30 (by simp)]; exact hln.1, hln.2.1, fun i hi => ⟨by rw [g1 125 i (by simp)]; exact (hln.2.2 i hi).1, (hln.2.2 i hi).2⟩⟩, hok, e0, eq, hm2, fun i j hij hj => by rw [g1 126 _ (by simp)]; exact hleg i j hij hj, fun i hi => ⟨by rw [g1 127 i (by simp)]; exact (hleft i hi).1, (hleft i hi).2⟩⟩
          have hs1 : s < m - 1 := by
            rcases Nat.lt_or_ge s (m - 1) with h | h
            · exact h
            · exfalso
              have : s = m - 1 := by omega
              rw [this, eq] at hls
              exact n3 hls.symm
          obtain ⟨jn, hj1, hj2, hFj, hnext, hzn⟩ := mx_nextOf (t := t) (J := J) (D := D) hp hb hd hlaid' hs1 hFs
          rw [hls, n1'] at hzn
          have hlj : ln jn = pth (sp_tk K n) b p (i + 1) := (Option.some.inj hzn).symm
          have hm8 := hln.2.1
          have k30 : I' 112 30 = Int32.ofNat m := hlaid'.1.1
          have n1 : ¬ Int32.ofNat m - 1 ≤ Int32.ofNat s := by
            rw [show Int32.ofNat m - 1 = Int32.ofNat (m - 1) from zi_sub (a := m) (b := 1) (by omega)]
            exact zi_nle (by omega) (by omega)
          have a1 : I' 125 s = Int32.ofNat (pth (sp_tk K n) b p i) := by rw [← hls]; exact (hlaid'.1.2.2 s hsm).1
          have a2 : I' 125 jn = Int32.ofNat (pth (sp_tk K n) b p (i + 1)) := by rw [← hlj]; exact (hlaid'.1.2.2 jn hj2).1
          have ls : s < 8 := by omega
          have lj : jn < 8 := by omega
          have hMi : zr_ml (rdK K n b p i) := zr_ml_w hM (fun k hk => i2 k (by omega)) (i2 229 (by omega)) (zv_pk hM.1 i1 (fun k hk => i2 k (by omega)))
          refine ss_gI rfl k30 ?_
          refine ss_iF n1 ?_
          refine ss_rc rfl ?_
          refine ss_call hnext ?_
          refine ss_pt rfl rfl ?_
          refine ss_aI rfl rfl ls (by decide) a1 ?_
          refine ss_pt rfl rfl ?_
          refine ss_aI rfl rfl lj (by decide) a2 ?_
          refine ss_rc rfl ?_
          refine zp_wp_call (mx_uses q1 hMi hn6 s8 s8' hj ej') ?_
          rintro _ τ ⟨I4, rfl, f4, q4⟩
          refine ss_ret (Or.inl ⟨jn, I4, rfl, rfl, zf_trans g f4, by rw [hstep]; exact q4, hj2, hlj, hFj⟩)
        case fin =>
          rintro s I' ⟨g, q1, hsm, hls, hFs⟩
          obtain ⟨-, -, -, hend⟩ := hpt c (Nat.le_refl _)
          rw [hend rfl] at hls
          have hm8 := hln.2.1
          have hs1 : s = m - 1 := by
            rcases Nat.lt_or_ge s (m - 1) with h | h
            · exfalso
              have := hok.2.1 s (m - 1) h (by omega)
              rw [hls, eq] at this
              exact Nat.lt_irrefl _ this
            · omega
          have k30 : I' 112 30 = Int32.ofNat m := by rw [g 112 30 rfl, f2 112 30 rfl]; exact hln.1
          have n1 : Int32.ofNat m - 1 ≤ Int32.ofNat s := by
            rw [show Int32.ofNat m - 1 = Int32.ofNat (m - 1) from zi_sub (a := m) (b := 1) (by omega)]
            exact zi_leL (by omega) (by omega)
          have a1 : I' 125 s = Int32.ofNat b := by rw [g 125 s rfl, f2 125 s rfl, (hln.2.2 s hsm).1, hls]
          have ls : s < 8 := by omega
          refine ss_gI rfl k30 ?_
          refine ss_iT n1 ?_
          refine ss_ret ⟨_, rfl, ?_⟩
          refine ss_as ?_
          refine ss_pt rfl rfl ?_
          refine ss_as ?_
          refine ss_pt rfl rfl ?_
          refine ss_as ?_
          refine ss_aI rfl rfl ls (by decide) a1 ?_
          refine ss_as ?_
          refine ss_sI rfl rfl (by decide) (by decide) ?_
          refine ss_bret ?_
          refine ss_ret ⟨rfl, _, rfl, zf_u2 (zf_trans (zf_trans (zf_mono f1 zk_m2_dj) (zf_mono f2 zk_ml_dj)) (zf_mono g ?_)) rfl, ?_, mx_lg_fr ?_ ?_ l2⟩
          · intro a k e
            rw [Bool.or_eq_true] at e
            rcases e with e | e
            · exact zk_m1_dj a k e
            · simp only [beq_iff_eq] at e; simp [zk_dj, e]
          · exact kS_u q1
          · rw [zu_a (by decide)]; exact g 112 40 rfl
          · rw [zu_r (by decide)]; exact zf_row g (fun k => rfl)
set_option maxRecDepth 20000 in
/-- case 16 -/
theorem CL_ride (x q : Int32) : CL (jx_SF_ride (some 0) x q) (jx_Mo_ride (some 112) x q) := by
  unfold jx_SF_ride jx_Mo_ride
  exact CL.dd (F := fun o => jx_Desk_rideTrain o x q) (DX_ride x q) (DM_ride x q) (DO_ride x q)
end
