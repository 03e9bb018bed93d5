/-! orders: the model, both. -/
section
variable {t : List (Nat × Nat)} {I : Nat → Nat → Int32} {J : Nat → Nat → Int64} {D : Nat → Nat → Option Nat} {K : Nat → Int32} {T : Nat → Int32} {l n : Nat} {L : lg_L}
set_option maxRecDepth 20000 in
theorem mx_orders_good (hK : I 114 = K) (hM : zr_ml K) (hL : mx_lg I L) (hok : lg_ok L) (hT : ∀ i, i < l → I 119 i = sf_nw 2 (T i)) (hb : ∀ i, i < l → 0 ≤ T i ∧ T i ≤ 255) (hw : zr_wb I) (hl : l ≤ 400) (h13 : I 112 13 = Int32.ofNat l) {cs : List tx_C} (ht : tx_text (tkC T l) (tkV T l) true (tk_n T l) 12 0 0 = .inr cs) : zp_wp (jx_Mo_orders (some 112)) (fun r τ => ∃ I' J', τ = zp_Z t I' J' D ∧ zf zk_oy I I' ∧ I' 112 13 = 0 ∧ I' 112 14 = -1 ∧ ((od_all cs 0 (kO K T l, L, 0, -1)).1 = none → r = (od_all cs 0 (kO K T l, L, 0, -1)).2.2.2.1 ∧ I' 112 43 = -1 ∧ I' 114 = (od_all cs 0 (kO K T l, L, 0, -1)).2.1 ∧ mx_lg I' (od_all cs 0 (kO K T l, L, 0, -1)).2.2.1 ∧ an_at 112 0 113 I I' r) ∧ ∀ i, (od_all cs 0 (kO K T l, L, 0, -1)).1 = some i → r = -Int32.ofNat 3 ∧ I' 112 43 = Int32.ofNat i ∧ I' 114 = kO K T l ∧ mx_lg I' L ∧ an_at 112 0 113 I I' r) (zp_Z t I J D) := by
  have h4 : tk_n T l ≤ 400 := by have := tk_n_le (T := T) l; omega
  obtain ⟨hT0, tz, tc, tv⟩ := kO_txt (K := K) hl ht
  have hM0 : zr_ml (kO K T l) := zr_ml_kO hl hM
  generalize hK0 : kO K T l = K0 at hT0 tz tc tv hM0
  have k0lo : ∀ k, k < 195 → K k = K0 k := fun k hk => by rw [← hK0]; exact (kO_lo (by omega)).symm
  obtain ⟨hL1, hL2, hL3⟩ := hL
  unfold jx_Mo_orders
  refine ss_pI rfl ?_
  refine ss_rc rfl ?_
  refine zp_wp_call (mx_readsAs (ord := true) (n := l) (T := T) (fun i hi => by rw [zu_a (by decide)]; exact hT i hi) hb (fun k hk => by rw [zu_a (by decide)]; exact hw k hk) hl (by rw [zu_k (by decide)]; exact h13)) ?_
  rintro x τ ⟨I1, rfl, f1, r13, ⟨s1, s2, -⟩, hm⟩
  rw [ht] at hm
  obtain ⟨rfl, r14⟩ := hm
  have F1 : zf zk_oy I I1 := zf_trans (zf_u2 (zf_refl _ _) rfl) (zf_mono f1 zk_ra_oy)
  have e114 : I1 114 = K := by rw [zf_row f1 (fun k => rfl), zu_r (by decide)]; exact hK
  have e133 : I1 133 = I 133 := by rw [zf_row f1 (fun k => rfl), zu_r (by decide)]
  have e40 : I1 112 40 = Int32.ofNat L.length := by rw [f1 112 40 rfl, zu_k (by decide)]; exact hL2
  have e43 : I1 112 43 = -1 := by rw [f1 112 43 rfl, zu_eq]
  have e113 : ∀ k, I1 113 k = I 113 k := fun k => by rw [f1 113 k rfl, zu_a (by decide)]
  have hCV : ∀ k, k < tk_n T l → I1 121 k = tkC T l k ∧ I1 122 k = tkV T l k := fun k hk => by
    obtain ⟨s, h1, h2, h3⟩ := tk_n_sur (T := T) l k hk
    obtain ⟨q1, q2, -⟩ := s2 s h1 h2
    unfold tkC tkV
    rw [if_pos hk, if_pos hk, ← h3, tkS_eq h1 h2]
    exact ⟨q1, q2⟩
  refine ss_iF (by decide) ?_
  refine ss_rc rfl ?_
  refine zp_wp_call (mx_laysAside e114 (c := 1) (by decide)) ?_
  rintro _ τ ⟨I2, rfl, f2, r2⟩
  refine mx_rows 133 134 38 39 rfl rfl rfl rfl (by decide) (by decide) (by decide) (fun I3 f3 r3 => ?_)
  have row3 : ∀ a, a ≠ 117 → a ≠ 134 → I3 a = I1 a := fun a q1 q2 => (zf_row f3 (fun k => by simp [q2])).trans (zf_row f2 (fun k => by simp [q1]))
  have e40' : I3 112 40 = Int32.ofNat L.length := by rw [row3 112 (by decide) (by decide)]; exact e40
  refine ss_gI rfl e40' ?_
  refine ss_rc rfl ?_
  refine zp_wp_call (mx_lays (K := K) (n := 6) (c := tk_n T l) (C := tkC T l) (V := tkV T l) (by rw [row3 114 (by decide) (by decide)]; exact e114) (by omega) h4 (by rw [row3 112 (by decide) (by decide)]; exact s1) (fun k hk => by rw [row3 121 (by decide) (by decide)]; exact (hCV k hk).1) (fun k hk => by rw [row3 122 (by decide) (by decide)]; exact (hCV k hk).2)) ?_
  rintro _ τ ⟨I4, rfl, f4, e4⟩
  have e4' : I4 114 = K0 := by rw [e4, ← hK0]; rfl
  have row4 : ∀ a, a ≠ 117 → a ≠ 134 → a ≠ 114 → I4 a = I1 a := fun a q1 q2 q3 => (zf_row f4 (fun k => by simp [q3])).trans (row3 a q1 q2)
  refine ss_pI rfl ?_
  refine ss_pI rfl ?_
  refine ss_pI rfl ?_
  refine ss_gI rfl zu_eq ?_
  refine ss_pt rfl rfl ?_
  have e237 : sf_u2 (sf_u2 (sf_u2 I4 112 27 0) 112 28 (-1)) 112 44 2400 114 237 = Int32.ofNat (tk_n T l) := by
    rw [zu_a (by decide), zu_a (by decide), zu_a (by decide), e4']
    have := hT0.1
    rw [tz] at this
    exact this
  refine ss_aI rfl rfl (by decide) (by decide) e237 ?_
  refine ss_bret ?_
  have ey : (2400 : Int32) + Int32.ofNat (tk_n T l) = Int32.ofNat (400 * 6 + tk_n T l) := zi_add 2400 _
  rw [ey]
  generalize hI5 : sf_u2 (sf_u2 (sf_u2 I4 112 27 0) 112 28 (-1)) 112 44 2400 = I5
  have F5 : zf zk_oy I I5 := by
    subst hI5
    exact zf_u2 (zf_u2 (zf_u2 (zf_trans F1 (zf_trans (zf_mono f2 (fun a k e => by simp only [beq_iff_eq] at e; simp [zk_oy, e])) (zf_trans (zf_mono f3 (fun a k e => by simp only [beq_iff_eq] at e; simp [zk_oy, e])) (zf_mono f4 (fun a k e => by simp only [beq_iff_eq] at e; subst e; rfl))))) rfl) rfl) rfl
  have a114 : I5 114 = K0 := by subst hI5; rw [zu_r (by decide), zu_r (by decide), zu_r (by decide)]; exact e4'
  have a27 : I5 112 27 = 0 := by subst hI5; rw [zu_k (by decide), zu_k (by decide), zu_eq]
  have a28 : I5 112 28 = -1 := by subst hI5; rw [zu_k (by decide), zu_eq]
  have a44 : I5 112 44 = Int32.ofNat (400 * 6 + 0) := by subst hI5; rw [zu_eq]; rfl
  have a112 : ∀ k, k ≠ 27 → k ≠ 28 → k ≠ 44 → I5 112 k = I1 112 k := fun k q1 q2 q3 => by
    subst hI5; rw [zu_k q3, zu_k q2, zu_k q1, row4 112 (by decide) (by decide) (by decide)]
  have a133 : I5 133 = I 133 := by subst hI5; rw [zu_r (by decide), zu_r (by decide), zu_r (by decide), row4 133 (by decide) (by decide) (by decide)]; exact e133
  have a134 : ∀ k, k < 3136 → I5 134 k = I 133 k := fun k hk => by
    subst hI5
    rw [zu_a (by decide), zu_a (by decide), zu_a (by decide), f4 134 k rfl, r3 k hk, f2 133 k rfl, e133]
  have a117 : ∀ k, k < 195 → I5 117 (195 * 1 + k) = K0 k := fun k hk => by
    subst hI5
    rw [zu_a (by decide), zu_a (by decide), zu_a (by decide), f4 117 _ rfl, f3 117 _ rfl, r2 k hk]; exact k0lo k hk
  have a113 : ∀ k, I5 113 k = I 113 k := fun k => by subst hI5; rw [zu_a (by decide), zu_a (by decide), zu_a (by decide), row4 113 (by decide) (by decide) (by decide)]; exact e113 k
  have a40 : I5 112 40 = Int32.ofNat L.length := (a112 40 (by decide) (by decide) (by decide)).trans e40
  have a43 : I5 112 43 = -1 := (a112 43 (by decide) (by decide) (by decide)).trans e43
  have a13 : I5 112 13 = 0 := (a112 13 (by decide) (by decide) (by decide)).trans r13
  have a14 : I5 112 14 = -1 := (a112 14 (by decide) (by decide) (by decide)).trans r14
  clear hI5 e237 e4 e4' f4 row4 e40' row3 f3 r3 f2 r2 hCV f1 F1 e114 e133 e40 e43 e113 s1 s2 r13 r14
  obtain ⟨s0, hs0⟩ : ∃ s0 : od_S, s0 = (K0, L, 0, -1) := ⟨_, rfl⟩
  have ok0 : od_ok K0 0 s0 := by subst hs0; exact ⟨hM0.1, hok, fun _ _ => rfl, ⟨0, by omega, rfl⟩, show (-1 : Int32) ≠ -2000000000 by decide⟩
  have k1 : s0.1 = K0 := by rw [hs0]
  have k2 : s0.2.1 = L := by rw [hs0]
  have k3 : s0.2.2.1 = 0 := by rw [hs0]
  have k4 : s0.2.2.2 = -1 := by rw [hs0]
  rw [← hs0]
  refine ss_or ?_
  -- at the end
  have done : ∀ (s' : od_S) I' J', zf zk_om I5 I' → I' 114 = s'.1 → mx_lg I' s'.2.1 → I' 112 27 = s'.2.2.1 → od_ok K0 300 s' → od_all cs 0 s0 = (none, s') → zp_wp (sf_bnd (sf_gI 11 27 (some 112)) fun x34 => sf_bnd (sf_rc 11 (some 112) (jx_Mo_good (some 112) x34)) fun x35 => sf_ret x35) (fun r τ => ∃ I' J', τ = zp_Z t I' J' D ∧ zf zk_oy I I' ∧ I' 112 13 = 0 ∧ I' 112 14 = -1 ∧ ((od_all cs 0 s0).1 = none → r = (od_all cs 0 s0).2.2.2.1 ∧ I' 112 43 = -1 ∧ I' 114 = (od_all cs 0 s0).2.1 ∧ mx_lg I' (od_all cs 0 s0).2.2.1 ∧ an_at 112 0 113 I I' r) ∧ ∀ i, (od_all cs 0 s0).1 = some i → r = -Int32.ofNat 3 ∧ I' 112 43 = Int32.ofNat i ∧ I' 114 = K0 ∧ mx_lg I' L ∧ an_at 112 0 113 I I' r) (zp_Z t I' J' D) := by
    intro s' I' J' hf h114 hlg h27 hok' hall
    rw [hall]
    obtain ⟨-, -, -, ⟨nn, hnn, ed⟩, -⟩ := hok'
    refine ss_gI rfl h27 ?_
    refine ss_rc rfl ?_
    refine ss_call (mx_good _) ?_
    refine ss_ret ⟨_, J', rfl, zf_u2 (zf_trans F5 (zf_mono hf zk_om_oy)) rfl, ?_, ?_, fun _ => ⟨rfl, ?_, by rw [zu_r (by decide)]; exact h114, mx_lg_fr (zu_k (by decide)) (zu_r (by decide)) hlg, ?_⟩, (fun i h => absurd h (by simp))⟩
    · rw [zu_k (by decide), hf 112 13 rfl]; exact a13
    · rw [zu_k (by decide), hf 112 14 rfl]; exact a14
    · rw [zu_k (by decide), hf 112 43 rfl]; exact a43
    · exact an_l (I := I') (fun k => by rw [hf 113 k rfl]; exact (a113 k).symm) (an_acc 112 0 113 (by decide) (by rw [ed]; exact zi_leL (a := 0) (by omega) (by omega)))
  refine zl_gA (fun j (_ : od_S) => Int32.ofNat j) 0 12 (s0 := s0) rfl (by omega) (by omega) (fun j s' I' J' => zf zk_om I5 I' ∧ I' 114 = s'.1 ∧ mx_lg I' s'.2.1 ∧ I' 112 27 = s'.2.2.1 ∧ I' 112 28 = s'.2.2.2 ∧ od_ok K0 (20 * j) s' ∧ ∃ cs', od_all cs 0 s0 = od_all cs' j s' ∧ ((cs' = [] ∧ I' 112 44 = Int32.ofNat (400 * 6 + (tk_n T l + 1))) ∨ ∃ p l0, p ≤ tk_n T l ∧ l0 ≤ 50 ∧ I' 112 44 = Int32.ofNat (400 * 6 + p) ∧ tx_text (tkC T l) (tkV T l) true (tk_n T l) (12 - j) p l0 = .inr cs')) ⟨zf_refl _ _, by rw [k1]; exact a114, by rw [k2]; exact ⟨hL1, a40, fun i e hi => by rw [a133]; exact hL3 i e hi⟩, by rw [k3]; exact a27, by rw [k4]; exact a28, ok0, cs, rfl, Or.inr ⟨0, 0, by omega, by omega, a44, ht⟩⟩ ?step ?fin
  case fin =>
    rintro s' I' J' ⟨g1, g2, g3, g4, g5, g6, cs', g7, g8⟩
    rcases g8 with ⟨rfl, g8⟩ | ⟨p, l0, -, -, -, g8⟩
    · refine ss_gI rfl g8 ?_
      refine ss_iT (zi_leL (by omega) (by omega)) ?_
      refine ss_ret ⟨_, rfl, ss_cr (done s' I' J' g1 g2 g3 g4 ?_ g7)⟩
      obtain ⟨z1, z2, z3, ⟨nn, hnn, z4⟩, z5⟩ := g6
      exact ⟨z1, z2, z3, ⟨nn, by omega, z4⟩, z5⟩
    · exact absurd g8 (by rw [Nat.sub_self]; intro h; cases h)
  case step =>
    rintro j s' I' J' - hj ⟨g1, g2, g3, g4, g5, g6, cs', g7, g8⟩
    rcases g8 with ⟨rfl, g8⟩ | ⟨p, l0, hp, hl0, g8, g9⟩
    · refine ss_gI rfl g8 ?_
      refine ss_iT (zi_leL (by omega) (by omega)) ?_
      refine ss_ret (Or.inr ⟨_, rfl, ss_cr (done s' I' J' g1 g2 g3 g4 ?_ g7)⟩)
      obtain ⟨z1, z2, z3, ⟨nn, hnn, z4⟩, z5⟩ := g6
      exact ⟨z1, z2, z3, ⟨nn, by omega, z4⟩, z5⟩
    · obtain ⟨u, hu⟩ : ∃ u, 12 - j = u + 1 := ⟨12 - j - 1, by omega⟩
      have hu2 : 12 - (j + 1) = u := by omega
      rw [hu] at g9
      unfold tx_text at g9
      have hcl0 : tx_cl (tkC T l) (tkV T l) true p l0 = tx_ordC (tkC T l) (tkV T l) true p l0 := rfl
      rw [hcl0] at g9
      cases hcl : tx_ordC (tkC T l) (tkV T l) true p l0 with
      | inl f => rw [hcl] at g9; cases g9
      | inr r0 =>
        obtain ⟨q, l2, cl⟩ := r0
        rw [hcl] at g9
        simp only at g9
        have hplt : p < tk_n T l := by
          rcases Nat.lt_or_ge p (tk_n T l) with h1 | h1
          · exact h1
          · exfalso
            have h0 : tkC T l p = 0 := by unfold tkC; rw [if_neg (by omega)]
            unfold tx_ordC at hcl
            rw [if_neg (by rw [h0]; decide), if_neg (by rw [h0]; decide), if_neg (by rw [h0]; decide), if_neg (by rw [h0]; decide), if_neg (by rw [h0]; decide)] at hcl
            cases hcl
        have hruns := mx_runs (t := t) (I := I') (J := J') (D := D) (s := s') (K0 := K0) (m := 20 * j) (p := p) (l0 := l0) (q := q) (l2 := l2) (cl := cl) g2 hM0 hT0 g6 g3 g4 g5 g8 (by rw [tz]; exact hp) hl0 (by rw [tc, tv]; exact hcl)
        rw [tz] at hruns
        refine ss_gI rfl g8 ?_
        refine ss_iF (zi_nle (by omega) (by omega)) ?_
        refine ss_rc rfl ?_
        refine zp_wp_call hruns ?_
        rintro r τ ⟨k, n, hk4, ek, hn, en, hq, hl2, hpq, hr, I6, J6, rfl, f6, b114, blg, b27, b28, b44⟩
        have F6 : zf zk_om I5 I6 := zf_trans g1 f6
        have hix : sf_ix cl.2.1 = n := by rw [en]; exact zi_ixn (by omega)
        have ok1 := od_rep_ok (cl := cl) n (20 * j) s' g6
        have ok2 : od_ok K0 (20 * (j + 1)) (od_rep cl n s').2 := by
          obtain ⟨z1, z2, z3, ⟨nn, hnn, z4⟩, z5⟩ := ok1
          exact ⟨z1, z2, z3, ⟨nn, by omega, z4⟩, z5⟩
        -- what is left of the text
        have hrest : ∃ cs2, cs' = cl :: cs2 ∧ ((cs2 = [] ∧ q = tk_n T l) ∨ (q < tk_n T l ∧ tx_text (tkC T l) (tkV T l) true (tk_n T l) u (q + 1) l2 = .inr cs2)) := by
          by_cases hz : tk_n T l ≤ q
          · rw [if_pos hz] at g9
            cases g9
            exact ⟨[], rfl, Or.inl ⟨rfl, by omega⟩⟩
          · rw [if_neg hz] at g9
            by_cases h159 : tkC T l q = 159
            · rw [if_pos h159] at g9
              cases hx : tx_text (tkC T l) (tkV T l) true (tk_n T l) u (q + 1) l2 with
              | inl f => rw [hx] at g9; cases g9
              | inr cs2 => rw [hx] at g9; cases g9; exact ⟨cs2, rfl, Or.inr ⟨by omega, rfl⟩⟩
            · rw [if_neg h159] at g9; cases g9
        obtain ⟨cs2, rfl, hcs2⟩ := hrest
        have hall2 : od_all cs 0 s0 = if (od_rep cl n s').1 = true then od_all cs2 (j + 1) (od_rep cl n s').2 else (some j, (od_rep cl n s').2) := by
          rw [g7]
          show (if (od_rep cl (sf_ix cl.2.1) s').1 = true then _ else _) = _
          rw [hix]
        cases hbb : (od_rep cl n s').1 with
        | true =>
          rw [hbb] at hr hall2
          refine ss_iF (by rw [hr]; decide) ?_
          refine ss_bret ?_
          refine ss_ret (Or.inl ⟨(od_rep cl n s').2, I6, J6, by rw [zi_s], rfl, F6, b114, blg, b27, b28, ok2, cs2, by rw [hall2, if_pos rfl], ?_⟩)
          rcases hcs2 with ⟨h1, h2⟩ | ⟨h1, h2⟩
          · exact Or.inl ⟨h1, by rw [b44 hbb, h2]⟩
          · exact Or.inr ⟨q + 1, l2, by omega, hl2, b44 hbb, by rw [hu2]; exact h2⟩
        | false =>
          rw [hbb] at hr hall2
          rw [if_neg (by decide)] at hall2
          have hkW : kW (od_rep cl n s').2.1 K0 = K0 := by
            funext a; unfold kW
            split
            · rfl
            · next h => exact ok2.2.2.1 a (by omega)
          refine ss_iT hr ?_
          refine ss_rc rfl ?_
          refine zp_wp_call (mx_takesBack b114 (c := 1) (by decide) (A := K0) (fun k hk => by rw [F6 117 _ rfl]; exact a117 k hk)) ?_
          rintro _ τ ⟨I7, rfl, f7, e7⟩
          rw [hkW] at e7
          refine mx_rows 134 133 39 38 rfl rfl rfl rfl (by decide) (by decide) (by decide) (fun I8 f8 r8 => ?_)
          refine ss_pI rfl ?_
          refine ss_pI rfl ?_
          refine ss_rc rfl ?_
          refine ss_call (mx_refuses (j := 3) (by decide) (by decide)) ?_
          have row8 : ∀ a, a ≠ 114 → a ≠ 133 → I8 a = I6 a := fun a q1 q2 => (zf_row f8 (fun k => by simp [q2])).trans (zf_row f7 (fun k => by simp [q1]))
          have F8 : zf zk_oy I I8 := zf_trans F5 (zf_trans (zf_mono F6 zk_om_oy) (zf_trans (zf_mono f7 (fun a k e => by simp only [beq_iff_eq] at e; subst e; rfl)) (zf_mono f8 (fun a k e => by simp only [beq_iff_eq] at e; subst e; rfl))))
          refine ss_ret (Or.inr ⟨_, rfl, ss_cl ?_⟩)
          rw [hall2]
          refine ⟨_, J6, rfl, zf_u2 (zf_u2 (zf_u2 (zf_u2 F8 rfl) rfl) rfl) rfl, ?_, ?_, (fun h => absurd h (by simp)), fun i hi => ?_⟩
          · rw [zu_a (by decide), zu_k (by decide), zu_k (by decide), zu_k (by decide), row8 112 (by decide) (by decide), F6 112 13 rfl]; exact a13
          · rw [zu_a (by decide), zu_k (by decide), zu_k (by decide), zu_k (by decide), row8 112 (by decide) (by decide), F6 112 14 rfl]; exact a14
          · cases hi
            refine ⟨rfl, ?_, ?_, ⟨hL1, ?_, fun i e hi => ?_⟩, an_l (I := sf_u2 (sf_u2 I8 112 40 (Int32.ofNat L.length)) 112 43 (Int32.ofNat j)) (fun k => ?_) (an_ref 112 0 113 (by decide) (by decide) (by decide))⟩
            · rw [zu_a (by decide), zu_k (by decide), zu_eq]
            · rw [zu_r (by decide), zu_r (by decide), zu_r (by decide), zu_r (by decide), zf_row f8 (fun k => rfl)]; exact e7
            · rw [zu_a (by decide), zu_k (by decide), zu_k (by decide), zu_eq]
            · have hil : i < 16 := by
                have := (List.getElem?_eq_some_iff.mp hi).1
                omega
              have e133' : ∀ k, k < 3136 → I8 133 k = I 133 k := fun k hk => by
                rw [r8 k hk, f7 134 k rfl, F6 134 k rfl]; exact a134 k hk
              obtain ⟨q1, q2⟩ := hL3 i e hi
              refine ⟨fun k hk => ?_, ?_⟩
              · rw [zu_a (by decide), zu_a (by decide), zu_a (by decide), zu_a (by decide), e133' _ (by omega)]; exact q1 k hk
              · rw [zu_a (by decide), zu_a (by decide), zu_a (by decide), zu_a (by decide), e133' _ (by omega)]; exact q2
            · rw [zu_a (by decide), zu_a (by decide), row8 113 (by decide) (by decide), F6 113 k rfl]; exact (a113 k).symm
end
