/-! orders: the class runs a clause. -/
def zk_oc (a k : Nat) : Bool := zk_dk a k || a == 93 || a == 94 || (a == 1 && (k == 6 || k == 7))
set_option maxRecDepth 20000 in
theorem zk_dk_oc (a k : Nat) (h : zk_dk a k = true) : zk_oc a k = true := by unfold zk_oc; rw [h]; rfl
set_option maxRecDepth 20000 in
theorem tx_hold_ev {w : Nat → Int32} {cl : tx_C} : ((match tx_dn w cl.2.2.2.2 with
      | none => (-2000000000 : Int32)
      | some r => r) = 1) ↔ tx_hold w cl = true := by
  unfold tx_hold
  rw [decide_eq_true_iff]
  cases tx_dn w cl.2.2.2.2 with
  | none => exact ⟨fun h => absurd h (by decide), fun h => by cases h⟩
  | some r => exact ⟨fun h => by rw [show r = 1 from h], fun h => by cases h; rfl⟩
section
variable {t : List (Nat × Nat)} {I : Nat → Nat → Int32} {J : Nat → Nat → Int64} {D : Nat → Nat → Option Nat} {K : Nat → Int32} {L : lg_L}
set_option maxRecDepth 20000 in
theorem DX_od {k : Nat} (hk : k ≤ 4) (a b : Int32) {γ : Type} {g : Int32 → sf_M γ} {Q : γ → sf_St → Prop} (hC : zr_cl t I D K) (hL : cx_lg 20 I L) (h : ∀ r I', r = (od_do (Int32.ofNat k) a b K L).1 → zf zk_dk I I' → zr_cl t I' D (od_do (Int32.ofNat k) a b K L).2.1 → cx_lg 20 I' (od_do (Int32.ofNat k) a b K L).2.2 → zp_wp (g r) Q (zp_Z t I' J D)) : zp_wp (sf_bnd (if Int32.ofNat k = (0 : Int32) then (
  sf_bnd (sf_rc 1 (some 1) (jx_Desk_buyTicket (some 1) (0 : Int32) a b)) fun x15 =>
  sf_ret x15
  ) else (
  if Int32.ofNat k = (1 : Int32) then (
  sf_bnd (sf_rc 1 (some 1) (jx_Desk_buyTicket (some 1) (1 : Int32) a b)) fun x16 =>
  sf_ret x16
  ) else (
  if Int32.ofNat k = (2 : Int32) then (
  sf_bnd (sf_rc 1 (some 1) (jx_Desk_rideTrain (some 1) a b)) fun x17 =>
  sf_ret x17
  ) else (
  if Int32.ofNat k = (3 : Int32) then (
  sf_bnd (sf_rc 1 (some 1) (jx_Desk_savePence (some 1) a)) fun x18 =>
  sf_ret x18
  ) else (
  if Int32.ofNat k = (4 : Int32) then (
  sf_bnd (sf_rc 1 (some 1) (jx_Desk_passDay (some 1))) fun x19 =>
  sf_ret x19
  ) else (
  sf_ret (-3 : Int32)
  )
  )
  )
  )
  )) g) Q (zp_Z t I J D) := by
  have fin : ∀ (f : sf_M Int32) (d : DSp), DX f d → od_do (Int32.ofNat k) a b = d → zp_wp (sf_bnd (sf_bnd (sf_rc 1 (some 1) f) fun x => sf_ret x) g) Q (zp_Z t I J D) := by
    intro f d hd e
    refine ss_as ?_
    refine ss_rc rfl ?_
    refine zp_wp_call (hd t I J D K L hC hL) ?_
    rintro r τ ⟨h1, I1, rfl, f1, c1, l1⟩
    refine ss_bret ?_
    rw [← e] at h1 c1 l1
    exact h r I1 h1 f1 c1 l1
  have : k = 0 ∨ k = 1 ∨ k = 2 ∨ k = 3 ∨ k = 4 := by omega
  rcases this with rfl | rfl | rfl | rfl | rfl
  · refine ss_biT (by decide) (fin _ _ (DX_buy 0 a b) rfl)
  · refine ss_biF (by decide) (ss_biT (by decide) (fin _ _ (DX_buy 1 a b) rfl))
  · refine ss_biF (by decide) (ss_biF (by decide) (ss_biT (by decide) (fin _ _ (DX_ride a b) rfl)))
  · refine ss_biF (by decide) (ss_biF (by decide) (ss_biF (by decide) (ss_biT (by decide) (fin _ _ (DX_save a) rfl))))
  · refine ss_biF (by decide) (ss_biF (by decide) (ss_biF (by decide) (ss_biF (by decide) (ss_biT (by decide) (fin _ _ DX_pass rfl)))))
set_option maxRecDepth 20000 in
theorem od_one_no {cl : tx_C} {s : od_S} (h : ¬ tx_hold (ow s.1 s.2.2.1 s.2.2.2) cl = true) : od_one cl s = (true, s) := by unfold od_one; rw [if_neg h]
set_option maxRecDepth 20000 in
theorem od_one_brk {cl : tx_C} {s : od_S} (h : tx_hold (ow s.1 s.2.2.1 s.2.2.2) cl = true) (hb : tx_dn (ow s.1 s.2.2.1 s.2.2.2) cl.2.2.1 = none ∨ tx_dn (ow s.1 s.2.2.1 s.2.2.2) cl.2.2.2.1 = none) : od_one cl s = (false, s) := by
  unfold od_one; rw [if_pos h]
  rcases hb with hb | hb
  · rw [hb]
  · rw [hb]; split
    · next h2 => cases h2
    · rfl
set_option maxRecDepth 20000 in
theorem od_one_do {cl : tx_C} {s : od_S} {a b : Int32} (h : tx_hold (ow s.1 s.2.2.1 s.2.2.2) cl = true) (ha : tx_dn (ow s.1 s.2.2.1 s.2.2.2) cl.2.2.1 = some a) (hb : tx_dn (ow s.1 s.2.2.1 s.2.2.2) cl.2.2.2.1 = some b) : od_one cl s = (decide (0 ≤ (od_do cl.1 a b s.1 s.2.1).1), (od_do cl.1 a b s.1 s.2.1).2.1, (od_do cl.1 a b s.1 s.2.1).2.2, (if 0 ≤ (od_do cl.1 a b s.1 s.2.1).1 then s.2.2.1 + 1 else s.2.2.1), if cl.1 = 2 ∧ 0 ≤ (od_do cl.1 a b s.1 s.2.1).1 then (od_do cl.1 a b s.1 s.2.1).1 else s.2.2.2) := by
  unfold od_one; rw [if_pos h, ha, hb]
set_option maxRecDepth 20000 in
theorem od_rep_S {cl : tx_C} {n : Nat} {s : od_S} : od_rep cl (n + 1) s = if (od_one cl s).1 = true then od_rep cl n (od_one cl s).2 else (false, (od_one cl s).2) := rfl
set_option maxRecDepth 20000 in
theorem cx_runClause {cs : List tx_C} {i n k m : Nat} {cl : tx_C} {s : od_S} {K0 : Nat → Int32} (hC : zr_cl t I D s.1) (hL : cx_lg 20 I s.2.1) (h6 : I 1 6 = s.2.2.1) (h7 : I 1 7 = s.2.2.2) (hc : zr_prog I 98 cs) (hi : cs[i]? = some cl) (hok : tx_cok true cl) (hn : cl.2.1 = Int32.ofNat n) (hn20 : n ≤ 20) (hk : cl.1 = Int32.ofNat k) (hk4 : k ≤ 4) (hs : od_ok K0 m s) (hm : m ≤ 900) :
    zp_wp (jx_Desk_runClause (some 1) (some 98) (Int32.ofNat i)) (fun r τ => r = zb (od_rep cl n s).1 ∧ ∃ I', τ = zp_Z t I' J D ∧ zf zk_oc I I' ∧ zr_cl t I' D (od_rep cl n s).2.1 ∧ cx_lg 20 I' (od_rep cl n s).2.2.1 ∧ I' 1 6 = (od_rep cl n s).2.2.2.1 ∧ I' 1 7 = (od_rep cl n s).2.2.2.2) (zp_Z t I J D) := by
  have hil : i < cs.length := by
    rcases Nat.lt_or_ge i cs.length with q | q
    · exact q
    · rw [List.getElem?_eq_none q] at hi; cases hi
  have hc' := hc
  obtain ⟨p1, p2, p3, p4, p5, p6⟩ := hc'
  obtain ⟨c0, c1, c2, c3, c4, c5⟩ := p6 i cl hi
  have hix : ∀ (n : Nat) (m : Int32), m = Int32.ofNat n → Int32.ofNat i * 6 + m = Int32.ofNat (i * 6 + n) := fun n m e => by rw [e]; exact zn_add (zn_mul rfl (zi_lit 6)) rfl
  have e0 : Int32.ofNat i * 6 + 0 = Int32.ofNat (i * 6) := hix 0 0 rfl
  have e1 : Int32.ofNat i * 6 + 1 = Int32.ofNat (i * 6 + 1) := hix 1 1 rfl
  have n0 := ez_noted (t := t) (I := I) (J := J) (D := D) zr_pp98 e0 (by omega)
  have n1 := ez_noted (t := t) (I := I) (J := J) (D := D) zr_pp98 e1 (by omega)
  rw [c0, hk] at n0
  rw [c1, hn] at n1
  unfold jx_Desk_runClause
  refine ss_rc rfl ?_
  refine ss_call n0 ?_
  refine ss_rc rfl ?_
  refine ss_call n1 ?_
  refine ss_or ?_
  refine zl_g (fun j (_ : od_S) => Int32.ofNat j) 0 n (s0 := s) rfl (by omega) (by omega) (fun j s' I' => od_rep cl n s = od_rep cl (n - j) s' ∧ od_ok K0 (m + j) s' ∧ zf zk_oc I I' ∧ zr_cl t I' D s'.1 ∧ cx_lg 20 I' s'.2.1 ∧ I' 1 6 = s'.2.2.1 ∧ I' 1 7 = s'.2.2.2) ⟨rfl, hs, zf_refl _ _, hC, hL, h6, h7⟩ ?step ?fin
  case fin =>
    rintro s' I' ⟨g1, g2, g3, g4, g5, g6, g7⟩
    have n1 : Int32.ofNat n ≤ Int32.ofNat n := zi_leL (by omega) (by omega)
    refine ss_iT n1 ?_
    refine ss_ret ⟨_, rfl, ?_⟩
    refine ss_cr ?_
    rw [Nat.sub_self] at g1
    rw [g1]
    exact ss_ret ⟨rfl, I', rfl, g3, g4, g5, g6, g7⟩
  case step =>
    rintro j s' I' - hj ⟨g1, g2, g3, g4, g5, g6, g7⟩
    have n1 : ¬ Int32.ofNat n ≤ Int32.ofNat j := zi_nle hj (by omega)
    obtain ⟨q, hq⟩ : ∃ q, n - j = q + 1 := ⟨n - j - 1, by omega⟩
    rw [hq, od_rep_S] at g1
    have hq2 : n - (j + 1) = q := by omega
    have ok1 := od_one_ok (cl := cl) g2
    obtain ⟨z1, z2, z3, ⟨z4, hz4, z5⟩, z6⟩ := g2
    refine ss_iF n1 ?_
    refine ss_rc rfl ?_
    refine zp_wp_call (cx_oWords g4 g6 g7) ?_
    rintro _ τ ⟨I1, rfl, f1, w1⟩
    generalize hw : ow s'.1 s'.2.2.1 s'.2.2.2 = w at w1
    have nb : ∀ k, w k ≠ -2000000000 := by rw [← hw]; exact ow_nb z1 (by omega) z5 z6
    have pr : ∀ I2, zf zk_oc I I2 → zr_prog I2 98 cs := fun I2 hf => by
      have e : ∀ x, 97 < x → x < 102 → I2 x = I x := fun x q1 q2 => zf_row hf (fun k => by simp [zk_oc, zk_dk]; omega)
      unfold zr_prog zr_cls at hc ⊢
      rw [e 98 (by omega) (by omega), e (98 + 1) (by omega) (by omega), e (98 + 2) (by omega) (by omega), e (98 + 3) (by omega) (by omega)]
      exact hc
    have wd : ∀ (xs : tx_L), tx_po true xs → ∀ I2 : Nat → Nat → Int32, (∀ k, I2 93 k = I1 93 k) → ∀ x, x ∈ xs → x.1 = 1 → I2 93 (sf_ix x.2) = w (sf_ix x.2) := fun xs hxs I2 hI2 x hx h1 => by
      have := (hxs.1 x hx).2.1 h1
      rw [zs_inT] at this
      obtain ⟨r, hr, e⟩ := zi_rng (n := 11) this.1 this.2 (by omega)
      rw [hI2, e, zi_ixn (by omega)]; exact w1 r (by omega)
    have F1 : zf zk_oc I I1 := zf_trans g3 (zf_mono f1 (fun a k e => by simp only [beq_iff_eq] at e; simp [zk_oc, e]))
    refine ss_pt rfl rfl ?_
    refine ss_rc rfl ?_
    refine zp_wp_call (pr_eval92 zr_pp98 (by decide) (pr I1 F1) hi hok w (what := 4) (Or.inr (Or.inr ⟨rfl, rfl⟩)) (wd _ hok.2.2 I1 (fun k => rfl))) ?_
    rintro x7 τ ⟨e7, I2, rfl, f2⟩
    have F2 : zf zk_oc I I2 := zf_trans F1 (zf_mono f2 (fun a k e => by simp only [beq_iff_eq] at e; simp [zk_oc, e]))
    have E2 : ∀ k, I2 93 k = I1 93 k := fun k => f2 93 k rfl
    have row2 : ∀ a, a ≠ 93 → a ≠ 94 → I2 a = I' a := fun a q1 q2 => (zf_row f2 (fun k => by simp [q2])).trans (zf_row f1 (fun k => by simp [q1]))
    have cl2 : zr_cl t I2 D s'.1 := zr_cl_fr2 (fun a ha => row2 a (by omega) (by omega)) g4
    have lg2 : cx_lg 20 I2 s'.2.1 := cx_lg_fr (fun k _ => by rw [row2 20 (by decide) (by decide)]) (fun a q1 q2 => row2 a (by omega) (by omega)) g5
    -- the state goes on, or is the last
    have next : ∀ I3, (od_one cl s').1 = true → zf zk_oc I I3 → zr_cl t I3 D (od_one cl s').2.1 → cx_lg 20 I3 (od_one cl s').2.2.1 → I3 1 6 = (od_one cl s').2.2.2.1 → I3 1 7 = (od_one cl s').2.2.2.2 → ∃ s2 I4, (Sum.inl (Int32.ofNat j + 1) : Int32 ⊕ (Int32 ⊕ Unit)) = .inl (Int32.ofNat (j + 1)) ∧ zp_Z t I3 J D = zp_Z t I4 J D ∧ od_rep cl n s = od_rep cl (n - (j + 1)) s2 ∧ od_ok K0 (m + (j + 1)) s2 ∧ zf zk_oc I I4 ∧ zr_cl t I4 D s2.1 ∧ cx_lg 20 I4 s2.2.1 ∧ I4 1 6 = s2.2.2.1 ∧ I4 1 7 = s2.2.2.2 := by
      intro I3 h1 h2 h3 h4 h5 h6
      refine ⟨(od_one cl s').2, I3, by rw [zi_s], rfl, by rw [g1, if_pos h1, hq2], ok1, h2, h3, h4, h5, h6⟩
    have last : ∀ I3, (od_one cl s').1 = false → zf zk_oc I I3 → zr_cl t I3 D (od_one cl s').2.1 → cx_lg 20 I3 (od_one cl s').2.2.1 → I3 1 6 = (od_one cl s').2.2.2.1 → I3 1 7 = (od_one cl s').2.2.2.2 → ∃ g, (Sum.inr (Sum.inl 0) : Int32 ⊕ (Int32 ⊕ Unit)) = .inr g ∧ zp_wp (sf_cs (fun _ => sf_ret (1 : Int32)) g) (fun r τ => r = zb (od_rep cl n s).1 ∧ ∃ I', τ = zp_Z t I' J D ∧ zf zk_oc I I' ∧ zr_cl t I' D (od_rep cl n s).2.1 ∧ cx_lg 20 I' (od_rep cl n s).2.2.1 ∧ I' 1 6 = (od_rep cl n s).2.2.2.1 ∧ I' 1 7 = (od_rep cl n s).2.2.2.2) (zp_Z t I3 J D) := by
      intro I3 h1 h2 h3 h4 h5 h6
      refine ⟨_, rfl, ss_cl ?_⟩
      rw [g1, if_neg (by rw [h1]; decide)]
      exact ⟨rfl, I3, rfl, h2, h3, h4, h5, h6⟩
    by_cases hh : tx_hold w cl = true
    · have c7 : x7 = 1 := by rw [e7]; exact tx_hold_ev.mpr hh
      refine ss_iT c7 ?_
      refine ss_pt rfl rfl ?_
      refine ss_rc rfl ?_
      refine zp_wp_call (pr_eval92 zr_pp98 (by decide) (pr I2 F2) hi hok w (what := 2) (Or.inl ⟨rfl, rfl⟩) (wd _ hok.1 I2 E2)) ?_
      rintro x10 τ ⟨e10, I3, rfl, f3⟩
      have F3 : zf zk_oc I I3 := zf_trans F2 (zf_mono f3 (fun a k e => by simp only [beq_iff_eq] at e; simp [zk_oc, e]))
      have E3 : ∀ k, I3 93 k = I1 93 k := fun k => (f3 93 k rfl).trans (E2 k)
      refine ss_pt rfl rfl ?_
      refine ss_rc rfl ?_
      refine zp_wp_call (pr_eval92 zr_pp98 (by decide) (pr I3 F3) hi hok w (what := 3) (Or.inr (Or.inl ⟨rfl, rfl⟩)) (wd _ hok.2.1 I3 E3)) ?_
      rintro x12 τ ⟨e12, I4, rfl, f4⟩
      have F4 : zf zk_oc I I4 := zf_trans F3 (zf_mono f4 (fun a k e => by simp only [beq_iff_eq] at e; simp [zk_oc, e]))
      have row4 : ∀ a, a ≠ 93 → a ≠ 94 → I4 a = I' a := fun a q1 q2 => (zf_row f4 (fun k => by simp [q2])).trans ((zf_row f3 (fun k => by simp [q2])).trans (row2 a q1 q2))
      have cl4 : zr_cl t I4 D s'.1 := zr_cl_fr2 (fun a ha => row4 a (by omega) (by omega)) g4
      have lg4 : cx_lg 20 I4 s'.2.1 := cx_lg_fr (fun k _ => by rw [row4 20 (by decide) (by decide)]) (fun a q1 q2 => row4 a (by omega) (by omega)) g5
      have a6 : I4 1 6 = s'.2.2.1 := by rw [row4 1 (by decide) (by decide)]; exact g6
      have a7 : I4 1 7 = s'.2.2.2 := by rw [row4 1 (by decide) (by decide)]; exact g7
      rw [← hw] at hh e10 e12 nb
      cases hA : tx_dn (ow s'.1 s'.2.2.1 s'.2.2.2) cl.2.2.1 with
      | none =>
        rw [hA] at e10
        have o1 := od_one_brk hh (Or.inl hA)
        refine ss_iT e10 ?_
        refine ss_ret (Or.inr (last I4 ?_ F4 ?_ ?_ ?_ ?_)) <;> rw [o1] <;> assumption
      | some a =>
        rw [hA] at e10
        have ha : ¬ x10 = -2000000000 := by rw [e10]; exact tx_dn_nb nb hok.1.1 hA
        cases hB : tx_dn (ow s'.1 s'.2.2.1 s'.2.2.2) cl.2.2.2.1 with
        | none =>
          rw [hB] at e12
          have o1 := od_one_brk hh (Or.inr hB)
          refine ss_iF ha (ss_iT e12 ?_)
          refine ss_ret (Or.inr (last I4 ?_ F4 ?_ ?_ ?_ ?_)) <;> rw [o1] <;> assumption
        | some b =>
          rw [hB] at e12
          have hb : ¬ x12 = -2000000000 := by rw [e12]; exact tx_dn_nb nb hok.2.1.1 hB
          have o1 := od_one_do hh hA hB
          refine ss_iF ha (ss_iF hb ?_)
          have e10' : x10 = a := e10
          have e12' : x12 = b := e12
          subst e10'
          subst e12'
          refine DX_od hk4 x10 x12 cl4 lg4 (fun r I5 hr f5 c5 l5 => ?_)
          rw [← hk] at hr c5 l5
          have F5 : zf zk_oc I I5 := zf_trans F4 (zf_mono f5 zk_dk_oc)
          have b6 : I5 1 6 = s'.2.2.1 := by rw [f5 1 6 rfl]; exact a6
          have b7 : I5 1 7 = s'.2.2.2 := by rw [f5 1 7 rfl]; exact a7
          by_cases hr0 : 0 ≤ r
          · refine ss_iT hr0 ?_
            have hr1 : 0 ≤ (od_do cl.1 x10 x12 s'.1 s'.2.1).1 := by rw [← hr]; exact hr0
            have key : ∀ v, v = (od_one cl s').2.2.2.2 → zp_wp (sf_bnd (sf_pI 1 7 (some 1) v) fun _ => sf_bnd (sf_gI 1 6 (some 1)) fun x25 => sf_bnd (sf_pI 1 6 (some 1) (x25 + (1 : Int32))) fun _ => sf_bnd (sf_ret (Int32.ofNat j + (1 : Int32))) fun y26 => sf_ret (.inl y26 : Int32 ⊕ (Int32 ⊕ Unit))) (fun r τ => (∃ s2 : od_S, ∃ I4, r = .inl (Int32.ofNat (j + 1)) ∧ τ = zp_Z t I4 J D ∧ od_rep cl n s = od_rep cl (n - (j + 1)) s2 ∧ od_ok K0 (m + (j + 1)) s2 ∧ zf zk_oc I I4 ∧ zr_cl t I4 D s2.1 ∧ cx_lg 20 I4 s2.2.1 ∧ I4 1 6 = s2.2.2.1 ∧ I4 1 7 = s2.2.2.2) ∨ (∃ g, r = .inr g ∧ zp_wp (sf_cs (fun _ => sf_ret (1 : Int32)) g) (fun r τ => r = zb (od_rep cl n s).1 ∧ ∃ I', τ = zp_Z t I' J D ∧ zf zk_oc I I' ∧ zr_cl t I' D (od_rep cl n s).2.1 ∧ cx_lg 20 I' (od_rep cl n s).2.2.1 ∧ I' 1 6 = (od_rep cl n s).2.2.2.1 ∧ I' 1 7 = (od_rep cl n s).2.2.2.2) τ)) (zp_Z t I5 J D) := by
              intro v hv
              refine ss_pI rfl ?_
              refine ss_gI rfl (show _ = s'.2.2.1 by rw [zu_k (by decide)]; exact b6) ?_
              refine ss_pI rfl ?_
              refine ss_bret ?_
              refine ss_ret (Or.inl (next _ ?_ (zf_u2 (zf_u2 F5 rfl) rfl) ?_ ?_ ?_ ?_))
              · rw [o1]; exact decide_eq_true hr1
              · rw [o1]; exact zr_cl_fr2 (fun a ha => by rw [zu_r (by omega), zu_r (by omega)]) c5
              · rw [o1]; exact cx_lg_fr (fun k _ => by rw [zu_a (by decide), zu_a (by decide)]) (fun a q1 q2 => by rw [zu_r (by omega), zu_r (by omega)]) l5
              · rw [o1, zu_eq]; exact (if_pos hr1).symm
              · rw [zu_k (by decide), zu_eq]; exact hv
            by_cases hk2 : Int32.ofNat k = 2
            · refine ss_biT hk2 (ss_bret (key _ ?_))
              rw [o1]; show r = if _ then _ else _
              rw [if_pos ⟨by rw [hk]; exact hk2, hr1⟩]; exact hr
            · refine ss_biF hk2 ?_
              refine ss_as ?_
              refine ss_gI rfl b7 (ss_bret (key _ ?_))
              rw [o1]; show s'.2.2.2 = if _ then _ else _
              rw [if_neg (fun e => hk2 (by rw [← hk]; exact e.1))]
          · refine ss_iF hr0 ?_
            have hr1 : ¬ 0 ≤ (od_do cl.1 x10 x12 s'.1 s'.2.1).1 := by rw [← hr]; exact hr0
            refine ss_ret (Or.inr (last I5 ?_ F5 ?_ ?_ ?_ ?_))
            · rw [o1]; exact decide_eq_false hr1
            · rw [o1]; exact c5
            · rw [o1]; exact l5
            · rw [o1]; show I5 1 6 = if _ then _ else _
              rw [if_neg hr1]; exact b6
            · rw [o1]; show I5 1 7 = if _ then _ else _
              rw [if_neg (fun e => hr1 e.2)]; exact b7
    · have c7 : ¬ x7 = 1 := by rw [e7]; exact fun e => hh (tx_hold_ev.mp e)
      rw [← hw] at hh
      have o1 := od_one_no hh
      refine ss_iF c7 ?_
      refine ss_bret ?_
      refine ss_ret (Or.inl (next I2 ?_ F2 ?_ ?_ ?_ ?_))
      · rw [o1]
      · rw [o1]; exact cl2
      · rw [o1]; exact lg2
      · rw [o1, row2 1 (by decide) (by decide)]; exact g6
      · rw [o1, row2 1 (by decide) (by decide)]; exact g7
end
