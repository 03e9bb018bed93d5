/-! thereAndBack: the class. -/
/-- both lots of SINGLES between two stations -/
noncomputable def sp_jo (K : Nat → Int32) (x y : Int32) (u v : Nat) : Option Nat := match sp_on K x 7 (Int32.ofNat u) (Int32.ofNat v), sp_on K y 7 (Int32.ofNat v) (Int32.ofNat u) with
  | some a, some b => some (a + b)
  | _, _ => none
def sp_rt (K : Nat → Int32) (x y : Int32) (u v : Nat) : Option Nat := if ((sp_has K x && sp_goes K (sf_ix x) u v) && (sp_has K y && sp_goes K (sf_ix y) v u) && !sp_bars K 1 (Int32.ofNat u) (Int32.ofNat v) (K (207 + sf_ix x)) && !sp_bars K 1 (Int32.ofNat u) (Int32.ofNat v) (K (207 + sf_ix y))) = true then some (sf_ix (sp_cost K (K 230) 1 (Int32.ofNat u) (Int32.ofNat v))) else none
def jn_min (a b : Option Nat) : Option Nat := match a, b with
  | none, b => b
  | some a, none => some a
  | some a, some b => some (if b < a then b else a)
noncomputable def sp_J (K : Nat → Int32) (x y : Int32) (u v : Nat) : Option Nat := if u < 8 ∧ v < 8 then jn_min (sp_jo K x y u v) (sp_rt K x y u v) else none
noncomputable def sp_tab (K : Nat → Int32) (x y p q : Int32) : Int32 := if zs_leg p q = true then en (sp_min (wy (sp_J K x y) (sf_ix q) 7 (sf_ix p))) else -1
def zk_x4 (a _k : Nat) : Bool := a == 12 || a == 13 || a == 15 || a == 17 || a == 18 || a == 19
set_option maxRecDepth 20000 in
theorem zk_sx4 (a k : Nat) (h : zk_x4 a k = true) : zk_sc a k = true := by
  simp only [zk_x4, Bool.or_eq_true, beq_iff_eq] at h
  simp [zk_sc]; omega
set_option maxRecDepth 20000 in
theorem jn_le {a b : Option Nat} {c : Nat} (h : jn_min a b = some c) : a = some c ∨ b = some c := by
  unfold jn_min at h
  cases a with
  | none => exact Or.inr h
  | some a =>
    cases b with
    | none => exact Or.inl h
    | some b =>
      simp only [Option.some.injEq] at h
      by_cases hb : b < a
      · rw [if_pos hb] at h; exact Or.inr (by rw [h])
      · rw [if_neg hb] at h; exact Or.inl (by rw [h])
set_option maxRecDepth 20000 in
theorem sp_on9 {K : Nat → Int32} {x : Int32} {u v c : Nat} (h : sp_on K x 7 (Int32.ofNat u) (Int32.ofNat v) = some c) (hu : u < 8) (hv : v < 8) : c ≤ 69993 ∧ sp_has K x = true ∧ u ≠ v ∧ wy (sp_lg K (sf_ix x)) v 7 u c := by
  unfold sp_on at h
  split at h
  · next hh =>
    rw [Bool.and_eq_true] at hh
    rw [zi_ixn (by omega), zi_ixn (by omega)] at h
    have hne : u ≠ v := by
      have := hh.2
      rw [zs_legN hu hv, decide_eq_true_eq] at this; exact this
    unfold sp_by at h
    rw [if_neg hne] at h
    have hw := (sp_min_min (wy (sp_lg K (sf_ix x)) v 7 u)).2 c h
    refine ⟨?_, hh.1, hne, hw⟩
    exact wy_le (M := 9999) (fun s n a hx => (sp_lg_s hx).1) 7 u c hw
  · cases h
set_option maxRecDepth 20000 in
theorem sp_rt_s {K : Nat → Int32} {x y : Int32} {u v c : Nat} (hu : u < 8) (hv : v < 8) (h : sp_rt K x y u v = some c) : c ≤ 9999 ∧ sp_has K x = true ∧ sp_has K y = true ∧ sp_goes K (sf_ix x) u v = true ∧ sp_goes K (sf_ix y) v u = true ∧ sp_bars K 1 (Int32.ofNat u) (Int32.ofNat v) (K (207 + sf_ix x)) = false ∧ sp_bars K 1 (Int32.ofNat u) (Int32.ofNat v) (K (207 + sf_ix y)) = false ∧ sp_cost K (K 230) 1 (Int32.ofNat u) (Int32.ofNat v) = Int32.ofNat c := by
  unfold sp_rt at h
  split at h
  · next hh =>
    simp only [Bool.and_eq_true, Bool.not_eq_true'] at hh
    obtain ⟨⟨⟨⟨h1, h2⟩, h3, h4⟩, h5⟩, h6⟩ := hh
    cases h
    obtain ⟨c, hc, e⟩ := sp_cost_rng K (K 230) (s := 1) (by omega) hu hv
    have e' : sp_cost K (K 230) 1 (Int32.ofNat u) (Int32.ofNat v) = Int32.ofNat c := e
    rw [e', zi_ixn (by omega)]
    exact ⟨hc, h1, h3, h2, h4, h5, h6, rfl⟩
  · cases h
set_option maxRecDepth 20000 in
theorem sp_J_le {K : Nat → Int32} {x y : Int32} : ∀ s n a, sp_J K x y s n = some a → a ≤ 150000 := by
  intro s n a h
  unfold sp_J at h
  split at h
  · next hh =>
    rcases jn_le h with h | h
    · unfold sp_jo at h
      split at h
      · next a1 b1 h1 h2 =>
        cases h
        have := (sp_on9 h1 hh.1 hh.2).1
        have := (sp_on9 h2 hh.2 hh.1).1
        omega
      · cases h
    · have := (sp_rt_s hh.1 hh.2 h).1; omega
  · cases h
section
variable {t : List (Nat × Nat)} {I : Nat → Nat → Int32} {J : Nat → Nat → Int64} {D : Nat → Nat → Option Nat} {K : Nat → Int32}
set_option maxRecDepth 20000 in
theorem cx_x4 {I' : Nat → Nat → Int32} (hC : zr_cl t I D K) (hf : zf zk_x4 I I') : zr_cl t I' D K := zr_cl_fr2 (fun a ha => zf_row hf (fun k => by simp [zk_x4]; omega)) hC
set_option maxRecDepth 20000 in
/-- least over the legs of one train, for any two stations -/
theorem cx_leastS {x : Int32} (hL : zr_lg I (sp_lx K x)) {u v : Nat} (hu : u < 8) (hv : v < 8) : zp_wp (jx_Ways_least (some 14) (Int32.ofNat u) (Int32.ofNat v) (7 : Int32)) (fun r τ => r = en (sp_on K x 7 (Int32.ofNat u) (Int32.ofNat v)) ∧ ∃ I', τ = zp_Z t I' J D ∧ zf zk_bs I I') (zp_Z t I J D) := by
  cases hl : zs_leg (Int32.ofNat u) (Int32.ofNat v) with
  | false =>
    refine ⟨_, _, cx_least_no hl _, ?_, I, rfl, zf_refl _ _⟩
    unfold sp_on; rw [hl, Bool.and_false]; rfl
  | true =>
    have hne : u ≠ v := by rw [zs_legN hu hv, decide_eq_true_eq] at hl; exact hl
    refine zp_wp_mono (cx_least hL sp_lx_le hu hv hl (m := 7) (by omega)) ?_
    rintro r τ ⟨I', B, rfl, rfl, f1, r1, r2⟩
    refine ⟨?_, I', rfl, f1⟩
    rw [sp_lx_min hne (r2 u hu)]
    unfold sp_on
    rw [hl, Bool.and_true, zi_ixn (by omega), zi_ixn (by omega)]
set_option maxRecDepth 20000 in
theorem cx_returnOn (hC : zr_cl t I D K) (x y : Int32) {u v : Nat} (hu : u < 8) (hv : v < 8) : zp_wp (jx_Ways_returnOn (some 14) (some 2) x y (Int32.ofNat u) (Int32.ofNat v)) (fun r τ => r = en (sp_rt K x y u v) ∧ ∃ I', τ = zp_Z t I' J D ∧ zf zk_x1 I I') (zp_Z t I J D) := by
  have g1 := cx_goes (J := J) hC x hu hv
  have g2 := cx_goes (J := J) hC y hv hu
  unfold jx_Ways_returnOn
  refine ss_rc rfl ?_
  refine ss_call g1 ?_
  refine ss_bor ?_
  cases c1 : (sp_has K x && sp_goes K (sf_ix x) u v) with
  | false =>
    have e : sp_rt K x y u v = none := by unfold sp_rt; rw [c1]; rfl
    refine ss_biT rfl (ss_bret (ss_bcr (ss_bret (ss_iT rfl (ss_ret ⟨by rw [e]; rfl, I, rfl, zf_refl _ _⟩)))))
  | true =>
    refine ss_biF (by decide) ?_
    refine ss_as ?_
    refine ss_rc rfl ?_
    refine ss_call g2 ?_
    cases c2 : (sp_has K y && sp_goes K (sf_ix y) v u) with
    | false =>
      have e : sp_rt K x y u v = none := by unfold sp_rt; rw [c2, Bool.and_false]; rfl
      refine ss_biT rfl (ss_bret (ss_bcr (ss_bret (ss_iT rfl (ss_ret ⟨by rw [e]; rfl, I, rfl, zf_refl _ _⟩)))))
    | true =>
      rw [Bool.and_eq_true] at c1 c2
      obtain ⟨n, hn6, rfl, hn⟩ := sp_has_T hC.2.1 c1.1
      obtain ⟨m, hm6, rfl, hm⟩ := sp_has_T hC.2.1 c2.1
      refine ss_biF (by decide) (ss_bret (ss_bcl (ss_iF (by decide) ?_)))
      refine ss_rc rfl ?_
      refine zp_wp_call (cx_bars (s := 1) hC hn hu hv (by omega)) ?_
      rintro b τ ⟨rfl, I1, rfl, f1⟩
      have hC1 : zr_cl t I1 D K := zr_cl_fr (zk_x1_cl f1) hC
      cases b1 : sp_bars K (Int32.ofNat 1) (Int32.ofNat u) (Int32.ofNat v) (K (207 + n)) with
      | true =>
        have e : sp_rt K (Int32.ofNat n) (Int32.ofNat m) u v = none := by
          unfold sp_rt
          rw [zi_ixn (by omega), show sp_bars K 1 (Int32.ofNat u) (Int32.ofNat v) (K (207 + n)) = true from b1]
          simp
        exact ss_iF (by decide) (ss_ret ⟨by rw [e]; rfl, I1, rfl, f1⟩)
      | false =>
        refine ss_iT rfl ?_
        refine ss_rc rfl ?_
        refine zp_wp_call (cx_bars (s := 1) hC1 hm hu hv (by omega)) ?_
        rintro b τ ⟨rfl, I2, rfl, f2⟩
        have hC2 : zr_cl t I2 D K := zr_cl_fr (zk_x1_cl f2) hC1
        cases b2 : sp_bars K (Int32.ofNat 1) (Int32.ofNat u) (Int32.ofNat v) (K (207 + m)) with
        | true =>
          have e : sp_rt K (Int32.ofNat n) (Int32.ofNat m) u v = none := by
            unfold sp_rt
            rw [zi_ixn (show m < 2147483648 by omega), show sp_bars K 1 (Int32.ofNat u) (Int32.ofNat v) (K (207 + m)) = true from b2]
            simp
          exact ss_iF (by decide) (ss_ret ⟨by rw [e]; rfl, I2, rfl, zf_trans f1 f2⟩)
        | false =>
          refine ss_iT rfl ?_
          refine ss_rc rfl ?_
          refine zp_wp_call (cx_costOf (s := 1) hC2 hu hv (by omega)) ?_
          rintro c τ ⟨rfl, I3, rfl, f3⟩
          refine ss_ret ⟨?_, I3, rfl, zf_trans f1 (zf_trans f2 f3)⟩
          have e : sp_rt K (Int32.ofNat n) (Int32.ofNat m) u v = some (sf_ix (sp_cost K (K 230) 1 (Int32.ofNat u) (Int32.ofNat v))) := by
            unfold sp_rt
            rw [zi_ixn (show n < 2147483648 by omega), zi_ixn (show m < 2147483648 by omega)]
            rw [zi_ixn (show n < 2147483648 by omega)] at c1
            rw [zi_ixn (show m < 2147483648 by omega)] at c2
            rw [c1.1, c1.2, c2.1, c2.2, show sp_bars K 1 (Int32.ofNat u) (Int32.ofNat v) (K (207 + n)) = false from b1, show sp_bars K 1 (Int32.ofNat u) (Int32.ofNat v) (K (207 + m)) = false from b2]
            rfl
          rw [e]
          obtain ⟨c, hc, ec⟩ := sp_cost_rng K (K 230) (s := 1) (by omega) hu hv
          have ec' : sp_cost K (K 230) 1 (Int32.ofNat u) (Int32.ofNat v) = Int32.ofNat c := ec
          show sp_cost K (K 230) 1 _ _ = Int32.ofNat _
          rw [ec', zi_ixn (by omega)]
set_option maxRecDepth 20000 in
theorem cx_fillTB (hC : zr_cl t I D K) (x y : Int32) : zp_wp (jx_Ways_fillThereAndBack (some 14) (some 2) x y) (fun _ τ => ∃ I', τ = zp_Z t I' J D ∧ zf zk_x4 I I' ∧ zr_lg I' (sp_J K x y)) (zp_Z t I J D) := by
  have m_fs : ∀ a k, zk_fs a k = true → zk_x4 a k = true := fun a k e => by simp only [zk_fs, Bool.or_eq_true, beq_iff_eq] at e; simp [zk_x4]; omega
  have m_bs : ∀ a k, zk_bs a k = true → zk_x4 a k = true := fun a k e => by simp only [zk_bs, Bool.or_eq_true, beq_iff_eq] at e; simp [zk_x4]; omega
  have m_x1 : ∀ a k, zk_x1 a k = true → zk_x4 a k = true := fun a k e => by simp only [zk_x1, Bool.or_eq_true, beq_iff_eq] at e; simp [zk_x4]; omega
  unfold jx_Ways_fillThereAndBack
  refine ss_rc rfl ?_
  refine zp_wp_call (cx_fillS hC x) ?_
  rintro _ τ ⟨I1, rfl, f1, r1⟩
  have F1 := zf_mono f1 m_fs
  have l1 := sp_lx_row hC.2.1 r1
  refine zl_g (fun i (_ : Unit) => Int32.ofNat i) 0 64 (s0 := ()) rfl (by omega) (by omega) (fun i _ I' => zf (fun a k => zk_bs a k || a == 17) I1 I' ∧ ∀ k, k < i → I' 17 k = en (sp_on K x 7 (Int32.ofNat (k / 8)) (Int32.ofNat (k % 8)))) ⟨zf_refl _ _, fun k hk => absurd hk (by omega)⟩ ?step ?fin
  case step =>
    rintro i s I' - hi ⟨g1, g2⟩
    have n1 : ¬ (64 : Int32) ≤ Int32.ofNat i := zi_nle (a := 64) hi (by omega)
    obtain ⟨d1, d2⟩ := i_div8 i hi
    have l2 : zr_lg I' (sp_lx K x) := fun p hp q hq => by rw [g1 15 _ rfl]; exact l1 p hp q hq
    refine ss_iF n1 ?_
    refine ss_pt rfl rfl ?_
    refine ss_rc rfl ?_
    rw [d2, d1]
    refine zp_wp_call (cx_leastS l2 (u := i / 8) (v := i % 8) (by omega) (by omega)) ?_
    rintro r τ ⟨rfl, I2, rfl, f2⟩
    refine ss_sI rfl rfl hi (by decide) ?_
    refine ss_bret ?_
    refine ss_ret (Or.inl ⟨(), _, by rw [zi_s], rfl, zf_u2 (zf_trans g1 (zf_mono f2 (fun a k e => by rw [e]; rfl))) rfl, fun k hk => ?_⟩)
    by_cases e : k = i
    · subst e; exact zu_eq
    · rw [zu_k e, f2 17 k rfl]; exact g2 k (by omega)
  case fin =>
    rintro s I2 ⟨g1, g2⟩
    have n1 : (64 : Int32) ≤ Int32.ofNat 64 := by decide
    have F2 : zf zk_x4 I I2 := zf_trans F1 (zf_mono g1 (fun a k e => by
      simp only [zk_bs, Bool.or_eq_true, beq_iff_eq] at e
      simp [zk_x4]; omega))
    refine ss_iT n1 ?_
    refine ss_ret ⟨_, rfl, ?_⟩
    refine ss_rc rfl ?_
    refine zp_wp_call (cx_fillS (cx_x4 hC F2) y) ?_
    rintro _ τ ⟨I3, rfl, f3, r3⟩
    have F3 := zf_trans F2 (zf_mono f3 m_fs)
    have l3 := sp_lx_row hC.2.1 r3
    refine zl_g (fun i (_ : Unit) => Int32.ofNat i) 0 64 (s0 := ()) rfl (by omega) (by omega) (fun i _ I' => zf (fun a k => zk_bs a k || a == 17) I3 I' ∧ (∀ k, k < i → I' 17 k = en (sp_jo K x y (k / 8) (k % 8))) ∧ ∀ k, i ≤ k → k < 64 → I' 17 k = en (sp_on K x 7 (Int32.ofNat (k / 8)) (Int32.ofNat (k % 8)))) ⟨zf_refl _ _, fun k hk => absurd hk (by omega), fun k _ hk => by rw [f3 17 k rfl]; exact g2 k hk⟩ ?step2 ?fin2
    case step2 =>
      rintro i s I' - hi ⟨h1, h2, h3⟩
      refine zp_wp_mono ?_ (fun r τ h => Or.inl h)
      have n1 : ¬ (64 : Int32) ≤ Int32.ofNat i := zi_nle (a := 64) hi (by omega)
      obtain ⟨d1, d2⟩ := i_div8 i hi
      have l4 : zr_lg I' (sp_lx K y) := fun p hp q hq => by rw [h1 15 _ rfl]; exact l3 p hp q hq
      refine ss_iF n1 ?_
      refine ss_rc rfl ?_
      rw [d2, d1]
      refine zp_wp_call (cx_leastS l4 (u := i % 8) (v := i / 8) (by omega) (by omega)) ?_
      rintro r τ ⟨rfl, I4, rfl, f4⟩
      have a17 : I4 17 i = en (sp_on K x 7 (Int32.ofNat (i / 8)) (Int32.ofNat (i % 8))) := by rw [f4 17 i rfl]; exact h3 i (by omega) hi
      have key : ∀ v, v = en (sp_jo K x y (i / 8) (i % 8)) → zp_wp (sf_bnd (sf_sI 0 (some 17) (Int32.ofNat i) v) fun _ => sf_bnd (sf_ret (Int32.ofNat i + (1 : Int32))) fun y21 => sf_ret (.inl y21 : Int32 ⊕ Unit)) (fun r τ => ∃ s' : Unit, ∃ I5, r = .inl (Int32.ofNat (i + 1)) ∧ τ = zp_Z t I5 J D ∧ zf (fun a k => zk_bs a k || a == 17) I3 I5 ∧ (∀ k, k < i + 1 → I5 17 k = en (sp_jo K x y (k / 8) (k % 8))) ∧ ∀ k, i + 1 ≤ k → k < 64 → I5 17 k = en (sp_on K x 7 (Int32.ofNat (k / 8)) (Int32.ofNat (k % 8)))) (zp_Z t I4 J D) := by
        intro v hv
        refine ss_sI rfl rfl hi (by decide) ?_
        refine ss_bret ?_
        refine ss_ret ⟨(), _, by rw [zi_s], rfl, zf_u2 (zf_trans h1 (zf_mono f4 (fun a k e => by rw [e]; rfl))) rfl, fun k hk => ?_, fun k hk1 hk2 => ?_⟩
        · by_cases e : k = i
          · subst e; rw [zu_eq]; exact hv
          · rw [zu_k e, f4 17 k rfl]; exact h2 k (by omega)
        · rw [zu_k (by omega), f4 17 k rfl]; exact h3 k (by omega) hk2
      refine ss_pt rfl rfl ?_
      refine ss_pt rfl rfl ?_
      refine ss_aI rfl rfl hi (by decide) a17 ?_
      refine ss_bor ?_
      cases hs : sp_on K x 7 (Int32.ofNat (i / 8)) (Int32.ofNat (i % 8)) with
      | none =>
        refine ss_biT (by decide) (ss_bret (ss_bcr (ss_bret (key _ ?_))))
        unfold sp_jo; rw [hs]; rfl
      | some a =>
        rw [hs] at a17
        have ha := (sp_on9 hs (by omega) (by omega)).1
        refine ss_biF (zi_nlt (b := 0) (a := a) (by omega) (by omega)) ?_
        cases hs2 : sp_on K y 7 (Int32.ofNat (i % 8)) (Int32.ofNat (i / 8)) with
        | none =>
          refine ss_biF (by decide) (ss_bret (ss_bcr (ss_bret (key _ ?_))))
          unfold sp_jo; rw [hs, hs2]; rfl
        | some b =>
          have hb := (sp_on9 hs2 (by omega) (by omega)).1
          refine ss_biT (zi_leL (a := 0) (b := b) (by omega) (by omega)) ?_
          refine ss_as ?_
          refine ss_pt rfl rfl ?_
          refine ss_as ?_
          refine ss_aI rfl rfl hi (by decide) a17 ?_
          refine ss_bret (ss_bcl (key _ ?_))
          unfold sp_jo; rw [hs, hs2]; exact zi_add a b
    case fin2 =>
      rintro s I4 ⟨h1, h2, -⟩
      have n1 : (64 : Int32) ≤ Int32.ofNat 64 := by decide
      have F4 : zf zk_x4 I I4 := zf_trans F3 (zf_mono h1 (fun a k e => by
        simp only [zk_bs, Bool.or_eq_true, beq_iff_eq] at e
        simp [zk_x4]; omega))
      refine ss_iT n1 ?_
      refine ss_ret ⟨_, rfl, ?_⟩
      refine zl_g (fun i (_ : Unit) => Int32.ofNat i) 0 64 (s0 := ()) rfl (by omega) (by omega) (fun i _ I' => zf (fun a k => zk_x1 a k || a == 15) I4 I' ∧ ∀ k, k < i → I' 15 k = en (sp_J K x y (k / 8) (k % 8))) ⟨zf_refl _ _, fun k hk => absurd hk (by omega)⟩ ?step3 ?fin3
      case step3 =>
        rintro i s I' - hi ⟨k1, k2⟩
        refine zp_wp_mono ?_ (fun r τ h => Or.inl h)
        have n1 : ¬ (64 : Int32) ≤ Int32.ofNat i := zi_nle (a := 64) hi (by omega)
        obtain ⟨d1, d2⟩ := i_div8 i hi
        have F5 : zf zk_x4 I I' := zf_trans F4 (zf_mono k1 (fun a k e => by
          simp only [zk_x1, Bool.or_eq_true, beq_iff_eq] at e
          simp [zk_x4]; omega))
        refine ss_iF n1 ?_
        refine ss_rc rfl ?_
        rw [d2, d1]
        refine zp_wp_call (cx_returnOn (cx_x4 hC F5) x y (u := i / 8) (v := i % 8) (by omega) (by omega)) ?_
        rintro r τ ⟨rfl, I6, rfl, f6⟩
        have a17 : I6 17 i = en (sp_jo K x y (i / 8) (i % 8)) := by rw [f6 17 i rfl, k1 17 i rfl]; exact h2 i hi
        have hJ : sp_J K x y (i / 8) (i % 8) = jn_min (sp_jo K x y (i / 8) (i % 8)) (sp_rt K x y (i / 8) (i % 8)) := by unfold sp_J; rw [if_pos ⟨by omega, by omega⟩]
        have key : ∀ v, v = en (sp_J K x y (i / 8) (i % 8)) → zp_wp (sf_bnd (sf_sI 0 (some 15) (Int32.ofNat i) v) fun _ => sf_bnd (sf_ret (Int32.ofNat i + (1 : Int32))) fun y40 => sf_ret (.inl y40 : Int32 ⊕ Unit)) (fun r τ => ∃ s' : Unit, ∃ I5, r = .inl (Int32.ofNat (i + 1)) ∧ τ = zp_Z t I5 J D ∧ zf (fun a k => zk_x1 a k || a == 15) I4 I5 ∧ ∀ k, k < i + 1 → I5 15 k = en (sp_J K x y (k / 8) (k % 8))) (zp_Z t I6 J D) := by
          intro v hv
          refine ss_sI rfl rfl hi (by decide) ?_
          refine ss_bret ?_
          refine ss_ret ⟨(), _, by rw [zi_s], rfl, zf_u2 (zf_trans k1 (zf_mono f6 (fun a k e => by rw [e]; rfl))) rfl, fun k hk => ?_⟩
          by_cases e : k = i
          · subst e; rw [zu_eq]; exact hv
          · rw [zu_k e, f6 15 k rfl]; exact k2 k (by omega)
        -- the joint cost stays
        have keep : ∀ (_ : sp_J K x y (i / 8) (i % 8) = sp_jo K x y (i / 8) (i % 8)), zp_wp (sf_bnd (sf_gR 10 0 (some 14)) fun x35 => sf_bnd (α := (Int32)) (if (0 : Int32) = 0 then (sf_bnd (sf_gR 10 2 (some 14)) fun x37 => sf_bnd (sf_aI 0 x37 (Int32.ofNat i)) fun x38 => sf_ret x38) else (sf_ret (en (sp_rt K x y (i / 8) (i % 8))))) (fun v39 => sf_bnd (sf_sI 0 x35 (Int32.ofNat i) v39) fun _ => sf_bnd (sf_ret (Int32.ofNat i + (1 : Int32))) fun y40 => sf_ret (.inl y40 : Int32 ⊕ Unit))) (fun r τ => ∃ s' : Unit, ∃ I5, r = .inl (Int32.ofNat (i + 1)) ∧ τ = zp_Z t I5 J D ∧ zf (fun a k => zk_x1 a k || a == 15) I4 I5 ∧ ∀ k, k < i + 1 → I5 15 k = en (sp_J K x y (k / 8) (k % 8))) (zp_Z t I6 J D) := fun e => by
          refine ss_pt rfl rfl ?_
          refine ss_biT rfl ?_
          refine ss_as ?_
          refine ss_pt rfl rfl ?_
          refine ss_as ?_
          refine ss_aI rfl rfl hi (by decide) a17 ?_
          exact ss_bret (key _ (by rw [e]))
        refine ss_bor ?_
        cases hr : sp_rt K x y (i / 8) (i % 8) with
        | none =>
          rw [hr] at keep
          refine ss_biT (by decide) (ss_bret (ss_bcr (ss_bret (keep ?_))))
          rw [hJ, hr]
          cases sp_jo K x y (i / 8) (i % 8) <;> rfl
        | some c =>
          rw [hr] at keep
          have hc := (sp_rt_s (by omega) (by omega) hr).1
          refine ss_biF (zi_nlt (b := 0) (a := c) (by omega) (by omega)) ?_
          refine ss_as ?_
          refine ss_pt rfl rfl ?_
          refine ss_as ?_
          refine ss_aI rfl rfl hi (by decide) a17 ?_
          cases hj : sp_jo K x y (i / 8) (i % 8) with
          | none =>
            refine ss_biT (by decide) (ss_bret (ss_bcl ?_))
            refine ss_pt rfl rfl ?_
            refine ss_biF (by decide) (ss_bret (key _ ?_))
            rw [hJ, hj, hr]; rfl
          | some a =>
            rw [hj] at a17 keep
            have ha : a ≤ 150000 := by
              unfold sp_jo at hj
              split at hj
              · next a1 b1 h1 h2 =>
                cases hj
                have := (sp_on9 h1 (by omega) (by omega)).1
                have := (sp_on9 h2 (by omega) (by omega)).1
                omega
              · cases hj
            refine ss_biF (zi_nlt (b := 0) (a := a) (by omega) (by omega)) ?_
            refine ss_as ?_
            refine ss_pt rfl rfl ?_
            refine ss_as ?_
            refine ss_aI rfl rfl hi (by decide) a17 ?_
            by_cases hlt : c < a
            · refine ss_biF (show ¬ en (some a) ≤ en (some c) from zi_nle hlt (by omega)) (ss_bret (ss_bcl ?_))
              refine ss_pt rfl rfl ?_
              refine ss_biF (by decide) (ss_bret (key _ ?_))
              rw [hJ, hj, hr]
              show en (some c) = en (some (if c < a then c else a))
              rw [if_pos hlt]
            · refine ss_biT (show en (some a) ≤ en (some c) from zi_leL (by omega) (by omega)) (ss_bret (ss_bcr (ss_bret (keep ?_))))
              rw [hJ, hj, hr]
              show some (if c < a then c else a) = some a
              rw [if_neg hlt]
      case fin3 =>
        rintro s I7 ⟨k1, k2⟩
        have n1 : (64 : Int32) ≤ Int32.ofNat 64 := by decide
        refine ss_iT n1 ?_
        refine ss_ret ⟨_, rfl, ?_⟩
        refine ss_ret ⟨I7, rfl, zf_trans F4 (zf_mono k1 (fun a k e => by
          simp only [zk_x1, Bool.or_eq_true, beq_iff_eq] at e
          simp [zk_x4]; omega)), fun p hp q hq => ?_⟩
        rw [k2 (8 * p + q) (by omega), show (8 * p + q) / 8 = p by omega, show (8 * p + q) % 8 = q by omega]
set_option maxRecDepth 20000 in
theorem cx_tab (hC : zr_cl t I D K) (x y p q : Int32) : zp_wp (jx_SF_thereAndBack (some 0) x y p q) (fun r τ => ∃ I', τ = zp_Z t I' J D ∧ zf zk_x4 I I' ∧ r = sp_tab K x y p q) (zp_Z t I J D) := by
  unfold jx_SF_thereAndBack
  cases hl : zs_leg p q with
  | false =>
    refine ss_pure (ze_isLegF hl) ?_
    refine ss_iT rfl (ss_ret ⟨I, rfl, zf_refl _ _, ?_⟩)
    unfold sp_tab; rw [if_neg (by rw [hl]; decide)]
  | true =>
    obtain ⟨a, b, ha, hb, rfl, rfl, hne⟩ := zs_leg_T hl
    refine ss_pure (ze_isLegT hl) ?_
    refine ss_iF (by decide) ?_
    refine ss_pt rfl rfl ?_
    refine ss_pt rfl rfl ?_
    refine ss_pt rfl rfl ?_
    refine ss_pt rfl rfl ?_
    refine ss_rc rfl ?_
    refine zp_wp_call (cx_fillTB hC x y) ?_
    rintro _ τ ⟨I1, rfl, f1, r1⟩
    refine ss_pt rfl rfl ?_
    refine ss_pt rfl rfl ?_
    refine ss_rc rfl ?_
    refine zp_wp_call (cx_least r1 sp_J_le ha hb hl (m := 7) (by omega)) ?_
    rintro r τ ⟨I2, B, rfl, rfl, f2, r2, r3⟩
    refine ss_ret ⟨I2, rfl, zf_trans f1 (zf_mono f2 (fun a k e => by simp only [zk_bs, Bool.or_eq_true, beq_iff_eq] at e; simp [zk_x4]; omega)), ?_⟩
    unfold sp_tab
    rw [if_pos hl, zi_ixn (by omega), zi_ixn (by omega), sp_min_eq (r3 a ha)]
end
