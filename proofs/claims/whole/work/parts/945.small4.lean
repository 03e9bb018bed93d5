set_option maxRecDepth 20000 in
/-- a deed whose answer is not its status -/
theorem CL.deedV {f g : sf_M Int32} (H : ∀ t I J D L, INV t I D → cx_lg 20 I L → mx_lg I L → lg_ok L → ∃ w r K' L', ar_ok r ∧ lg_ok L' ∧
      zp_wp f (fun v τ => v = w ∧ ∃ I', τ = zp_Z t I' J D ∧ zf zk_ex I I' ∧ zr_cl t I' D K' ∧ cx_lg 20 I' L' ∧ an_at 0 12 108 I I' r) (zp_Z t I J D) ∧
      ∀ I1, I1 114 = I 114 → mx_lg I1 L → tp_ok I1 → zp_wp g (fun v τ => v = w ∧ ∃ I', τ = zp_Z t I' J D ∧ zf zk_em I1 I' ∧ I' 114 = K' ∧ mx_lg I' L' ∧ an_at 112 0 113 I1 I' r) (zp_Z t I1 J D)) : CL f g := by
  intro t I J D h
  obtain ⟨L, l1, l2, l3⟩ := h.2.2.1
  obtain ⟨w, r, K', L', hr, hok, hx, hm⟩ := H t I J D L h l1 l2 l3
  refine zp_wp_mono hx ?_
  rintro v τ ⟨rfl, I1, rfl, f1, c1, k1, a1⟩
  have tp1 : tp_ok I1 := tp_fr (f1 95 1 rfl) (f1 112 13 rfl) (zf_row f1 (fun k => rfl)) (zf_row f1 (fun k => rfl)) h.2.2.2.1
  refine zp_wp_mono (hm I1 (zf_row f1 (fun k => rfl)) (mx_lg_fr (f1 112 40 rfl) (zf_row f1 (fun k => rfl)) l2) tp1) ?_
  rintro w τ ⟨rfl, I2, rfl, f2, e2, k2, a2⟩
  obtain ⟨g1, g2, g3, g4, g5, g6, g7⟩ := h.ms
  obtain ⟨n, n1, n2, n3⟩ := h.2.2.2.1.1
  exact CL.fin (INV_mk h (zf_mono f1 zk_ex_dx) c1 k1 a1 (zf_mono f2 zk_em_dm) e2 k2 a2 hok hr ⟨n, n1, by rw [f1 95 1 rfl]; exact n2, by rw [f2 112 13 rfl, f1 112 13 rfl]; exact n3⟩ (by rw [f1 0 9 rfl, f2 112 14 rfl, f1 112 14 rfl]; exact g3) (by rw [f1 0 10 rfl, f2 112 43 rfl, f1 112 43 rfl]; exact g4) (by rw [f1 0 11 rfl, f2 112 6 rfl, f1 112 6 rfl]; exact g5)) rfl
section
variable {t : List (Nat × Nat)} {I : Nat → Nat → Int32} {J : Nat → Nat → Int64} {D : Nat → Nat → Option Nat} {K : Nat → Int32} {L : lg_L}
set_option maxRecDepth 20000 in
/-- case 14 -/
theorem CL_force (f : Int32) : CL (jx_SF_force (some 0) f) (jx_Mo_force (some 112) f) := by
  refine CL.deedV (fun t I J D L h l1 l2 l3 => ⟨(sp_force (I 114) f).1, if sp_isLaw (I 114) f = true then 0 else -2, (sp_force (I 114) f).2, L, ?_, l3, ?_, ?_⟩)
  · split
    · exact Or.inl (by decide)
    · exact ar_neg 2 (by decide) (by decide)
  · have hv : zv (I 114) := h.1.2.1
    obtain ⟨r, hr, ha⟩ := cx_lawOf (J := J) h.1 f
    have hi := sp_isLaw_iff (f := f) hv
    have k26 : I 2 6 = I 114 230 := h.1.1.2.2.2.2.2.2.2.2.2.2.2.2.2.2
    have fin : sp_isLaw (I 114) f = true → (fun v τ => v = (sp_force (I 114) f).1 ∧ ∃ I', τ = zp_Z t I' J D ∧ zf zk_ex I I' ∧ zr_cl t I' D (sp_force (I 114) f).2 ∧ cx_lg 20 I' L ∧ an_at 0 12 108 I I' (if sp_isLaw (I 114) f = true then 0 else -2)) (I 114 230) (zp_Z t (sf_u2 (sf_u2 I 2 6 f) 0 12 0) J D) := by
      intro hl
      have e : sp_force (I 114) f = (I 114 230, kS (I 114) 230 f) := if_pos hl
      rw [e, if_pos hl]
      refine ⟨rfl, _, rfl, zf_u2 (zf_u2 (zf_refl _ _) rfl) rfl, ?_, cx_lg_fr (fun k hk => by rw [zu_a (by decide), zu_a (by decide)]) (fun a q1 q2 => by rw [zu_r (by omega), zu_r (by omega)]) l1, an_l (I := sf_u2 I 2 6 f) (fun k => (zu_a (by decide)).symm) (an_acc 0 12 108 (by decide) (by decide))⟩
      exact zr_cl_ku h.1 hl (by rw [zu_a (by decide), zu_eq]) (fun k hk => by rw [zu_a (by decide), zu_k hk]) (fun a q1 q2 q3 => by rw [zu_r q2, zu_r q1])
    unfold jx_SF_force
    by_cases c1 : f = -1
    · have hl : sp_isLaw (I 114) f = true := hi.mpr (Or.inl c1)
      refine ss_pt rfl rfl ?_
      refine ss_pt rfl rfl ?_
      refine ss_or ?_
      refine ss_biT c1 ?_
      refine ss_bret ?_
      refine ss_cr ?_
      refine ss_gI rfl k26 ?_
      refine ss_pI rfl ?_
      refine ss_rc rfl ?_
      refine ss_call (cx_accepted _) ?_
      exact ss_ret (fin hl)
    · refine ss_pt rfl rfl ?_
      refine ss_pt rfl rfl ?_
      refine ss_or ?_
      refine ss_biF c1 ?_
      refine ss_as ?_
      refine ss_rc rfl ?_
      refine ss_call hr ?_
      rcases ha with ⟨q, rfl⟩ | ⟨n, p, rfl, hn, hlt, rfl, -⟩
      · have hl : ¬ sp_isLaw (I 114) f = true := fun e => by
          rcases hi.mp e with e | e
          · exact c1 e
          · rcases q with q | q <;> (have := e.1; have := e.2; exfalso; (simp only [Int32.le_iff_toInt_le, Int32.lt_iff_toInt_lt, ← Int32.toInt_inj, Int32.toInt_ofNat', Int32.reduceToInt, zi_ix, Int32.toInt_add, Int32.toInt_sub, Int32.toInt_mul, Int32.toInt_neg, zi_bm, zi_bms, zp_in] at *; omega))
        have e : sp_force (I 114) f = (-2, I 114) := if_neg hl
        refine ss_biT rfl ?_
        refine ss_as ?_
        refine ss_rc rfl ?_
        refine ss_call (cx_refused (j := 2) (by decide) (by decide)) ?_
        refine ss_bret ?_
        refine ss_cl ?_
        rw [e, if_neg hl]
        refine ⟨rfl, _, rfl, zf_u2 (zf_u2 (zf_refl _ _) rfl) rfl, zr_cl_fr2 (fun a ha => by rw [zu_r (by omega), zu_r (by omega)]) h.1, cx_lg_fr (fun k hk => by rw [zu_a (by decide), zu_a (by decide)]) (fun a q1 q2 => by rw [zu_r (by omega), zu_r (by omega)]) l1, an_ref 0 12 108 (by decide) (by decide) (by decide)⟩
      · have hl : sp_isLaw (I 114) (Int32.ofNat n) = true := hi.mpr (Or.inr ⟨zi_leL (a := 0) (by omega) (by omega), hlt⟩)
        refine ss_biF (fun e => by cases e) ?_
        refine ss_bret ?_
        refine ss_cr ?_
        refine ss_gI rfl k26 ?_
        refine ss_pI rfl ?_
        refine ss_rc rfl ?_
        refine ss_call (cx_accepted _) ?_
        exact ss_ret (fin hl)
  · intro I1 e1 m1 _
    have hil := mx_isLaw (t := t) (J := J) (D := D) e1 f
    have k230 : I1 114 230 = I 114 230 := by rw [e1]
    unfold jx_Mo_force
    refine ss_rc rfl ?_
    refine ss_call hil ?_
    cases hl : sp_isLaw (I 114) f with
    | false =>
      have e : sp_force (I 114) f = (-2, I 114) := if_neg (by rw [hl]; decide)
      refine ss_iT rfl ?_
      refine ss_rc rfl ?_
      refine ss_call (mx_refuses (j := 2) (by decide) (by decide)) ?_
      rw [e]
      refine ss_ret ⟨rfl, _, rfl, zf_u2 (zf_u2 (zf_refl _ _) rfl) rfl, ?_, mx_lg_fr (by rw [zu_a (by decide), zu_k (by decide)]) (by rw [zu_r (by decide), zu_r (by decide)]) m1, an_ref 112 0 113 (by decide) (by decide) (by decide)⟩
      rw [zu_r (by decide), zu_r (by decide)]; exact e1
    | true =>
      have e : sp_force (I 114) f = (I 114 230, kS (I 114) 230 f) := if_pos hl
      refine ss_iF (by decide) ?_
      refine ss_pt rfl rfl ?_
      refine ss_aI rfl rfl (by decide) (by decide) k230 ?_
      refine ss_pt rfl rfl ?_
      refine ss_sI rfl rfl (by decide) (by decide) ?_
      refine ss_rc rfl ?_
      refine ss_call (mx_good _) ?_
      rw [e]
      refine ss_ret ⟨rfl, _, rfl, zf_u2 (zf_u2 (zf_refl _ _) rfl) rfl, ?_, mx_lg_fr (by rw [zu_k (by decide), zu_a (by decide)]) (by rw [zu_r (by decide), zu_r (by decide)]) m1, an_l (I := sf_u2 I1 114 230 f) (fun k => (zu_a (by decide)).symm) (an_acc 112 0 113 (by decide) (by decide))⟩
      rw [zu_r (by decide)]; exact kS_u e1
set_option maxRecDepth 20000 in
/-- one of the three terms set -/
theorem zr_cl_term {I' : Nat → Nat → Int32} (hC : zr_cl t I D K) {a k j : Nat} {v : Int32} (hj : (a = 3 ∧ k = 3 ∧ j = 194) ∨ (a = 2 ∧ k = 11 ∧ j = 225) ∨ (a = 2 ∧ k = 12 ∧ j = 226)) (he : I' a k = v) (hr : ∀ x y, ((2 ≤ x ∧ x ≤ 10) ∨ 138 < x) → (x ≠ a ∨ y ≠ k) → I' x y = I x y) (hv : zv (kS K j v)) : zr_cl t I' D (kS K j v) := by
  obtain ⟨q1, q2, q3, q4, q5, q6, q7, q8, q9, q10, q11, q12, q13, q14, q15⟩ := hC.1
  refine zr_cl_w hC (fun k hk => kS_n (by omega)) (kS_n (by omega)) (fun x hx => funext fun y => hr x y (by omega) (by omega)) ?_ hv
  refine ⟨fun i hi => ?_, ?_, ?_, ?_, fun i hi => ?_, fun i hi => ?_, fun i hi => ?_, fun i hi => ?_, fun i hi => ?_, ?_, ?_, ?_, ?_, ?_, ?_⟩
  · rw [kS_n (by omega), hr _ _ (by omega) (by omega)]; exact q1 i hi
  · rw [kS_n (by omega), hr _ _ (by omega) (by omega)]; exact q2
  · rw [kS_n (by omega), hr _ _ (by omega) (by omega)]; exact q3
  · rcases hj with ⟨rfl, rfl, rfl⟩ | hj
    · rw [kS_e]; exact he
    · rw [kS_n (by omega), hr _ _ (by omega) (by omega)]; exact q4
  · rw [kS_n (by omega), hr _ _ (by omega) (by omega)]; exact q5 i hi
  · rw [kS_n (by omega), hr _ _ (by omega) (by omega)]; exact q6 i hi
  · rw [kS_n (by omega), hr _ _ (by omega) (by omega)]; exact q7 i hi
  · rw [kS_n (by omega), hr _ _ (by omega) (by omega)]; exact q8 i hi
  · rw [kS_n (by omega), hr _ _ (by omega) (by omega)]; exact q9 i hi
  · rcases hj with hj | ⟨rfl, rfl, rfl⟩ | hj
    · rw [kS_n (by omega), hr _ _ (by omega) (by omega)]; exact q10
    · rw [kS_e]; exact he
    · rw [kS_n (by omega), hr _ _ (by omega) (by omega)]; exact q10
  · rcases hj with hj | hj | ⟨rfl, rfl, rfl⟩
    · rw [kS_n (by omega), hr _ _ (by omega) (by omega)]; exact q11
    · rw [kS_n (by omega), hr _ _ (by omega) (by omega)]; exact q11
    · rw [kS_e]; exact he
  · rw [kS_n (by omega), hr _ _ (by omega) (by omega)]; exact q12
  · rw [kS_n (by omega), hr _ _ (by omega) (by omega)]; exact q13
  · rw [kS_n (by omega), hr _ _ (by omega) (by omega)]; exact q14
  · rw [kS_n (by omega), hr _ _ (by omega) (by omega)]; exact q15
set_option maxRecDepth 20000 in
theorem zv_term (hv : zv K) {p v : Int32} (h : zs_term p v = true) : zv (kS K (sf_ix (if p = 0 then 194 else if p = 1 then 225 else 226)) v) := by
  obtain ⟨v1, v2, v3, v4, v5, v6, v7, v8, v9, v10, v11, v12⟩ := hv
  simp only [zs_term, Bool.or_eq_true, Bool.and_eq_true, decide_eq_true_eq, zs_inT] at h
  rcases h with (⟨rfl, h⟩ | ⟨rfl, h⟩) | ⟨rfl, h⟩
  · show zv (kS K 194 v)
    exact ⟨fun i hi => by rw [kS_n (by omega)]; exact v1 i hi, by rw [kS_n (by omega)]; exact v2, by rw [kS_n (by omega)]; exact v3, by rw [kS_e]; exact h, fun i hi => by rw [kS_n (by omega)]; exact v5 i hi, fun i hi => by rw [kS_n (by omega)]; exact v6 i hi, by rw [kS_n (by omega)]; exact v7, by rw [kS_n (by omega)]; exact v8, by rw [kS_n (by omega)]; exact v9, by rw [kS_n (by omega)]; exact v10, by rw [kS_n (by omega)]; exact v11, by rw [kS_n (by omega), kS_n (by omega)]; exact v12⟩
  · show zv (kS K 225 v)
    exact ⟨fun i hi => by rw [kS_n (by omega)]; exact v1 i hi, by rw [kS_n (by omega)]; exact v2, by rw [kS_n (by omega)]; exact v3, by rw [kS_n (by omega)]; exact v4, fun i hi => by rw [kS_n (by omega)]; exact v5 i hi, fun i hi => by rw [kS_n (by omega)]; exact v6 i hi, by rw [kS_e]; exact h, by rw [kS_n (by omega)]; exact v8, by rw [kS_n (by omega)]; exact v9, by rw [kS_n (by omega)]; exact v10, by rw [kS_n (by omega)]; exact v11, by rw [kS_n (by omega), kS_n (by omega)]; exact v12⟩
  · show zv (kS K 226 v)
    exact ⟨fun i hi => by rw [kS_n (by omega)]; exact v1 i hi, by rw [kS_n (by omega)]; exact v2, by rw [kS_n (by omega)]; exact v3, by rw [kS_n (by omega)]; exact v4, fun i hi => by rw [kS_n (by omega)]; exact v5 i hi, fun i hi => by rw [kS_n (by omega)]; exact v6 i hi, by rw [kS_n (by omega)]; exact v7, by rw [kS_e]; exact h, by rw [kS_n (by omega)]; exact v9, by rw [kS_n (by omega)]; exact v10, by rw [kS_n (by omega)]; exact v11, by rw [kS_n (by omega), kS_n (by omega)]; exact v12⟩
end
