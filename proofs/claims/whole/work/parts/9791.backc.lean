/-! back: both. -/
section
variable {t : List (Nat × Nat)} {I : Nat → Nat → Int32} {J : Nat → Nat → Int64} {D : Nat → Nat → Option Nat} {K : Nat → Int32}
set_option maxRecDepth 20000 in
theorem cx_back_good {c o : Nat} (hc : c < 2) (hs : of_sh t D o) (h107 : D 107 c = some o) (hO : zr_off I o K) (hl : lw_ok t D (o + 6)) : zp_wp (jx_SF_back (some 0) (Int32.ofNat c)) (fun r τ => r = 0 ∧ ∃ I' D', τ = zp_Z t I' J D' ∧ (∀ x k, zk_of 2 x k = false → zk_st x k = false → ¬ (x = 20 ∧ (k = 2 ∨ k = 3)) → I' x k = I x k) ∧ I' 20 2 = 0 ∧ I' 20 3 = 0 ∧ (∀ x k, ¬ (x = 8 ∧ k < 6) → D' x k = D x k) ∧ (∀ n, n < 6 → D' 8 n = D (o + 6) n) ∧ zr_off I' 2 K ∧ an_at 0 12 108 I I' 0) (zp_Z t I J D) := by
  have h138 : 138 < o := hs.1
  have c1 : ¬ Int32.ofNat c < 0 := by
    have := zi_nlt (a := c) (b := 0) (by omega) (by omega)
    exact this
  have c2 : Int32.ofNat c < 2 := zi_ltL (b := 2) hc (by omega)
  have hv : zp_rfs D 107 c = some o := by unfold zp_rfs; rw [pt_107]; exact h107
  unfold jx_SF_back
  refine ss_or ?_
  refine ss_biF c1 ?_
  refine ss_biT c2 ?_
  refine ss_as ?_
  refine ss_pt rfl rfl ?_
  refine ss_as ?_
  refine ss_aR (n := 2) (m := c) rfl rfl hc (by decide) hv ?_
  refine ss_biF (by simp) ?_
  refine ss_as ?_
  refine ss_pt rfl rfl ?_
  refine ss_as ?_
  refine ss_pt rfl rfl ?_
  refine ss_as ?_
  refine ss_rc rfl ?_
  refine zp_wp_call (cx_copyO (of_is_sh hs) of_is_2 (by omega) hO hl) ?_
  rintro _ τ ⟨I1, D1, rfl, f1, r1, d1, d2⟩
  refine ss_as ?_
  refine ss_pt rfl rfl ?_
  refine ss_as ?_
  refine ss_pt rfl rfl ?_
  refine ss_as ?_
  refine ss_rc rfl ?_
  refine ss_call cx_clear ?_
  refine ss_as ?_
  refine ss_rc rfl ?_
  refine ss_call (cx_accepted _) ?_
  refine ss_bret ?_
  refine ss_cl ⟨rfl, _, _, rfl, fun x k q1 q2 q3 => ?_, ?_, ?_, d1, d2, ?_, an_l (I := sf_u2 (sf_u2 I1 20 2 0) 20 3 0) (fun k => ?_) (an_acc 0 12 108 (by decide) (by decide))⟩
  · have g : ∀ (R : Nat → Nat → Int32) (b j : Nat) (w : Int32), ¬ (x = b ∧ k = j) → sf_u2 R b j w x k = R x k := fun R b j w h => by
      by_cases e : x = b
      · subst e; exact zu_k (fun e2 => h ⟨rfl, e2⟩)
      · exact zu_a e
    rw [g _ _ _ _ (by rintro ⟨rfl, rfl⟩; cases q2), g _ _ _ _ (fun e => q3 ⟨e.1, Or.inr e.2⟩), g _ _ _ _ (fun e => q3 ⟨e.1, Or.inl e.2⟩)]
    exact f1 x k q1
  · rw [zu_a (by decide), zu_k (by decide), zu_eq]
  · rw [zu_a (by decide), zu_eq]
  · exact zr_off_fr (fun a h1 h2 => by rw [zu_r (by omega), zu_r (by omega), zu_r (by omega)]) r1
  · rw [zu_a (by decide), zu_a (by decide)]; exact (f1 108 k (by simp [zk_of])).symm
end
set_option maxRecDepth 20000 in
/-- case 39 -/
theorem CL_back (x : Int32) : CL (jx_SF_back (some 0) x) (jx_Mo_back (some 112) x) := by
  intro t I J D h
  have hl := ze_lies x 0 1
  by_cases hx : 0 ≤ x ∧ x ≤ 1
  · obtain ⟨c, hc, rfl⟩ := zi_rng (n := 1) hx.1 hx.2 (by omega)
    have hc2 : c < 2 := by omega
    have hC := h.1
    rcases h.im hc2 with ⟨e1, e2⟩ | ⟨o, e1, e2, e3, e4, e5, e7, e6⟩
    · -- it was not kept
      have c1 : ¬ Int32.ofNat c < 0 := by
        have := zi_nlt (a := c) (b := 0) (by omega) (by omega)
        exact this
      have c2 : Int32.ofNat c < 2 := zi_ltL (b := 2) hc2 (by omega)
      have hv : zp_rfs D 107 c = none := by unfold zp_rfs; rw [pt_107]; exact e1
      unfold jx_SF_back
      refine ss_or ?_
      refine ss_biF c1 ?_
      refine ss_biT c2 ?_
      refine ss_as ?_
      refine ss_pt rfl rfl ?_
      refine ss_as ?_
      refine ss_aR (n := 2) (m := c) rfl rfl hc2 (by decide) hv ?_
      refine ss_biT rfl ?_
      refine ss_as ?_
      refine ss_rc rfl ?_
      refine ss_call (cx_refused (j := 2) (by decide) (by decide)) ?_
      refine ss_bret ?_
      refine ss_cl ?_
      unfold jx_Mo_back
      rw [show zs_in 0 (Int32.ofNat c) 1 = true from zs_inT.mpr hx] at hl
      refine ss_pure hl ?_
      refine ss_iF (by decide) ?_
      refine ss_pt rfl rfl ?_
      refine ss_aI (n := 2) (m := c) rfl rfl hc2 (by decide) (show _ = (0 : Int32) from ?_) ?_
      · rw [zu_a (by decide), zu_a (by decide)]; exact e2
      refine ss_iT rfl ?_
      refine ss_rc rfl ?_
      refine ss_call (mx_refuses (j := 2) (by decide) (by decide)) ?_
      exact ss_ret (CL.fin (INV_ref h (by decide) (by decide) rfl) rfl)
    · refine zp_wp_mono (cx_back_good hc2 e3 e1 e4 e7) ?_
      rintro r τ ⟨rfl, I1, D1, rfl, f1, r2, r3, d1, d2, r1, a1⟩
      have o138 : 138 < o := e3.1
      have hr : ∀ a, a = 115 ∨ a = 116 ∨ a = 112 ∨ a = 113 ∨ a = 133 ∨ a = 95 ∨ a = 96 ∨ a = 119 ∨ a = 118 ∨ a = 110 ∨ a = 138 ∨ 138 < a → I1 a = I a := fun a ha => funext fun k => f1 a k (by simp [zk_of]; omega) (by simp [zk_st]; omega) (by omega)
      have h0 : ∀ k, k ≠ 12 → I1 0 k = I 0 k := fun k hk => f1 0 k (by simp [zk_of]) (by simp [zk_st, hk]) (by omega)
      refine zp_wp_mono (mx_back_good hc2 (by rw [hr 116 (by omega)]; exact e2)) ?_
      rintro r τ ⟨rfl, I2, rfl, f2, k2, k40, a2⟩
      have hf2 : ∀ a, a ≠ 114 → a ≠ 112 → a ≠ 113 → I2 a = I1 a := fun a h1 h2 h3 => zf_row f2 (fun k => by simp [h1, h2, h3])
      have hr2 : ∀ a, a = 115 ∨ a = 116 ∨ a = 133 ∨ a = 95 ∨ a = 96 ∨ a = 119 ∨ a = 118 ∨ a = 110 ∨ a = 138 ∨ 138 < a → I2 a = I a := fun a ha => (hf2 a (by omega) (by omega) (by omega)).trans (hr a (by omega))
      have e112 : ∀ k, k ≠ 0 → k ≠ 40 → I2 112 k = I 112 k := fun k h1 h2 => by rw [f2 112 k (by simp [h1, h2]), hr 112 (by omega)]
      have hD : ∀ x k, x ≠ 8 → D1 x k = D x k := fun x k hx => d1 x k (by omega)
      have him : ∀ d, d < 2 → im_ok t I2 D1 d := by
        intro d hd
        have := im_mono (ex := []) (hr2 115 (by omega)) (hr2 116 (by omega)) (fun x q1 q2 => hr2 x (by omega)) (fun x k q1 q2 => hD x k (by omega)) (hD 107 d (by omega)) (h.im hd)
        rw [List.append_nil] at this; exact this
      have hms : ms_ok I2 := ms_acc (by decide) h.ms a1 a2 (by rw [hf2 0 (by decide) (by decide) (by decide)]) (fun k => by rw [hf2 108 (by decide) (by decide) (by decide)]) (fun k => by rw [hr 113 (by omega)]) (fun k hk => by rw [hf2 0 (by decide) (by decide) (by decide)]; exact h0 k (by omega)) (fun k hk => e112 k (by omega) (by omega)) (hr2 110 (by omega)) (hr2 138 (by omega))
      obtain ⟨cc, hc6, hcc⟩ := zv_229 e5
      have hK2 : ∀ k, k < 5838 → I2 114 k = im_K I c k := fun k hk => by
        rw [k2 k hk, hr 115 (by omega)]; rfl
      obtain ⟨h1, h2, ⟨L, l1, l2, l3⟩, h4, -, h6, -, -, h10⟩ := h
      refine CL.fin ⟨?_, ?_, ⟨[], ?_, ?_, ?_⟩, ?_, hms, ?_, him 0 (by omega), him 1 (by omega), ?_⟩ rfl
      · refine zr_cl_c hK2 ⟨zr_off_fr (fun a q1 q2 => hf2 a (by omega) (by omega) (by omega)) r1, e5, fun n hn => ?_⟩
        have hn6 : n < 6 := by rw [hcc, zi_ixn (by omega)] at hn; omega
        obtain ⟨p, p1, p2⟩ := e6 n hn
        have := (law_mono (ex := []) (fun x q1 q2 => hr2 x (by omega)) (fun x k q1 q2 => hD x k (by omega)) p2).2
        rw [List.append_nil] at this
        exact ⟨p, by rw [d2 n hn6]; exact p1, this⟩
      · intro n hn
        rw [d2 n hn]; exact e7 n hn
      · exact cx_lg_nil (by rw [hf2 20 (by decide) (by decide) (by decide)]; exact r2) (by rw [hf2 20 (by decide) (by decide) (by decide)]; exact r3)
      · exact ⟨by decide, k40, fun i e hi => by cases hi⟩
      · exact fun e he => absurd he List.not_mem_nil
      · exact tp_fr (by rw [hr2 95 (by omega)]) (e112 13 (by decide) (by decide)) (hr2 96 (by omega)) (hr2 119 (by omega)) h4
      · intro k hk; rw [hr2 118 (by omega)]; exact h6 k hk
      · intro o1 w1 w2
        rw [hD 107 0 (by omega)] at w1
        rw [hD 107 1 (by omega)] at w2
        exact h10 o1 w1 w2
  · have hf : zs_in 0 x 1 = false := by
      rw [← Bool.not_eq_true, zs_inT]; exact hx
    unfold jx_SF_back
    refine ss_or ?_
    have hbad : zp_wp (sf_bnd (sf_rc 0 (some 0) (jx_SF_refused (some 0) (-1))) fun x17 => sf_ret x17) (fun a σ => zp_wp (jx_Mo_back (some 112) x) (fun b τ => a = b ∧ ∃ ex I' J' D', τ = zp_Z (t ++ ex) I' J' D' ∧ INV (t ++ ex) I' D' ∧ ex.length ≤ 12 ∧ (ex.map (fun q => q.2)).sum ≤ 877) σ) (zp_Z t I J D) := by
      refine ss_rc rfl ?_
      refine ss_call (cx_refused (j := 1) (by decide) (by decide)) ?_
      refine ss_ret ?_
      unfold jx_Mo_back
      rw [hf] at hl
      refine ss_pure hl ?_
      refine ss_iT rfl ?_
      refine ss_rc rfl ?_
      refine ss_call (mx_refuses (j := 1) (by decide) (by decide)) ?_
      exact ss_ret (CL.fin (INV_ref h (by decide) (by decide) rfl) rfl)
    by_cases c1 : x < 0
    · exact ss_biT c1 (ss_bret (ss_cr hbad))
    · have c2 : ¬ x < 2 := by
        intro c2; apply hx; (simp only [Int32.le_iff_toInt_le, Int32.lt_iff_toInt_lt, ← Int32.toInt_inj, Int32.toInt_ofNat', Int32.reduceToInt, zi_ix, Int32.toInt_add, Int32.toInt_sub, Int32.toInt_mul, Int32.toInt_neg, zi_bm, zi_bms, zp_in] at *; omega)
      exact ss_biF c1 (ss_biF c2 (ss_bret (ss_cr hbad)))
