/-! law: both. -/
set_option maxRecDepth 20000 in
theorem sh_lt {t : List (Nat × Nat)} {x : Nat} {s : Nat × Nat} (h : (zp_sh0 ++ t).getD x (999, 0) = s) (hs : s ≠ (999, 0)) : x < 139 + t.length := by
  have hl0 : (zp_sh0 ++ t).length = 139 + t.length := by rw [List.length_append]; rfl
  rcases Nat.lt_or_ge x (139 + t.length) with h1 | h1
  · exact h1
  · exfalso
    rw [List.getD_eq_getElem?_getD, List.getElem?_eq_none (by omega)] at h
    exact hs h.symm
set_option maxRecDepth 20000 in
theorem sh_mono {t ex : List (Nat × Nat)} {x : Nat} (hx : x < 139 + t.length) : (zp_sh0 ++ (t ++ ex)).getD x (999, 0) = (zp_sh0 ++ t).getD x (999, 0) := by
  have hl0 : (zp_sh0 ++ t).length = 139 + t.length := by rw [List.length_append]; rfl
  rw [← List.append_assoc, List.getD_eq_getElem?_getD, List.getD_eq_getElem?_getD, List.getElem?_append_left (by omega)]
section
variable {t ex : List (Nat × Nat)} {I I' : Nat → Nat → Int32} {D D' : Nat → Nat → Option Nat} {K : Nat → Int32}
set_option maxRecDepth 20000 in
theorem law_mono {n p : Nat} (hI : ∀ x, 138 < x → x < 139 + t.length → I' x = I x) (hD : ∀ x k, 138 < x → x < 139 + t.length → D' x k = D x k) (h : zr_law t I D K n p) : p + 3 < 139 + t.length ∧ zr_law (t ++ ex) I' D' K n p := by
  obtain ⟨⟨z1, z2, z3, z4, z5, z6, z7⟩, p3, p4, p5⟩ := h
  have hp3 : p + 3 < 139 + t.length := sh_lt z4 (by decide)
  refine ⟨hp3, ⟨by rw [sh_mono (by omega)]; exact z1, by rw [sh_mono (by omega)]; exact z2, by rw [sh_mono (by omega)]; exact z3, by rw [sh_mono (by omega)]; exact z4, ?_, ?_, ?_⟩, p3, p4, ?_⟩
  · rw [rfs_hi (by omega), hD p 0 (by omega) (by omega), ← rfs_hi (D := D) (show 139 ≤ p by omega)]; exact z5
  · rw [rfs_hi (by omega), hD p 1 (by omega) (by omega), ← rfs_hi (D := D) (show 139 ≤ p by omega)]; exact z6
  · rw [rfs_hi (by omega), hD p 2 (by omega) (by omega), ← rfs_hi (D := D) (show 139 ≤ p by omega)]; exact z7
  · unfold zr_prog zr_cls at p5 ⊢
    rw [hI p (by omega) (by omega), hI (p + 1) (by omega) (by omega), hI (p + 2) (by omega) (by omega), hI (p + 3) (by omega) (by omega)]
    exact p5
set_option maxRecDepth 20000 in
theorem lw_mono {a : Nat} (hD : ∀ n, n < 6 → D' a n = D a n) (h : lw_ok t D a) : lw_ok (t ++ ex) D' a := by
  intro n hn
  rw [hD n hn]
  rcases h n hn with h1 | ⟨p, h1, h2⟩
  · exact Or.inl h1
  · exact Or.inr ⟨p, h1, by rw [sh_mono (sh_lt h2 (by decide))]; exact h2⟩
set_option maxRecDepth 20000 in
theorem im_mono {k : Nat} (h15 : I' 115 = I 115) (h16 : I' 116 = I 116) (hI : ∀ x, 138 < x → x < 139 + t.length → I' x = I x) (hD : ∀ x k, 138 < x → x < 139 + t.length → D' x k = D x k) (h107 : D' 107 k = D 107 k) (h : im_ok t I D k) : im_ok (t ++ ex) I' D' k := by
  have hK : im_K I' k = im_K I k := by unfold im_K; rw [h15]
  rcases h with ⟨e1, e2⟩ | ⟨o, e1, e2, ⟨o0, o1, o2, o3, o4, o5, o6, o7, o8, o9, q1, q2, q3, q4, q5, q6, q7, q8⟩, e4, e5, e7, e6⟩
  · exact Or.inl ⟨by rw [h107]; exact e1, by rw [h16]; exact e2⟩
  · have ho : o + 8 < 139 + t.length := sh_lt o9 (by decide)
    refine Or.inr ⟨o, by rw [h107]; exact e1, by rw [h16]; exact e2, ⟨o0, by rw [sh_mono (by omega)]; exact o1, by rw [sh_mono (by omega)]; exact o2, by rw [sh_mono (by omega)]; exact o3, by rw [sh_mono (by omega)]; exact o4, by rw [sh_mono (by omega)]; exact o5, by rw [sh_mono (by omega)]; exact o6, by rw [sh_mono (by omega)]; exact o7, by rw [sh_mono (by omega)]; exact o8, by rw [sh_mono (by omega)]; exact o9, by rw [hD _ _ (by omega) (by omega)]; exact q1, by rw [hD _ _ (by omega) (by omega)]; exact q2, by rw [hD _ _ (by omega) (by omega)]; exact q3, by rw [hD _ _ (by omega) (by omega)]; exact q4, by rw [hD _ _ (by omega) (by omega)]; exact q5, by rw [hD _ _ (by omega) (by omega)]; exact q6, by rw [hD _ _ (by omega) (by omega)]; exact q7, by rw [hD _ _ (by omega) (by omega)]; exact q8⟩, ?_, ?_, ?_, ?_⟩
    · rw [hK]; exact zr_off_fr (fun a h1 h2 => hI a (by omega) (by omega)) e4
    · rw [hK]; exact e5
    · exact lw_mono (fun n hn => hD _ _ (by omega) (by omega)) e7
    · rw [hK]
      intro n hn
      obtain ⟨p, p1, p2⟩ := e6 n hn
      exact ⟨p, by rw [hD _ _ (by omega) (by omega)]; exact p1, (law_mono hI hD p2).2⟩
end
section
variable {t : List (Nat × Nat)} {I I1 I2 : Nat → Nat → Int32} {J : Nat → Nat → Int64} {D : Nat → Nat → Option Nat}
set_option maxRecDepth 20000 in
theorem zk_lw_dm (a k : Nat) (h : zk_lw a k = true) : zk_dm a k = true := by
  simp only [zk_lw, Bool.or_eq_true, Bool.and_eq_true, beq_iff_eq] at h
  rcases h with ((h | h) | h) | h
  · have := zk_ra_sc a k h
    rcases this with h | ⟨rfl, h8⟩
    · have : 119 < a ∧ a < 133 := by omega
      simp [zk_dm, zk_sc, this]
    · rcases h8 with rfl | rfl | rfl | rfl | rfl | rfl | rfl | rfl | rfl <;> rfl
  · simp [zk_dm, h]
  · simp [zk_dm, h]
  · simp [zk_dm, h]
set_option maxRecDepth 20000 in
/-- case 10, but for a law that is read -/
theorem CL_law_no (h : INV t I D) (hno : I 114 229 = 6 ∨ ∃ n l f, I 114 229 = Int32.ofNat n ∧ n < 6 ∧ I 95 1 = Int32.ofNat l ∧ l ≤ 400 ∧ tx_text (tkC (I 96) l) (tkV (I 96) l) false (tk_n (I 96) l) 12 0 0 = .inl f) : zp_wp (jx_SF_law (some 0)) (fun a σ => zp_wp (jx_Mo_law (some 112)) (fun b τ => a = b ∧ ∃ ex I' J' D', τ = zp_Z (t ++ ex) I' J' D' ∧ INV (t ++ ex) I' D' ∧ ex.length ≤ 12 ∧ (ex.map (fun q => q.2)).sum ≤ 877) σ) (zp_Z t I J D) := by
  have hI := h
  obtain ⟨L, l1, l2, l3⟩ := h.2.2.1
  obtain ⟨⟨tn, htn, tn1, tn2⟩, hb⟩ := h.2.2.2.1
  obtain ⟨g1, g2, g3, g4, g5, g6, g7⟩ := h.ms
  have hC := h.1
  rcases hno with h6 | ⟨n, l, f, h9, hn, h95, hl, ht⟩
  · refine zp_wp_mono (cx_law_full hC.1 h6) ?_
    rintro r τ ⟨rfl, rfl⟩
    generalize hI1 : sf_u2 (sf_u2 (sf_u2 I 95 1 0) 0 12 (-Int32.ofNat 5)) 108 5 (I 108 5 + 1) = I1
    have f1 : zf zk_dx I I1 := by subst hI1; exact zf_u2 (zf_u2 (zf_u2 (zf_refl _ _) rfl) rfl) rfl
    have e0 : ∀ k, k ≠ 12 → I1 0 k = I 0 k := fun k hk => by subst hI1; rw [zu_a (by decide), zu_k hk, zu_a (by decide)]
    have e95 : I1 95 1 = 0 := by subst hI1; rw [zu_a (by decide), zu_a (by decide), zu_eq]
    have hr : ∀ a, a ≠ 95 → a ≠ 0 → a ≠ 108 → I1 a = I a := fun a q1 q2 q3 => by subst hI1; rw [zu_r q3, zu_r q2, zu_r q1]
    have a1 : an_at 0 12 108 I I1 (-Int32.ofNat 5) := by
      subst hI1
      refine an_l (I := sf_u2 I 95 1 0) (fun k => (zu_a (by decide)).symm) ?_
      have := an_ref (I := sf_u2 I 95 1 0) 0 12 108 (by decide) (j := 5) (by decide) (by decide)
      rw [show sf_u2 I 95 1 0 108 5 = I 108 5 from zu_a (by decide)] at this
      exact this
    clear hI1
    refine zp_wp_mono (mx_law_full (K := I 114) (hr 114 (by decide) (by decide) (by decide)) h6) ?_
    rintro r τ ⟨rfl, rfl⟩
    refine CL.fin ?_ rfl
    refine INV_mk (I1 := I1) (r := -Int32.ofNat 5) hI f1 (zr_cl_fr2 (fun a ha => hr a (by omega) (by omega) (by omega)) hC) (cx_lg_fr (fun k _ => by rw [hr 20 (by decide) (by decide) (by decide)]) (fun a q1 q2 => hr a (by omega) (by omega) (by omega)) l1) a1 (zf_u2 (zf_u2 (zf_u2 (zf_refl _ _) rfl) rfl) rfl) ?_ ?_ ?_ l3 (ar_neg 5 (by decide) (by decide)) ⟨0, by decide, e95, ?_⟩ ?_ ?_ ?_
    · rw [zu_r (by decide), zu_r (by decide), zu_r (by decide)]; exact hr 114 (by decide) (by decide) (by decide)
    · exact mx_lg_fr (by rw [zu_a (by decide), zu_k (by decide), zu_k (by decide), hr 112 (by decide) (by decide) (by decide)]) (by rw [zu_r (by decide), zu_r (by decide), zu_r (by decide)]; exact hr 133 (by decide) (by decide) (by decide)) l2
    · refine an_l (I := sf_u2 I1 112 13 0) (fun k => (zu_a (by decide)).symm) ?_
      have := an_ref (I := sf_u2 I1 112 13 0) 112 0 113 (by decide) (j := 5) (by decide) (by decide)
      rw [show sf_u2 I1 112 13 0 113 5 = I1 113 5 from zu_a (by decide)] at this
      exact this
    · rw [zu_a (by decide), zu_k (by decide), zu_eq]; rfl
    · rw [zu_a (by decide), zu_k (by decide), zu_k (by decide), e0 9 (by decide), hr 112 (by decide) (by decide) (by decide)]; exact g3
    · rw [zu_a (by decide), zu_k (by decide), zu_k (by decide), e0 10 (by decide), hr 112 (by decide) (by decide) (by decide)]; exact g4
    · rw [zu_a (by decide), zu_k (by decide), zu_k (by decide), e0 11 (by decide), hr 112 (by decide) (by decide) (by decide)]; exact g5
  · have hltn : l = tn := by
      rw [h95, zi_eq (by omega) (by omega)] at tn1; exact tn1
    subst hltn
    refine zp_wp_mono (cx_law_bad (T := I 96) hC.1 h9 hn (fun i _ => rfl) (fun i hi => (hb i (by omega)).2) hl h95 ht) ?_
    rintro r τ ⟨rfl, I1, rfl, f1, r96, r95, r9, a1⟩
    have hz : ∀ a k, zk_lx a k = false → I1 a k = I a k := f1
    have hr : ∀ a, a = 119 ∨ a = 118 ∨ a = 114 ∨ a = 112 ∨ a = 133 ∨ a = 113 ∨ (1 < a ∧ a < 11) ∨ (19 < a ∧ a < 55) ∨ 138 < a → I1 a = I a := fun a ha => zf_row f1 (fun k => by simp [zk_lx]; omega)
    have f1' : zf zk_dx I I1 := fun a k q => by
      by_cases e : a = 96
      · subst e; rw [r96]
      · refine f1 a k ?_
        simp only [zk_dx, zk_sc, Bool.or_eq_false_iff, Bool.and_eq_false_imp, beq_iff_eq, beq_eq_false_iff_ne, decide_eq_true_eq, decide_eq_false_iff_not] at q
        simp [zk_lx]; omega
    refine zp_wp_mono (mx_law_bad (K := I 114) (T := I 96) (hr 114 (by omega)) h9 hn (fun i hi => by rw [hr 119 (by omega)]; exact (hb i (by omega)).1) (fun i hi => (hb i (by omega)).2) (fun k hk => by rw [hr 118 (by omega)]; exact h.2.2.2.2.2.1 k hk) hl (by rw [hr 112 (by omega)]; exact tn2) ht) ?_
    rintro r τ ⟨rfl, I2, rfl, f2, e2, q13, q14, a2⟩
    refine CL.fin ?_ rfl
    have g : ∀ k, k = 6 ∨ k = 40 ∨ k = 43 → I2 112 k = I 112 k := fun k hk => by
      rw [f2 112 k (by rcases hk with rfl | rfl | rfl <;> rfl), hr 112 (by omega)]
    refine INV_mk (I1 := I1) (r := -Int32.ofNat 6) hI f1' (zr_cl_fr2 (fun a ha => hr a (by omega)) hC) (cx_lg_fr (fun k _ => by rw [hr 20 (by omega)]) (fun a q1 q2 => hr a (by omega)) l1) a1 (zf_mono f2 zk_lw_dm) e2 ?_ a2 l3 (ar_neg 6 (by decide) (by decide)) ⟨0, by decide, r95, q13⟩ ?_ ?_ ?_
    · exact mx_lg_fr (g 40 (by omega)) ((zf_row f2 (fun k => rfl)).trans (hr 133 (by omega))) l2
    · rw [r9, q14]
    · rw [g 43 (by omega), f1 0 10 rfl]; exact g4
    · rw [g 6 (by omega), f1 0 11 rfl]; exact g5
end
