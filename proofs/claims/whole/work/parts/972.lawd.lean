section
variable {t : List (Nat × Nat)} {I I1 I2 : Nat → Nat → Int32} {J : Nat → Nat → Int64} {D : Nat → Nat → Option Nat}
set_option maxRecDepth 20000 in
/-- case 10 -/
theorem CL_law : CL (jx_SF_law (some 0)) (jx_Mo_law (some 112)) := by
  intro t I J D h
  have hI := h
  obtain ⟨L, l1, l2, l3⟩ := h.2.2.1
  obtain ⟨⟨l, hl, tn1, tn2⟩, hb⟩ := h.2.2.2.1
  obtain ⟨g1, g2, g3, g4, g5, g6, g7⟩ := h.ms
  have hC := h.1
  obtain ⟨n, hn6, h9⟩ := zv_229 hC.2.1
  by_cases h6 : n = 6
  · exact CL_law_no h (Or.inl (by rw [h9, h6]; rfl))
  have hn : n < 6 := by omega
  cases ht : tx_text (tkC (I 96) l) (tkV (I 96) l) false (tk_n (I 96) l) 12 0 0 with
  | inl f => exact CL_law_no h (Or.inr ⟨n, l, f, h9, hn, tn1, hl, ht⟩)
  | inr cs =>
    refine zp_wp_mono (cx_law_good (T := I 96) hC.1 h9 hn (fun i _ => rfl) (fun i hi => (hb i (by omega)).2) hl tn1 ht) ?_
    rintro r τ ⟨rfl, I1, J1, D1, rfl, f1, r96, r95, r9, r25, a1, hpp, hpr, hD, hD8⟩
    have hr : ∀ a, a = 119 ∨ a = 118 ∨ a = 114 ∨ a = 115 ∨ a = 116 ∨ a = 112 ∨ a = 133 ∨ a = 113 ∨ a = 110 ∨ a = 138 ∨ (2 < a ∧ a < 11) ∨ (19 < a ∧ a < 55) ∨ (138 < a ∧ a < 139 + t.length) → I1 a = I a := fun a ha => funext fun k => f1 a k (by omega) (by simp [zk_lx]; omega)
    refine zp_wp_mono (mx_law_good (K := I 114) (T := I 96) (hr 114 (by omega)) h9 hn (fun i hi => by rw [hr 119 (by omega)]; exact (hb i (by omega)).1) (fun i hi => (hb i (by omega)).2) (fun k hk => by rw [hr 118 (by omega)]; exact h.2.2.2.2.2.1 k hk) hl (by rw [hr 112 (by omega)]; exact tn2) ht) ?_
    rintro r τ ⟨rfl, I2, rfl, f2, e2, q13, q14, a2⟩
    have f2' : ∀ a, a ≠ 112 → a ≠ 113 → a ≠ 114 → ¬ (120 < a ∧ a < 124) → I2 a = I1 a := fun a q1 q2 q3 q4 => zf_row f2 (fun k => by
      cases hz : zk_lw a k with
      | false => rfl
      | true =>
        exfalso
        simp only [zk_lw, Bool.or_eq_true, Bool.and_eq_true, beq_iff_eq] at hz
        rcases hz with ((hz | hz) | hz) | hz
        · have := zk_ra_sc a k hz; omega
        · exact q2 hz
        · exact q3 hz
        · exact q1 hz.1)
    have hr2 : ∀ a, a = 119 ∨ a = 118 ∨ a = 115 ∨ a = 116 ∨ a = 133 ∨ a = 110 ∨ a = 138 ∨ (2 < a ∧ a < 11) ∨ (19 < a ∧ a < 55) ∨ (138 < a ∧ a < 139 + t.length) → I2 a = I a := fun a ha => (f2' a (by omega) (by omega) (by omega) (by omega)).trans (hr a (by omega))
    have g : ∀ k, k = 6 ∨ k = 40 ∨ k = 43 ∨ k = 51 → I2 112 k = I 112 k := fun k hk => by
      rw [f2 112 k (by rcases hk with rfl | rfl | rfl | rfl <;> rfl), hr 112 (by omega)]
    have g0 : ∀ k, k = 8 ∨ k = 10 ∨ k = 11 → I2 0 k = I 0 k := fun k hk => by
      rw [f2' 0 (by decide) (by decide) (by decide) (by decide)]
      exact f1 0 k (by omega) (by rcases hk with rfl | rfl | rfl <;> rfl)
    have hDm : ∀ x k, 138 < x → x < 139 + t.length → D1 x k = D x k := fun x k q1 q2 => hD x k q2 (by omega)
    have hIm : ∀ x, 138 < x → x < 139 + t.length → I2 x = I x := fun x q1 q2 => hr2 x (by omega)
    have hprog : zr_prog I2 (139 + t.length) cs := by
      unfold zr_prog zr_cls at hpr ⊢
      rw [f2' (139 + t.length) (by omega) (by omega) (by omega) (by omega), f2' (139 + t.length + 1) (by omega) (by omega) (by omega) (by omega), f2' (139 + t.length + 2) (by omega) (by omega) (by omega) (by omega), f2' (139 + t.length + 3) (by omega) (by omega) (by omega) (by omega)]
      exact hpr
    obtain ⟨h1, h2, -, h4, -, h6', h7, h8, h10⟩ := h
    refine ⟨rfl, pg_sh, I2, J1, D1, rfl, ⟨?_, ?_, ⟨L, ?_, ?_, l3⟩, ⟨⟨0, by decide, ?_, q13⟩, fun k hk => ?_⟩, ⟨?_, ?_, ?_, ?_, ?_, ?_, fun k hk => ?_⟩, ?_, ?_, ?_, ?_⟩, by decide, by decide⟩
    · rw [e2]
      refine zr_cl_kN hC h9 hn hl ht (by omega) hpp hprog (fun x hx => hr2 x (by omega)) (fun k hk => ?_) ?_ hDm (fun k hk => hD 8 k (by omega) (fun e => hk e.2)) hD8 (fun m p hm hp => ?_)
      · rw [f2' 2 (by decide) (by decide) (by decide) (by decide)]
        exact f1 2 k (by omega) (by simp [zk_lx, hk])
      · rw [f2' 2 (by decide) (by decide) (by decide) (by decide)]; exact r25
      · obtain ⟨p', p1, p2⟩ := h1.2.2 m (by rw [h9, zi_ixn (by omega)]; exact hm)
        rw [p1] at hp; cases hp
        exact sh_lt p2.1.2.2.2.1 (by decide)
    · intro m hm
      by_cases e : m = n
      · subst e; exact Or.inr ⟨_, hD8, hpp.1⟩
      · rw [hD 8 m (by omega) (fun q => e q.2)]
        rcases h2 m hm with q | ⟨p, q1, q2⟩
        · exact Or.inl q
        · exact Or.inr ⟨p, q1, by rw [sh_mono (sh_lt q2 (by decide))]; exact q2⟩
    · exact cx_lg_fr (fun k _ => by rw [hr2 20 (by omega)]) (fun a q1 q2 => hr2 a (by omega)) l1
    · exact mx_lg_fr (g 40 (by omega)) (hr2 133 (by omega)) l2
    · rw [f2' 95 (by decide) (by decide) (by decide) (by decide)]; exact r95
    · rw [hr2 119 (by omega), f2' 96 (by decide) (by decide) (by decide) (by decide), r96]; exact hb k hk
    · have p1 := (a1.1 (zi_leL (a := 0) (by omega) (by omega))).1
      have p2 := (a2.1 (zi_leL (a := 0) (by omega) (by omega))).1
      rw [f2' 0 (by decide) (by decide) (by decide) (by decide), p1, p2]
    · intro k hk
      have p1 := (a1.1 (zi_leL (a := 0) (by omega) (by omega))).2 k hk
      have p2 := (a2.1 (zi_leL (a := 0) (by omega) (by omega))).2 k hk
      rw [f2' 108 (by decide) (by decide) (by decide) (by decide), p1, p2, hr 113 (by omega)]; exact g2 k hk
    · rw [f2' 0 (by decide) (by decide) (by decide) (by decide), r9, q14]
    · rw [g0 10 (by omega), g 43 (by omega)]; exact g4
    · rw [g0 11 (by omega), g 6 (by omega)]; exact g5
    · rw [g0 8 (by omega), g 51 (by omega)]; exact g6
    · rw [hr2 110 (by omega), hr2 138 (by omega)]; exact g7 k hk
    · intro k hk; rw [hr2 118 (by omega)]; exact h6' k hk
    · exact im_mono (hr2 115 (by omega)) (hr2 116 (by omega)) hIm hDm (hD 107 0 (by omega) (fun e => absurd e.1 (by decide))) h7
    · exact im_mono (hr2 115 (by omega)) (hr2 116 (by omega)) hIm hDm (hD 107 1 (by omega) (fun e => absurd e.1 (by decide))) h8
    · intro o q1 q2
      rw [hD 107 0 (by omega) (fun e => absurd e.1 (by decide))] at q1
      rw [hD 107 1 (by omega) (fun e => absurd e.1 (by decide))] at q2
      exact h10 o q1 q2
end
