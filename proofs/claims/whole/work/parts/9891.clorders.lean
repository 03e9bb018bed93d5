/-! orders: both. -/
set_option maxRecDepth 20000 in
theorem zk_oy_dm (a k : Nat) (h : zk_oy a k = true) : zk_dm a k = true := by
  simp only [zk_oy, zk_om, Bool.or_eq_true, Bool.and_eq_true, beq_iff_eq, decide_eq_true_eq] at h
  have h' : zk_dj a k = true ∨ zk_ra a k = true ∨ a = 113 ∨ a = 117 ∨ a = 134 ∨ (a = 112 ∧ (k = 0 ∨ k = 40 ∨ k = 43 ∨ (21 < k ∧ k < 26) ∨ k = 27 ∨ k = 28 ∨ (43 < k ∧ k < 49))) := by
    by_cases h1 : zk_dj a k = true
    · exact Or.inl h1
    · by_cases h2 : zk_ra a k = true
      · exact Or.inr (Or.inl h2)
      · simp only [h1, h2, Bool.false_eq_true, false_or, or_false] at h
        refine Or.inr (Or.inr ?_)
        omega
  rcases h' with h | h | h | h | h | ⟨rfl, h⟩
  · simp only [zk_dj, Bool.or_eq_true, Bool.and_eq_true, beq_iff_eq] at h
    rcases h with ((h | h) | h) | ⟨h, h'⟩
    · simp [zk_dm, zk_sm2 a k h]
    · simp [zk_dm, h]
    · simp [zk_dm, h]
    · simp [zk_dm, h, h']
  · rcases zk_ra_sc a k h with h | ⟨rfl, h8⟩
    · have : 119 < a ∧ a < 133 := by omega
      simp [zk_dm, zk_sc, this]
    · rcases h8 with rfl | rfl | rfl | rfl | rfl | rfl | rfl | rfl | rfl <;> rfl
  · subst h; simp [zk_dm]
  · subst h; simp [zk_dm, zk_sc]
  · subst h; simp [zk_dm, zk_sc]
  · have : k = 0 ∨ k = 40 ∨ k = 43 ∨ k = 22 ∨ k = 23 ∨ k = 24 ∨ k = 25 ∨ k = 27 ∨ k = 28 ∨ k = 44 ∨ k = 45 ∨ k = 46 ∨ k = 47 ∨ k = 48 := by omega
    rcases this with rfl | rfl | rfl | rfl | rfl | rfl | rfl | rfl | rfl | rfl | rfl | rfl | rfl | rfl <;> rfl
set_option maxRecDepth 20000 in
theorem zk_ox_dx (a k : Nat) (ha : a ≠ 96) (h : zk_ox a k = true) : zk_dx a k = true := by
  simp only [zk_ox, zk_dk, Bool.or_eq_true, Bool.and_eq_true, beq_iff_eq, decide_eq_true_eq] at h
  have h' : (1 < a ∧ a < 11) ∨ (11 < a ∧ a < 20) ∨ (19 < a ∧ a < 55) ∨ (54 < a ∧ a < 95) ∨ (96 < a ∧ a < 107) ∨ a = 108 ∨ a = 1 ∨ (a = 95 ∧ k = 1) ∨ (a = 0 ∧ (k = 9 ∨ k = 10 ∨ k = 12)) := by omega
  rcases h' with h | h | h | h | h | h | h | h | ⟨rfl, rfl | rfl | rfl⟩
  all_goals first | rfl | simp [zk_dx, zk_sc, h]
set_option maxRecDepth 20000 in
theorem tx_text_len {c v : Nat → Int32} {ord : Bool} {size : Nat} : ∀ (n p l : Nat) (cs : List tx_C), tx_text c v ord size n p l = .inr cs → cs.length ≤ n
  | 0, p, l, cs, h => by cases h
  | n + 1, p, l, cs, h => by
    unfold tx_text at h
    split at h
    · cases h
    · split at h
      · cases h; exact Nat.succ_le_succ (Nat.zero_le _)
      · split at h
        · split at h
          · cases h
          · next cs2 h2 =>
            cases h
            exact Nat.succ_le_succ (tx_text_len n _ _ _ h2)
        · cases h
section
variable {t : List (Nat × Nat)} {I I1 I2 : Nat → Nat → Int32} {J : Nat → Nat → Int64} {D : Nat → Nat → Option Nat}
set_option maxRecDepth 20000 in
theorem zf_ox_dx (f1 : zf zk_ox I I1) (h96 : I1 96 = I 96) : zf zk_dx I I1 := fun a k q => by
  by_cases e : a = 96
  · subst e; rw [h96]
  · refine f1 a k ?_
    cases hz : zk_ox a k with
    | false => rfl
    | true => rw [zk_ox_dx a k e hz] at q; cases q
set_option maxRecDepth 20000 in
theorem zk_ox_no (a k : Nat) (h : a = 119 ∨ a = 118 ∨ a = 114 ∨ a = 112 ∨ a = 133 ∨ a = 113 ∨ 138 < a ∨ (a = 0 ∧ k = 11)) : zk_ox a k = false := by
  cases hz : zk_ox a k with
  | false => rfl
  | true =>
    exfalso
    simp only [zk_ox, zk_dk, Bool.or_eq_true, Bool.and_eq_true, beq_iff_eq, decide_eq_true_eq] at hz
    omega
set_option maxRecDepth 20000 in
theorem CL_orders : CL (jx_SF_orders (some 0)) (jx_Mo_orders (some 112)) := by
  intro t I J D h
  have hI := h
  obtain ⟨L, l1, l2, l3⟩ := h.2.2.1
  obtain ⟨⟨l, hl, tn1, tn2⟩, hb⟩ := h.2.2.2.1
  obtain ⟨g1, g2, g3, g4, g5, g6, g7⟩ := h.ms
  have hC := h.1
  cases ht : tx_text (tkC (I 96) l) (tkV (I 96) l) true (tk_n (I 96) l) 12 0 0 with
  | inl f =>
    refine zp_wp_mono (cx_orders_bad (T := I 96) (fun i _ => rfl) (fun i hi => (hb i (by omega)).2) hl tn1 ht) ?_
    rintro r τ ⟨rfl, I1, rfl, f1, lo, r96, r95, r9, r10, a1⟩
    have hr : ∀ a, a = 119 ∨ a = 118 ∨ a = 114 ∨ a = 112 ∨ a = 133 ∨ a = 113 ∨ 138 < a → I1 a = I a := fun a ha => zf_row f1 (fun k => zk_ox_no a k (by omega))
    refine zp_wp_mono (mx_orders_bad (K := I 114) (T := I 96) (hr 114 (by omega)) (fun i hi => by rw [hr 119 (by omega)]; exact (hb i (by omega)).1) (fun i hi => (hb i (by omega)).2) (fun k hk => by rw [hr 118 (by omega)]; exact h.2.2.2.2.2.1 k hk) hl (by rw [hr 112 (by omega)]; exact tn2) ht) ?_
    rintro r τ ⟨rfl, I2, rfl, f2, e2, e133, e40, q13, q14, q43, a2⟩
    refine CL.fin ?_ rfl
    refine INV_mk (I1 := I1) (r := -Int32.ofNat 6) hI (zf_ox_dx f1 r96) (zr_cl_fr2 (fun a ha => ?_) hC) (cx_lg_fr (fun k _ => by rw [lo 20 (by decide) (by decide) (by decide)]) (fun a q1 q2 => lo a (by omega) (by omega) (by omega)) l1) a1 (zf_mono f2 zk_oy_dm) e2 ?_ a2 l3 (ar_neg 6 (by decide) (by decide)) ⟨0, by decide, r95, q13⟩ ?_ ?_ ?_
    · rcases ha with ha | ha
      · exact lo a (by omega) (by omega) (by omega)
      · exact hr a (by omega)
    · exact mx_lg_fr (by rw [e40, hr 112 (by omega)]) (by rw [e133, hr 133 (by omega)]) l2
    · rw [r9, q14]
    · rw [r10, q43]
    · rw [f1 0 11 (zk_ox_no 0 11 (by omega)), f2 112 6 rfl, hr 112 (by omega)]; exact g5
  | inr cs =>
    have hkt := tx_text_kt _ _ _ _ ht
    have hlen := tx_text_len _ _ _ _ ht
    have hC0 : zr_cl t I D (kO (I 114) (I 96) l) := zr_cl_kO hl hC
    have ok0 : od_ok (kO (I 114) (I 96) l) 0 (kO (I 114) (I 96) l, L, 0, -1) := ⟨hC0.2.1, l3, fun _ _ => rfl, ⟨0, by omega, rfl⟩, show (-1 : Int32) ≠ -2000000000 by decide⟩
    have okf := od_all_ok cs 0 0 _ hkt ok0
    refine zp_wp_mono (cx_orders_good (K := kO (I 114) (I 96) l) (T := I 96) hC0 l1 l3 (fun i _ => rfl) (fun i hi => (hb i (by omega)).2) hl tn1 ht) ?_
    rintro r τ ⟨I1, rfl, f1, r96, r95, r9, hN, hS⟩
    have hr : ∀ a, a = 119 ∨ a = 118 ∨ a = 114 ∨ a = 112 ∨ a = 133 ∨ a = 113 ∨ 138 < a → I1 a = I a := fun a ha => zf_row f1 (fun k => zk_ox_no a k (by omega))
    refine zp_wp_mono (mx_orders_good (K := I 114) (T := I 96) (L := L) (hr 114 (by omega)) (zr_cl_ml hC) (mx_lg_fr (by rw [hr 112 (by omega)]) (hr 133 (by omega)) l2) l3 (fun i hi => by rw [hr 119 (by omega)]; exact (hb i (by omega)).1) (fun i hi => (hb i (by omega)).2) (fun k hk => by rw [hr 118 (by omega)]; exact h.2.2.2.2.2.1 k hk) hl (by rw [hr 112 (by omega)]; exact tn2) ht) ?_
    rintro r' τ ⟨I2, J2, rfl, f2, q13, q14, hN2, hS2⟩
    have s11 : I1 0 11 = I2 112 6 := by
      rw [f1 0 11 (zk_ox_no 0 11 (by omega)), f2 112 6 rfl, hr 112 (by omega)]; exact g5
    cases hR : (od_all cs 0 (kO (I 114) (I 96) l, L, 0, -1)).1 with
    | none =>
      obtain ⟨er, r10, c1, k1, a1⟩ := hN hR
      obtain ⟨er', q43, e2, k2, a2⟩ := hN2 hR
      obtain ⟨z1, z2, z3, ⟨nn, hnn, z4⟩, z5⟩ := okf
      refine ⟨by rw [er, er'], [], I2, J2, D, by rw [List.append_nil], ?_, by decide, by decide⟩
      rw [List.append_nil]
      rw [er'] at a2
      rw [er] at a1
      exact INV_mk (I1 := I1) hI (zf_ox_dx f1 r96) c1 k1 a1 (zf_mono f2 zk_oy_dm) e2 k2 a2 z2 (Or.inl (by rw [z4]; exact zi_leL (a := 0) (by omega) (by omega))) ⟨0, by decide, r95, q13⟩ (by rw [r9, q14]) (by rw [r10, q43]) s11
    | some i =>
      obtain ⟨er, r10, c1, k1, a1⟩ := hS i hR
      obtain ⟨er', q43, e2, k2, a2⟩ := hS2 i hR
      refine ⟨by rw [er, er'], [], I2, J2, D, by rw [List.append_nil], ?_, by decide, by decide⟩
      rw [List.append_nil]
      rw [er'] at a2
      rw [er] at a1
      exact INV_mk (I1 := I1) hI (zf_ox_dx f1 r96) c1 k1 a1 (zf_mono f2 zk_oy_dm) e2 k2 a2 l3 (ar_neg 3 (by decide) (by decide)) ⟨0, by decide, r95, q13⟩ (by rw [r9, q14]) (by rw [r10, q43]) s11
end
