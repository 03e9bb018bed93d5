/-! orders: the model goes along a clause; its times, its test. -/
def zk_g1 (a k : Nat) : Bool := a == 112 && (k == 22 || k == 24 || k == 48)
def zk_g2 (a k : Nat) : Bool := a == 112 && (k == 22 || k == 24 || k == 45 || k == 48)
set_option maxRecDepth 20000 in
theorem zk_g1_g0 {I I' : Nat → Nat → Int32} (h : zf zk_g1 I I') : zf zk_g0 I I' := zf_mono h (fun a k e => by
  simp only [zk_g1, Bool.or_eq_true, Bool.and_eq_true, beq_iff_eq] at e
  simp only [zk_g0, Bool.or_eq_true, Bool.and_eq_true, beq_iff_eq, decide_eq_true_eq]
  omega)
set_option maxRecDepth 20000 in
theorem zk_g1_g2 {I I' : Nat → Nat → Int32} (h : zf zk_g1 I I') : zf zk_g2 I I' := zf_mono h (fun a k e => by
  simp only [zk_g1, Bool.or_eq_true, Bool.and_eq_true, beq_iff_eq] at e
  simp only [zk_g2, Bool.or_eq_true, Bool.and_eq_true, beq_iff_eq]
  omega)
set_option maxRecDepth 20000 in
theorem zk_g2_g0 {I I' : Nat → Nat → Int32} (h : zf zk_g2 I I') : zf zk_g0 I I' := zf_mono h (fun a k e => by
  simp only [zk_g2, Bool.or_eq_true, Bool.and_eq_true, beq_iff_eq] at e
  simp only [zk_g0, Bool.or_eq_true, Bool.and_eq_true, beq_iff_eq, decide_eq_true_eq]
  omega)
set_option maxRecDepth 20000 in
theorem zk_ev_g1 {I I' : Nat → Nat → Int32} (h : zf zk_ev I I') : zf zk_g1 I I' := zf_mono h (fun a k e => by
  simp only [zk_ev, Bool.or_eq_true, Bool.and_eq_true, beq_iff_eq] at e
  simp only [zk_g1, Bool.or_eq_true, Bool.and_eq_true, beq_iff_eq]
  omega)
section
variable {t : List (Nat × Nat)} {I : Nat → Nat → Int32} {J : Nat → Nat → Int64} {D : Nat → Nat → Option Nat} {K : Nat → Int32} {d l : Int32}
set_option maxRecDepth 20000 in
theorem mx_oEnd {p : Nat} (g22 : I 112 22 = Int32.ofNat (400 * 6 + p)) {v37 : Int32} (hv : ev_b v37) (hb : ev_b (I 112 24)) : zp_wp (
  sf_bnd (sf_pZ 11 48 (some 112) v37) fun _ =>
  sf_bnd (sf_gI 11 48 (some 112)) fun x38 =>
  sf_bnd (α := (Int32)) (
  sf_or (α := (Int32)) (β := (Unit)) (
  if x38 = 0 then (
  sf_ret (.inr ())
  ) else (
  sf_bnd (sf_gI 11 24 (some 112)) fun x40 =>
  if x40 = 0 then (
  sf_ret (.inl (1 : Int32))
  ) else (
  sf_ret (.inr ())
  )
  )
  ) (fun v42 =>
  sf_ret (0 : Int32)
  )
  ) (fun v43 =>
  sf_bnd (sf_pZ 11 48 (some 112) v43) fun _ =>
  sf_bnd (sf_gI 11 22 (some 112)) fun x44 =>
  sf_bnd (sf_pI 11 22 (some 112) (x44 + (1 : Int32))) fun _ =>
  sf_ret ()
  )) (fun _ τ => ∃ I2, τ = zp_Z t I2 J D ∧ zf zk_g1 I I2 ∧ I2 112 22 = Int32.ofNat (400 * 6 + (p + 1)) ∧ I2 112 48 = (if v37 = 1 ∧ I 112 24 = 0 then 1 else 0)) (zp_Z t I J D) := by
  have fin : ∀ u, u = (if v37 = 1 ∧ I 112 24 = 0 then (1 : Int32) else 0) → zp_wp (sf_bnd (sf_pZ 11 48 (some 112) u) fun _ =>
      sf_bnd (sf_gI 11 22 (some 112)) fun x44 =>
      sf_bnd (sf_pI 11 22 (some 112) (x44 + (1 : Int32))) fun _ =>
      sf_ret ()) (fun _ τ => ∃ I2, τ = zp_Z t I2 J D ∧ zf zk_g1 I I2 ∧ I2 112 22 = Int32.ofNat (400 * 6 + (p + 1)) ∧ I2 112 48 = (if v37 = 1 ∧ I 112 24 = 0 then 1 else 0)) (zp_Z t (sf_u2 I 112 48 v37) J D) := by
    intro u hu
    have hub : u = 0 ∨ u = 1 := by rw [hu]; split; exact Or.inr rfl; exact Or.inl rfl
    refine ss_pZ rfl hub ?_
    refine ss_gI rfl (show _ = Int32.ofNat (400 * 6 + p) by rw [zu_k (by decide), zu_k (by decide)]; exact g22) ?_
    refine ss_pI rfl ?_
    refine ss_ret ⟨_, rfl, zf_u2 (zf_u2 (zf_u2 (zf_refl _ _) rfl) rfl) rfl, ?_, ?_⟩
    · rw [zu_eq, zi_s]; rfl
    · rw [zu_k (by decide), zu_eq]; exact hu
  refine ss_pZ rfl hv ?_
  refine ss_gI rfl zu_eq ?_
  refine ss_bor ?_
  rcases hv with h0 | h1
  · refine ss_biT h0 (ss_bret (ss_bcr (ss_bret (fin 0 ?_))))
    rw [if_neg (fun h => by rw [h0] at h; exact absurd h.1 (by decide))]
  · refine ss_biF (by rw [h1]; decide) ?_
    refine ss_as ?_
    refine ss_gI rfl (zu_k (by decide)) ?_
    by_cases h24 : I 112 24 = 0
    · refine ss_biT h24 (ss_bret (ss_bcl (fin 1 ?_)))
      rw [if_pos ⟨h1, h24⟩]
    · refine ss_biF h24 (ss_bret (ss_bcr (ss_bret (fin 0 ?_))))
      rw [if_neg (fun h => h24 h.2)]
set_option maxRecDepth 20000 in
theorem mx_oIf (hv : zv K) (htx : zr_txt K 6 true) (hE : oE K d l I) {p l0 q l2 : Nat} {kind times : Int32} {xs ys : tx_L} {cl : tx_C} (hp : p ≤ kz K 6) (hl : l0 ≤ 50) (h : tx_if (kc K 6) (kv K 6) true kind times xs ys p l0 = .inr (q, l2, cl)) (h22 : I 112 22 = Int32.ofNat (400 * 6 + p)) {live : Int32} (hlv : ev_b live) : zp_wp (
  sf_bnd (sf_pI 11 24 (some 112) (0 : Int32)) fun _ =>
  sf_bnd (sf_rc 11 (some 112) (jx_Mo_passes0 (some 112) (3 : Int32))) fun x32 =>
  sf_bnd (α := (Int32)) (
  sf_or (α := (Int32)) (β := (Unit)) (
  if x32 = 0 then (
  sf_ret (.inr ())
  ) else (
  sf_bnd (sf_rc 11 (some 112) (jx_G5 sf_deep 0 (some 112) live)) fun x34 =>
  if x34 = 0 then (
  sf_ret (.inl (0 : Int32))
  ) else (
  sf_ret (.inr ())
  )
  )
  ) (fun v36 =>
  sf_ret (1 : Int32)
  )
  ) (fun v37 =>
  sf_bnd (sf_pZ 11 48 (some 112) v37) fun _ =>
  sf_bnd (sf_gI 11 48 (some 112)) fun x38 =>
  sf_bnd (α := (Int32)) (
  sf_or (α := (Int32)) (β := (Unit)) (
  if x38 = 0 then (
  sf_ret (.inr ())
  ) else (
  sf_bnd (sf_gI 11 24 (some 112)) fun x40 =>
  if x40 = 0 then (
  sf_ret (.inl (1 : Int32))
  ) else (
  sf_ret (.inr ())
  )
  )
  ) (fun v42 =>
  sf_ret (0 : Int32)
  )
  ) (fun v43 =>
  sf_bnd (sf_pZ 11 48 (some 112) v43) fun _ =>
  sf_bnd (sf_gI 11 22 (some 112)) fun x44 =>
  sf_bnd (sf_pI 11 22 (some 112) (x44 + (1 : Int32))) fun _ =>
  sf_ret ()
  )
  )) (fun _ τ => cl = (kind, times, xs, ys, cl.2.2.2.2) ∧ q ≤ kz K 6 ∧ l2 ≤ 50 ∧ p ≤ q ∧ ∃ I2, τ = zp_Z t I2 J D ∧ zf zk_g1 I I2 ∧ I2 112 22 = Int32.ofNat (400 * 6 + (q + 1)) ∧ (live = 1 → I2 112 48 = zb (tx_hold (ow K d l) cl))) (zp_Z t I J D) := by
  have hT := ev_testG (t := t) (J := J) (D := D) (Env := oE K d l) (w := ow K d l) (ord := true) (fun _ h => h.1) (fun _ _ h hf => oE_fr h (zk_ev_g0 hf)) (fun _ h => oE_w hv h) htx.2.2.1 htx.2.1 8 96 (by omega) (by omega)
  have hokT := tx_ok_test (c := kc K 6) (v := kv K 6) (ord := true) htx.2.2.1 kc_hc htx.2.1 8
  have f0 : zf zk_g1 I (sf_u2 I 112 24 0) := zf_u2 (zf_refl _ _) rfl
  have hE0 := oE_fr hE (zk_g1_g0 f0)
  have g0 : sf_u2 I 112 24 0 112 22 = Int32.ofNat (400 * 6 + p) := by rw [zu_k (by decide)]; exact h22
  have hz4 := htx.2.1
  unfold tx_if at h
  refine ss_pI rfl ?_
  refine ss_rc rfl ?_
  by_cases h3 : kc K 6 p = 3
  · rw [if_pos h3] at h
    have hlt := kc_lt (show kc K 6 p ≠ 0 by rw [h3]; decide)
    refine ss_call (em_passT hE0.1 (by omega) g0 h3) ?_
    cases hst : tx_test (kc K 6) (kv K 6) true 8 (p + 1) l0 with
    | inl f => rw [hst] at h; cases h
    | inr r0 =>
      rw [hst] at h
      obtain ⟨a1, a2, a3, a4, a5, a6, a7, a8⟩ := hokT.r (show p + 1 ≤ kz K 6 by omega) hl hst
      cases h
      have f1 : zf zk_g1 I (sf_u2 (sf_u2 I 112 24 0) 112 22 (Int32.ofNat (400 * 6 + (p + 1)))) := zf_u2 f0 rfl
      refine ss_bor ?_
      refine ss_biF (by decide) ?_
      refine ss_as ?_
      refine ss_rc rfl ?_
      refine zp_wp_call (hT (p + 1) l0 r0 (by omega) hl hst live _ hlv (by rw [zu_k (by decide), zu_eq]; exact Or.inl rfl) (oE_fr hE (zk_g1_g0 f1)) zu_eq) ?_
      rintro v τ ⟨I2, rfl, f2, g2, b2, e2⟩
      rw [zu_k (show (24 : Nat) ≠ 22 by decide), zu_eq] at e2
      have F2 : zf zk_g1 I I2 := zf_trans f1 (zk_ev_g1 f2)
      obtain ⟨hvb, e2⟩ := e2
      have hhold : live = 1 → ((if v = 1 ∧ I2 112 24 = 0 then (1 : Int32) else 0) = zb (tx_hold (ow K d l) (kind, times, xs, ys, r0.2.2))) := by
        intro hl1
        rw [if_pos ⟨hl1, rfl⟩] at e2
        unfold tx_hold
        show _ = zb (decide (tx_dn (ow K d l) r0.2.2 = some 1))
        rw [tx_dn_den a4]
        cases hd : tx_den (ow K d l) r0.2.2 with
        | none =>
          rw [hd] at e2
          rw [if_neg (by rintro ⟨-, e⟩; rw [show I2 112 24 = 1 from e2] at e; exact absurd e (by decide))]; rfl
        | some r =>
          rw [hd] at e2
          obtain ⟨q1, q2⟩ := e2
          by_cases hr : r = 1
          · rw [if_pos ⟨by rw [q1, decide_eq_true hr]; rfl, q2⟩, decide_eq_true (by rw [hr])]; rfl
          · rw [if_neg (by rintro ⟨e, -⟩; rw [q1, decide_eq_false hr] at e; exact absurd e (by decide)), decide_eq_false (by intro e; cases e; exact hr rfl)]; rfl
      have fin : ∀ u, u = v → zp_wp (
          sf_bnd (sf_pZ 11 48 (some 112) u) fun _ =>
          sf_bnd (sf_gI 11 48 (some 112)) fun x38 =>
          sf_bnd (α := (Int32)) (
          sf_or (α := (Int32)) (β := (Unit)) (
          if x38 = 0 then (
          sf_ret (.inr ())
          ) else (
          sf_bnd (sf_gI 11 24 (some 112)) fun x40 =>
          if x40 = 0 then (
          sf_ret (.inl (1 : Int32))
          ) else (
          sf_ret (.inr ())
          )
          )
          ) (fun v42 =>
          sf_ret (0 : Int32)
          )
          ) (fun v43 =>
          sf_bnd (sf_pZ 11 48 (some 112) v43) fun _ =>
          sf_bnd (sf_gI 11 22 (some 112)) fun x44 =>
          sf_bnd (sf_pI 11 22 (some 112) (x44 + (1 : Int32))) fun _ =>
          sf_ret ()
          )) (fun _ τ => (kind, times, xs, ys, r0.2.2) = (kind, times, xs, ys, r0.2.2) ∧ r0.1 ≤ kz K 6 ∧ r0.2.1 ≤ 50 ∧ p ≤ r0.1 ∧ ∃ I2, τ = zp_Z t I2 J D ∧ zf zk_g1 I I2 ∧ I2 112 22 = Int32.ofNat (400 * 6 + (r0.1 + 1)) ∧ (live = 1 → I2 112 48 = zb (tx_hold (ow K d l) (kind, times, xs, ys, r0.2.2)))) (zp_Z t I2 J D) := by
        intro u hu
        subst hu
        refine zp_wp_mono (mx_oEnd g2 hvb b2) ?_
        rintro _ τ ⟨I3, rfl, f3, g3, h48⟩
        exact ⟨rfl, a2, a6, by omega, I3, rfl, zf_trans F2 f3, g3, fun hl1 => by rw [h48]; exact hhold hl1⟩
      rcases hvb with h0 | h1
      · exact ss_biT h0 (ss_bret (ss_bcl (fin 0 h0.symm)))
      · exact ss_biF (by rw [h1]; decide) (ss_bret (ss_bcr (ss_bret (fin 1 h1.symm))))
  · rw [if_neg h3] at h
    cases h
    refine ss_call (em_passF hE0.1 (by omega) g0 h3) ?_
    refine ss_bor ?_
    refine ss_biT rfl (ss_bret (ss_bcr (ss_bret ?_)))
    refine zp_wp_mono (mx_oEnd (v37 := 1) g0 (Or.inr rfl) (by rw [zu_eq]; exact Or.inl rfl)) ?_
    rintro _ τ ⟨I3, rfl, f3, g3, h48⟩
    refine ⟨rfl, hp, hl, Nat.le_refl _, I3, rfl, zf_trans f0 f3, g3, fun _ => ?_⟩
    rw [h48, zu_eq, if_pos ⟨rfl, rfl⟩]
    rfl
end
