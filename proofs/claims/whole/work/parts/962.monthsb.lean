/-! months: both. -/
set_option maxRecDepth 20000 in
theorem zp_bnd_ret {α : Type} (f : sf_M α) : sf_bnd f (fun e => sf_ret e) = f := by
  funext σ
  unfold sf_bnd sf_ret
  cases f σ with
  | none => rfl
  | some x => rfl
def zk_d2 (a k : Nat) : Bool := zk_dx a k || a == 110 || (a == 0 && k == 8)
def zk_e2 (a k : Nat) : Bool := zk_dm a k || a == 138 || (a == 112 && k == 51)
section
variable {t : List (Nat × Nat)} {I I1 I2 : Nat → Nat → Int32} {J : Nat → Nat → Int64} {D : Nat → Nat → Option Nat} {K K' : Nat → Int32} {L L' : lg_L} {r : Int32}
set_option maxRecDepth 20000 in
theorem INV_mk2 (h : INV t I D) (f1 : zf zk_d2 I I1) (c1 : zr_cl t I1 D K') (l1 : cx_lg 20 I1 L') (a1 : an_at 0 12 108 I I1 r) (f2 : zf zk_e2 I1 I2) (e2 : I2 114 = K') (l2 : mx_lg I2 L') (a2 : an_at 112 0 113 I1 I2 r) (ok : lg_ok L') (hr : ar_ok r)
    (ht : ∃ n, n ≤ 400 ∧ I1 95 1 = Int32.ofNat n ∧ I2 112 13 = Int32.ofNat n) (s9 : I1 0 9 = I2 112 14) (s10 : I1 0 10 = I2 112 43) (s11 : I1 0 11 = I2 112 6) (s8 : I1 0 8 = I2 112 51) (s110 : ∀ k, k < 4 → I1 110 k = I2 138 k) : INV t I2 D := by
  obtain ⟨h1, h2, h3, h4, ⟨g1, g2, g3, g4, g5, g6, g7⟩, h6, h7, h8, h9⟩ := h
  have row : ∀ a, (∀ k, zk_d2 a k = false) → (∀ k, zk_e2 a k = false) → I2 a = I a := fun a q1 q2 => (zf_row f2 q2).trans (zf_row f1 q1)
  have h138 : ∀ a, 138 < a → I2 a = I a := fun a ha => row a (fun k => by simp [zk_d2, zk_dx, zk_sc]; omega) (fun k => by simp [zk_e2, zk_dm, zk_sc]; omega)
  have h138' : ∀ a, 138 < a → I2 a = I1 a := fun a ha => zf_row f2 (fun k => by simp [zk_e2, zk_dm, zk_sc]; omega)
  refine ⟨?_, h2, ⟨L', ?_, l2, ok⟩, ?_, ?_, ?_, ?_, ?_, h9⟩
  · rw [e2]
    exact zr_cl_fr2 (fun a ha => ha.elim (fun ha => zf_row f2 (fun k => by simp [zk_e2, zk_dm, zk_sc]; omega)) (h138' a)) c1
  · exact cx_lg_fr (fun k hk => f2 20 k rfl) (fun a ha1 ha2 => zf_row f2 (fun k => by simp [zk_e2, zk_dm, zk_sc]; omega)) l1
  · refine ⟨?_, fun k hk => ?_⟩
    · obtain ⟨n, hn, n1, n2⟩ := ht
      exact ⟨n, hn, by rw [f2 95 1 rfl]; exact n1, n2⟩
    · rw [row 119 (fun k => rfl) (fun k => rfl), row 96 (fun k => rfl) (fun k => rfl)]; exact h4.2 k hk
  · have e12 : I2 0 12 = I1 0 12 := f2 0 12 rfl
    have e108 : ∀ k, I2 108 k = I1 108 k := fun k => f2 108 k rfl
    have e113 : ∀ k, I1 113 k = I 113 k := fun k => f1 113 k rfl
    have hst : I2 0 12 = I2 112 0 ∧ ∀ k, k < 7 → I2 108 k = I2 113 k := by
      rcases hr with q | ⟨j, j0, j7, q⟩
      · obtain ⟨p1, p2⟩ := a1.1 q
        obtain ⟨p3, p4⟩ := a2.1 q
        exact ⟨by rw [e12, p1, p3], fun k hk => by rw [e108, p2 k hk, p4 k hk, e113, g2 k hk]⟩
      · obtain ⟨p1, p2⟩ := a1.2 j j0 j7 q
        obtain ⟨p3, p4⟩ := a2.2 j j0 j7 q
        exact ⟨by rw [e12, p1, p3], fun k hk => by rw [e108, p2 k hk, p4 k hk, e113, g2 k hk]⟩
    refine ⟨hst.1, hst.2, ?_, ?_, ?_, ?_, fun k hk => ?_⟩
    · rw [f2 0 9 rfl]; exact s9
    · rw [f2 0 10 rfl]; exact s10
    · rw [f2 0 11 rfl]; exact s11
    · rw [f2 0 8 rfl]; exact s8
    · rw [f2 110 k rfl]; exact s110 k hk
  · intro k hk; rw [f2 118 k rfl, f1 118 k rfl]; exact h6 k hk
  · exact im_fr (row 115 (fun k => rfl) (fun k => rfl)) (row 116 (fun k => rfl) (fun k => rfl)) h138 h7
  · exact im_fr (row 115 (fun k => rfl) (fun k => rfl)) (row 116 (fun k => rfl) (fun k => rfl)) h138 h8
set_option maxRecDepth 20000 in
theorem INV_ref (h : INV t I D) {j : Nat} (j0 : 0 < j) (j7 : j < 7) (e1 : I1 = sf_u2 (sf_u2 I 0 12 (-Int32.ofNat j)) 108 j (I 108 j + 1)) : INV t (sf_u2 (sf_u2 I1 112 0 (-Int32.ofNat j)) 113 j (I1 113 j + 1)) D := by
  obtain ⟨L, l1, l2, l3⟩ := h.2.2.1
  obtain ⟨⟨n, hn, n1, n2⟩, hb⟩ := h.2.2.2.1
  obtain ⟨g1, g2, g3, g4, g5, g6, g7⟩ := h.ms
  have f1 : zf zk_st I I1 := by subst e1; exact zf_u2 (zf_u2 (zf_refl _ _) rfl) rfl
  have a1 : an_at 0 12 108 I I1 (-Int32.ofNat j) := by subst e1; exact an_ref 0 12 108 (by decide) j0 j7
  refine INV_mk (I1 := I1) (r := -Int32.ofNat j) h (zf_mono (zf_mono f1 zk_st_ex) zk_ex_dx) (zr_cl_st h.1 f1) (cx_lg_st l1 f1) a1 (zf_u2 (zf_u2 (zf_refl _ _) rfl) rfl) ?_ ?_ (an_ref 112 0 113 (by decide) j0 j7) l3 (ar_neg j j0 j7) ⟨n, hn, ?_, ?_⟩ ?_ ?_ ?_
  · rw [zu_r (by decide), zu_r (by decide)]; exact zf_row f1 (fun k => rfl)
  · exact mx_lg_fr (by rw [zu_a (by decide), zu_k (by decide)]; exact f1 112 40 rfl) (by rw [zu_r (by decide), zu_r (by decide)]; exact zf_row f1 (fun k => rfl)) l2
  · rw [f1 95 1 rfl]; exact n1
  · rw [zu_a (by decide), zu_k (by decide), f1 112 13 rfl]; exact n2
  · rw [zu_a (by decide), zu_k (by decide), f1 0 9 rfl, f1 112 14 rfl]; exact g3
  · rw [zu_a (by decide), zu_k (by decide), f1 0 10 rfl, f1 112 43 rfl]; exact g4
  · rw [zu_a (by decide), zu_k (by decide), f1 0 11 rfl, f1 112 6 rfl]; exact g5
set_option maxRecDepth 20000 in
theorem moF_ok : ∀ (n : Nat) (K : Nat → Int32) (L : lg_L) (x a : Nat), zv K → zv (moF n K L x a).1 ∧ (∀ i, 195 ≤ i → (moF n K L x a).1 i = K i) ∧ (moF n K L x a).2.2 ≤ a + 7 * n
  | 0, K, L, x, a, hv => ⟨hv, fun i _ => rfl, by show a ≤ a + 7 * 0; omega⟩
  | n + 1, K, L, x, a, hv => by
    unfold moF
    split
    · exact ⟨hv, fun i _ => rfl, by show a ≤ _; omega⟩
    · obtain ⟨-, -, d3, d4⟩ := DO_mo x K L hv
      obtain ⟨h1, h2, h3⟩ := moF_ok n _ (mo_do x K L).2.2 (dr (dr (dr x))) (a + mo_gain x (mo_do x K L).1) d3
      have := mo_gain_le (L := L) hv x
      exact ⟨h1, fun i hi => by rw [h2 i hi, d4 i hi], by omega⟩
set_option maxRecDepth 20000 in
theorem mx_moL (hK : I 114 = K) (hM : zr_ml K) {m : Nat} (hm : K 227 = Int32.ofNat m) (hm0 : 0 < m) (hm6 : m ≤ 6) {x n : Nat} (hx : x ≤ 1000002) (hn : n ≤ 60) (h52 : I 112 52 = Int32.ofNat x) (L : lg_L) : zp_wp (sf_loop (β := (Int32 × Int32)) (γ := (Int32)) (fun b10 =>
  if Int32.ofNat n ≤ b10.2 then (
  sf_ret (.inr b10.1)
  ) else (
  sf_bnd (sf_gR 11 2 (some 112)) fun x12 =>
  sf_bnd (sf_aI 0 x12 (194 : Int32)) fun x13 =>
  if (999 : Int32) ≤ x13 then (
  sf_ret (.inr b10.1)
  ) else (
  sf_bnd (sf_rc 11 (some 112) (jx_Mo_drawnAct (some 112))) fun x15 =>
  sf_bnd (sf_ret ((b10.1 + x15))) fun y16 =>
  sf_bnd (sf_ret (b10.2 + (1 : Int32))) fun y17 =>
  sf_ret (.inl (y16, y17))
  )
  )
  ) sf_fuel ((0 : Int32), (0 : Int32))) (fun r τ => r = Int32.ofNat (moF n K L x 0).2.2 ∧ ∃ I', τ = zp_Z t I' J D ∧ zf zk_mo I I' ∧ I' 114 = (moF n K L x 0).1) (zp_Z t I J D) := by
  rw [← zp_bnd_ret (sf_loop _ _ _)]
  refine zl_g (fun i (s : Nat) => (Int32.ofNat s, Int32.ofNat i)) 0 n (s0 := 0) rfl (by omega) (by omega)
    (fun i s I' => ∃ Ki Li y, zf zk_mo I I' ∧ I' 114 = Ki ∧ zr_ml Ki ∧ I' 112 52 = Int32.ofNat y ∧ moF n K L x 0 = moF (n - i) Ki Li y s ∧ y ≤ 1000002 ∧ Ki 227 = Int32.ofNat m) ⟨K, L, x, zf_refl _ _, hK, hM, h52, rfl, hx, hm⟩ ?step ?fin
  case step =>
    rintro i a I' - hi ⟨Ki, Li, y, f1, k1, m1, q52, e1, hy, hk⟩
    have n1 : ¬ Int32.ofNat n ≤ Int32.ofNat i := zi_nle hi (by omega)
    have k194 : I' 114 194 = Ki 194 := by rw [k1]
    have hs : n - i = (n - (i + 1)) + 1 := by omega
    refine ss_iF n1 ?_
    refine ss_pt rfl rfl ?_
    refine ss_aI rfl rfl (by decide) (by decide) k194 ?_
    by_cases h9 : 999 ≤ Ki 194
    · have e2 : moF n K L x 0 = (Ki, Li, a) := by
        rw [e1, hs]
        show (if _ then _ else _) = _
        rw [if_pos h9]
      refine ss_iT h9 ?_
      refine ss_ret (Or.inr ⟨_, rfl, ss_ret ?_⟩)
      rw [e2]
      exact ⟨rfl, I', rfl, f1, k1⟩
    · have e2 : moF n K L x 0 = moF (n - (i + 1)) (mo_do y Ki Li).2.1 (mo_do y Ki Li).2.2 (dr (dr (dr y))) (a + mo_gain y (mo_do y Ki Li).1) := by
        rw [e1, hs]
        show (if _ then _ else _) = _
        rw [if_neg h9]
      obtain ⟨-, -, d3, d4⟩ := DO_mo y Ki Li m1.1
      refine ss_iF h9 ?_
      refine ss_rc rfl ?_
      refine zp_wp_call (mx_drawnAct k1 m1 hk hm0 hm6 hy q52 h9 Li) ?_
      rintro r τ ⟨rfl, I2, rfl, f2, k2, p52⟩
      refine ss_bret ?_
      refine ss_bret ?_
      refine ss_ret (Or.inl ⟨a + mo_gain y (mo_do y Ki Li).1, I2, ?_, rfl, _, _, _, zf_trans f1 f2, k2, zr_ml_w m1 (fun k hk => d4 k (by omega)) (d4 229 (by omega)) d3, p52, e2, dr_le _, by rw [d4 227 (by omega)]; exact hk⟩)
      show Sum.inl (Int32.ofNat a + Int32.ofNat _, Int32.ofNat i + 1) = _
      rw [zi_add, zi_s]
  case fin =>
    rintro a I' ⟨Ki, Li, y, f1, k1, m1, q52, e1, hy, hk⟩
    have n1 : Int32.ofNat n ≤ Int32.ofNat n := Int32.le_refl _
    have e2 : moF n K L x 0 = (Ki, Li, a) := by rw [e1, Nat.sub_self]; rfl
    refine ss_iT n1 ?_
    refine ss_ret ⟨_, rfl, ss_ret ?_⟩
    rw [e2]
    exact ⟨rfl, I', rfl, f1, k1⟩
end
