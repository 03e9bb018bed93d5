/-! image: the class. -/
set_option maxRecDepth 20000 in
theorem pt_107 (c : Nat) : zp_pt 107 c = none := by
  rfl
section
variable {t : List (Nat × Nat)} {I : Nat → Nat → Int32} {J : Nat → Nat → Int64} {D : Nat → Nat → Option Nat} {K : Nat → Int32}
set_option maxRecDepth 20000 in
theorem INV.im (h : INV t I D) {c : Nat} (hc : c < 2) : im_ok t I D c := by
  have : c = 0 ∨ c = 1 := by omega
  rcases this with rfl | rfl
  · exact h.2.2.2.2.2.2.1
  · exact h.2.2.2.2.2.2.2.1
set_option maxRecDepth 20000 in
theorem INV.ne (h : INV t I D) {c d o o' : Nat} (hc : c < 2) (hd : d < 2) (hcd : d ≠ c) (h1 : D 107 c = some o) (h2 : D 107 d = some o') : o' ≠ o := by
  intro e
  subst e
  have : (c = 0 ∧ d = 1) ∨ (c = 1 ∧ d = 0) := by omega
  rcases this with ⟨rfl, rfl⟩ | ⟨rfl, rfl⟩
  · exact h.2.2.2.2.2.2.2.2 _ h1 h2
  · exact h.2.2.2.2.2.2.2.2 _ h2 h1
set_option maxRecDepth 20000 in
theorem cx_image_tail (hO : zr_off I 2 K) (hl : lw_ok t D 8) {o : Nat} (hs : of_sh t D o) : zp_wp (sf_bnd (sf_gR 0 0 (some 0)) fun x12 =>
  sf_bnd (sf_gR 1 0 x12) fun x13 =>
  sf_bnd (sf_rc 4 (some o) (jx_Office_copyFrom (some o) x13)) fun _ =>
  sf_bnd (sf_rc 0 (some 0) (jx_SF_accepted (some 0) (0 : Int32))) fun x15 =>
  sf_ret (.inl x15 : Int32 ⊕ Unit)) (fun r τ => r = .inl 0 ∧ ∃ I' D', τ = zp_Z t I' J D' ∧ (∀ x k, zk_of o x k = false → zk_st x k = false → I' x k = I x k) ∧ (∀ x k, ¬ (x = o + 6 ∧ k < 6) → D' x k = D x k) ∧ (∀ n, n < 6 → D' (o + 6) n = D 8 n) ∧ zr_off I' o K ∧ an_at 0 12 108 I I' 0) (zp_Z t I J D) := by
  have h138 : 138 < o := hs.1
  refine ss_pt rfl rfl ?_
  refine ss_pt rfl rfl ?_
  refine ss_rc hs.2.1 ?_
  refine zp_wp_call (cx_copyO of_is_2 (of_is_sh hs) (by omega) hO hl) ?_
  rintro _ τ ⟨I1, D1, rfl, f1, r1, d1, d2⟩
  refine ss_rc rfl ?_
  refine ss_call (cx_accepted _) ?_
  refine ss_ret ⟨rfl, _, _, rfl, fun x k q1 q2 => ?_, d1, d2, ?_, an_l (I := I1) (fun k => ?_) (an_acc 0 12 108 (by decide) (by decide))⟩
  · have : ¬ (x = 0 ∧ k = 12) := by
      rintro ⟨rfl, rfl⟩; cases q2
    rw [show sf_u2 I1 0 12 0 x k = I1 x k by
      by_cases e : x = 0
      · subst e; exact zu_k (by omega)
      · exact zu_a e]
    exact f1 x k q1
  · exact zr_off_fr (fun a h1 h2 => zu_r (by omega)) r1
  · exact (f1 108 k (by simp [zk_of]; omega)).symm
set_option maxRecDepth 20000 in
theorem cx_image_good (h : INV t I D) {c : Nat} (hc : c < 2) : zp_wp (jx_SF_image (some 0) (Int32.ofNat c)) (fun r τ => r = 0 ∧ ∃ ex I' J' D' o, τ = zp_Z (t ++ ex) I' J' D' ∧ (ex = [] ∨ ex = of12) ∧ of_sh (t ++ ex) D' o ∧ D' 107 c = some o ∧ (∀ d o', d < 2 → d ≠ c → D 107 d = some o' → o' ≠ o) ∧ (∀ x k, x < 139 + t.length → zk_of o x k = false → zk_st x k = false → I' x k = I x k) ∧ (∀ x k, x < 139 + t.length → ¬ (x = o + 6 ∧ k < 6) → ¬ (x = 107 ∧ k = c) → D' x k = D x k) ∧ (∀ n, n < 6 → D' (o + 6) n = D 8 n) ∧ zr_off I' o (I 114) ∧ an_at 0 12 108 I I' 0) (zp_Z t I J D) := by
  have hC := h.1
  have c1 : ¬ Int32.ofNat c < 0 := by
    have := zi_nlt (a := c) (b := 0) (by omega) (by omega)
    exact this
  have c2 : Int32.ofNat c < 2 := zi_ltL (b := 2) hc (by omega)
  unfold jx_SF_image
  refine ss_or ?_
  refine ss_biF c1 ?_
  refine ss_biT c2 ?_
  refine ss_as ?_
  refine ss_pt rfl rfl ?_
  refine ss_as ?_
  rcases h.im hc with ⟨e1, -⟩ | ⟨o, e1, -, e3, -, -, -, -⟩
  · have hv : zp_rfs D 107 c = none := by unfold zp_rfs; rw [pt_107]; exact e1
    refine ss_aR (n := 2) (m := c) rfl rfl hc (by decide) hv ?_
    refine ss_as ?_
    refine ss_biT rfl ?_
    refine ss_as ?_
    simp only [zp_bnd_as]
    refine cx_newOff (fun I1 J1 D1 h1 d1 hs => ?_)
    refine ss_pt rfl rfl ?_
    have hix : sf_ix (Int32.ofNat c) = c := zi_ixn (by omega)
    rw [pz_sR (ty := 5) (ci := 4) (a := 107) (n := 2) (N := 14) rfl (zi_in hc (by omega)) (by rw [hix]; exact pt_107 c) hs.2.1, hix]
    refine ss_bret ?_
    have hs2 : of_sh (t ++ of12) (sf_u2 D1 107 c (some (139 + t.length))) (139 + t.length) := by
      obtain ⟨s0, s1, s2, s3, s4, s5, s6, s7, s8, s9, q1, q2, q3, q4, q5, q6, q7, q8⟩ := hs
      exact ⟨s0, s1, s2, s3, s4, s5, s6, s7, s8, s9, by rw [zu_a (by omega)]; exact q1, by rw [zu_a (by omega)]; exact q2, by rw [zu_a (by omega)]; exact q3, by rw [zu_a (by omega)]; exact q4, by rw [zu_a (by omega)]; exact q5, by rw [zu_a (by omega)]; exact q6, by rw [zu_a (by omega)]; exact q7, by rw [zu_a (by omega)]; exact q8⟩
    have hl2 : lw_ok (t ++ of12) (sf_u2 D1 107 c (some (139 + t.length))) 8 := lw_mono (fun n hn => by rw [zu_a (by decide)]; exact d1 8 n (by omega)) h.2.1
    have hO2 : zr_off I1 2 (I 114) := zr_off_fr (fun a q1 q2 => h1 a (by omega)) hC.1
    have tail := cx_image_tail (t := t ++ of12) (J := J1) hO2 hl2 hs2
    simp only [← zp_bnd_as]
    simp only [← zp_bnd_as] at tail
    refine zp_wp_call tail ?_
    rintro r τ ⟨rfl, I2, D2, rfl, f2, dd1, dd2, r2, a2⟩
    refine ss_cl ⟨rfl, of12, I2, J1, D2, _, rfl, Or.inr rfl, ?_, ?_, ?_, ?_, ?_, ?_, r2, an_l (I := I1) (fun k => ?_) a2⟩
    · obtain ⟨s0, s1, s2, s3, s4, s5, s6, s7, s8, s9, q1, q2, q3, q4, q5, q6, q7, q8⟩ := hs2
      exact ⟨s0, s1, s2, s3, s4, s5, s6, s7, s8, s9, by rw [dd1 _ _ (by omega)]; exact q1, by rw [dd1 _ _ (by omega)]; exact q2, by rw [dd1 _ _ (by omega)]; exact q3, by rw [dd1 _ _ (by omega)]; exact q4, by rw [dd1 _ _ (by omega)]; exact q5, by rw [dd1 _ _ (by omega)]; exact q6, by rw [dd1 _ _ (by omega)]; exact q7, by rw [dd1 _ _ (by omega)]; exact q8⟩
    · rw [dd1 _ _ (by omega)]; exact zu_eq
    · intro d o' hd hdc hq e
      rcases h.im hd with ⟨e1, -⟩ | ⟨o2, e1, -, e3, -, -, -, -⟩
      · rw [e1] at hq; cases hq
      · rw [e1] at hq; cases hq
        have := sh_lt e3.2.1 (by decide)
        omega
    · intro x k hx q1 q2
      rw [f2 x k q1 q2, h1 x hx]
    · intro x k hx q1 q2
      rw [dd1 x k q1]
      by_cases e : x = 107
      · subst e; rw [zu_k (fun e => q2 ⟨rfl, e⟩)]; exact d1 _ _ hx
      · rw [zu_a e]; exact d1 _ _ hx
    · intro n hn
      rw [dd2 n hn, zu_a (by decide)]; exact d1 8 n (by omega)
    · rw [h1 108 (by omega)]
  · have hv : zp_rfs D 107 c = some o := by unfold zp_rfs; rw [pt_107]; exact e1
    refine ss_aR (n := 2) (m := c) rfl rfl hc (by decide) hv ?_
    refine ss_as ?_
    refine ss_biF (by simp) ?_
    refine ss_bret ?_
    have tail := cx_image_tail (t := t) (J := J) hC.1 h.2.1 e3
    refine zp_wp_call tail ?_
    rintro r τ ⟨rfl, I2, D2, rfl, f2, dd1, dd2, r2, a2⟩
    refine ss_cl ⟨rfl, [], I2, J, D2, o, by rw [List.append_nil], Or.inl rfl, ?_, ?_, ?_, fun x k _ => f2 x k, fun x k _ q1 _ => dd1 x k q1, dd2, r2, a2⟩
    · rw [List.append_nil]
      obtain ⟨s0, s1, s2, s3, s4, s5, s6, s7, s8, s9, q1, q2, q3, q4, q5, q6, q7, q8⟩ := e3
      exact ⟨s0, s1, s2, s3, s4, s5, s6, s7, s8, s9, by rw [dd1 _ _ (by omega)]; exact q1, by rw [dd1 _ _ (by omega)]; exact q2, by rw [dd1 _ _ (by omega)]; exact q3, by rw [dd1 _ _ (by omega)]; exact q4, by rw [dd1 _ _ (by omega)]; exact q5, by rw [dd1 _ _ (by omega)]; exact q6, by rw [dd1 _ _ (by omega)]; exact q7, by rw [dd1 _ _ (by omega)]; exact q8⟩
    · have := e3.1
      rw [dd1 _ _ (by omega)]; exact e1
    · intro d o' hd hdc hq
      exact h.ne hc hd hdc e1 hq
end
