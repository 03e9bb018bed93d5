/-! law: the model. -/
section
variable {t : List (Nat × Nat)} {I : Nat → Nat → Int32} {J : Nat → Nat → Int64} {D : Nat → Nat → Option Nat} {K : Nat → Int32} {T : Nat → Int32} {l n : Nat}
def zk_lw (a k : Nat) : Bool := zk_ra a k || a == 113 || a == 114 || (a == 112 && k == 0)
set_option maxRecDepth 20000 in
theorem zk_ra_lw (a k : Nat) (h : zk_ra a k = true) : zk_lw a k = true := by unfold zk_lw; rw [h]; rfl
set_option maxRecDepth 20000 in
theorem mx_law_full (hK : I 114 = K) (h9 : K 229 = 6) : zp_wp (jx_Mo_law (some 112)) (fun r τ => r = -Int32.ofNat 5 ∧ τ = zp_Z t (sf_u2 (sf_u2 (sf_u2 I 112 13 0) 112 0 (-Int32.ofNat 5)) 113 5 (I 113 5 + 1)) J D) (zp_Z t I J D) := by
  have k229 : I 114 229 = 6 := by rw [hK]; exact h9
  unfold jx_Mo_law
  refine ss_pt rfl rfl ?_
  refine ss_aI rfl rfl (by decide) (by decide) k229 ?_
  refine ss_iT rfl ?_
  refine ss_pI rfl ?_
  refine ss_rc rfl ?_
  refine ss_call (mx_refuses (j := 5) (by decide) (by decide)) ?_
  exact ss_ret ⟨rfl, by rw [zu_a (by decide)]⟩
set_option maxRecDepth 20000 in
theorem mx_law_bad (hK : I 114 = K) (h9 : K 229 = Int32.ofNat n) (hn : n < 6) (hT : ∀ i, i < l → I 119 i = sf_nw 2 (T i)) (hb : ∀ i, i < l → 0 ≤ T i ∧ T i ≤ 255) (hw : zr_wb I) (hl : l ≤ 400) (h13 : I 112 13 = Int32.ofNat l) {f : Nat} (ht : tx_text (tkC T l) (tkV T l) false (tk_n T l) 12 0 0 = .inl f) : zp_wp (jx_Mo_law (some 112)) (fun r τ => r = -Int32.ofNat 6 ∧ ∃ I', τ = zp_Z t I' J D ∧ zf zk_lw I I' ∧ I' 114 = K ∧ I' 112 13 = 0 ∧ I' 112 14 = Int32.ofNat (tkS T l f) ∧ an_at 112 0 113 I I' (-Int32.ofNat 6)) (zp_Z t I J D) := by
  have k229 : I 114 229 = Int32.ofNat n := by rw [hK]; exact h9
  unfold jx_Mo_law
  refine ss_pt rfl rfl ?_
  refine ss_aI rfl rfl (by decide) (by decide) k229 ?_
  refine ss_iF (zi_ne (b := 6) (by omega) (by omega) (by omega)) ?_
  refine ss_rc rfl ?_
  refine zp_wp_call (mx_readsAs (ord := false) hT hb hw hl h13) ?_
  rintro x τ ⟨I1, rfl, f1, r13, rsp, hm⟩
  rw [ht] at hm
  obtain ⟨rfl, r14, -⟩ := hm
  refine ss_iT rfl ?_
  refine ss_rc rfl ?_
  refine ss_call (mx_refuses (j := 6) (by decide) (by decide)) ?_
  refine ss_ret ⟨rfl, _, rfl, zf_u2 (zf_u2 (zf_mono f1 zk_ra_lw) rfl) rfl, ?_, ?_, ?_, an_l (I := I1) (fun k => (f1 113 k rfl).symm) (an_ref 112 0 113 (by decide) (by decide) (by decide))⟩
  · rw [zu_r (by decide), zu_r (by decide), zf_row f1 (fun k => rfl)]; exact hK
  · rw [zu_a (by decide), zu_k (by decide)]; exact r13
  · rw [zu_a (by decide), zu_k (by decide)]; exact r14
set_option maxRecDepth 20000 in
theorem mx_law_good (hK : I 114 = K) (h9 : K 229 = Int32.ofNat n) (hn : n < 6) (hT : ∀ i, i < l → I 119 i = sf_nw 2 (T i)) (hb : ∀ i, i < l → 0 ≤ T i ∧ T i ≤ 255) (hw : zr_wb I) (hl : l ≤ 400) (h13 : I 112 13 = Int32.ofNat l) {cs : List tx_C} (ht : tx_text (tkC T l) (tkV T l) false (tk_n T l) 12 0 0 = .inr cs) : zp_wp (jx_Mo_law (some 112)) (fun r τ => r = Int32.ofNat n ∧ ∃ I', τ = zp_Z t I' J D ∧ zf zk_lw I I' ∧ I' 114 = kN K n (tk_n T l) T l ∧ I' 112 13 = 0 ∧ I' 112 14 = -1 ∧ an_at 112 0 113 I I' (Int32.ofNat n)) (zp_Z t I J D) := by
  have k229 : I 114 229 = Int32.ofNat n := by rw [hK]; exact h9
  have h4 : tk_n T l ≤ 400 := by have := tk_n_le (T := T) l; omega
  unfold jx_Mo_law
  refine ss_pt rfl rfl ?_
  refine ss_aI rfl rfl (by decide) (by decide) k229 ?_
  refine ss_iF (zi_ne (b := 6) (by omega) (by omega) (by omega)) ?_
  refine ss_rc rfl ?_
  refine zp_wp_call (mx_readsAs (ord := false) hT hb hw hl h13) ?_
  rintro x τ ⟨I1, rfl, f1, r13, ⟨s1, s2, -⟩, hm⟩
  rw [ht] at hm
  obtain ⟨rfl, r14⟩ := hm
  have e114 : I1 114 = K := by rw [zf_row f1 (fun k => rfl)]; exact hK
  have k229' : I1 114 229 = Int32.ofNat n := by rw [e114]; exact h9
  have hCV : ∀ k, k < tk_n T l → I1 121 k = tkC T l k ∧ I1 122 k = tkV T l k := fun k hk => by
    obtain ⟨s, h1, h2, h3⟩ := tk_n_sur (T := T) l k hk
    obtain ⟨q1, q2, -⟩ := s2 s h1 h2
    unfold tkC tkV
    rw [if_pos hk, if_pos hk, ← h3, tkS_eq h1 h2]
    exact ⟨q1, q2⟩
  refine ss_iF (by decide) ?_
  refine ss_pt rfl rfl ?_
  refine ss_aI rfl rfl (by decide) (by decide) k229' ?_
  refine ss_rc rfl ?_
  refine zp_wp_call (mx_lays e114 (show n ≤ 6 by omega) h4 s1 (fun k hk => (hCV k hk).1) (fun k hk => (hCV k hk).2)) ?_
  rintro _ τ ⟨I2, rfl, f2, e2⟩
  have k229'' : I2 114 229 = Int32.ofNat n := by rw [e2, kL_lo (by omega)]; exact h9
  have k229''' : sf_u2 I2 114 229 (Int32.ofNat n + 1) 114 229 = Int32.ofNat (n + 1) := by rw [zu_eq, zi_s]
  refine ss_pt rfl rfl ?_
  refine ss_aI rfl rfl (by decide) (by decide) k229'' ?_
  refine ss_sI rfl rfl (by decide) (by decide) ?_
  refine ss_pt rfl rfl ?_
  refine ss_aI rfl rfl (by decide) (by decide) k229''' ?_
  refine ss_rc rfl ?_
  rw [zi_p]
  refine ss_call (mx_good _) ?_
  have fm : zf zk_lw I I2 := zf_trans (zf_mono f1 zk_ra_lw) (zf_mono f2 (fun a k e => by simp only [beq_iff_eq] at e; simp [zk_lw, e]))
  refine ss_ret ⟨rfl, _, rfl, zf_u2 (zf_u2 fm rfl) rfl, ?_, ?_, ?_, an_l (I := I2) (fun k => ?_) ?_⟩
  · rw [zu_r (by decide), kS_u e2, zi_s]; rfl
  · rw [zu_k (by decide), zu_a (by decide), f2 112 13 rfl]; exact r13
  · rw [zu_k (by decide), zu_a (by decide), f2 112 14 rfl]; exact r14
  · rw [f2 113 k rfl, f1 113 k rfl]
  · exact an_l (I := sf_u2 I2 114 229 (Int32.ofNat n + 1)) (fun k => (zu_a (by decide)).symm) (an_acc 112 0 113 (by decide) (zi_leL (a := 0) (by omega) (by omega)))
end
