/-! law: the class. -/
section
variable {t : List (Nat × Nat)} {I : Nat → Nat → Int32} {J : Nat → Nat → Int64} {D : Nat → Nat → Option Nat} {K : Nat → Int32} {T : Nat → Int32} {l n : Nat}
def zk_lx (a k : Nat) : Bool := (95 < a && a < 107) || a == 108 || (a == 95 && k == 1) || (a == 0 && (k == 9 || k == 12))
set_option maxRecDepth 20000 in
theorem zk_rt_lx (a k : Nat) (h : zk_rt a k = true) : zk_lx a k = true := by
  have := zk_rt_sc a k h
  simp [zk_lx, this]
set_option maxRecDepth 20000 in
theorem cx_law_full (hO : zr_off I 2 K) (h9 : K 229 = 6) : zp_wp (jx_SF_law (some 0)) (fun r τ => r = -Int32.ofNat 5 ∧ τ = zp_Z t (sf_u2 (sf_u2 (sf_u2 I 95 1 0) 0 12 (-Int32.ofNat 5)) 108 5 (I 108 5 + 1)) J D) (zp_Z t I J D) := by
  have k25 : I 2 5 = 6 := by
    have := hO.2.2.2.2.2.2.2.2.2.2.2.2.2.1
    exact this.trans h9
  unfold jx_SF_law
  refine ss_pt rfl rfl ?_
  refine ss_pt rfl rfl ?_
  refine ss_gI rfl k25 ?_
  refine ss_iF (by decide) ?_
  refine ss_pt rfl rfl ?_
  refine ss_pI rfl ?_
  refine ss_rc rfl ?_
  refine ss_call (cx_refused (j := 5) (by decide) (by decide)) ?_
  exact ss_ret ⟨rfl, by rw [zu_a (by decide)]⟩
set_option maxRecDepth 20000 in
theorem cx_law_bad (hO : zr_off I 2 K) (h9 : K 229 = Int32.ofNat n) (hn : n < 6) (hT : ∀ i, i < l → I 96 i = T i) (hb : ∀ i, i < l → 0 ≤ T i ∧ T i ≤ 255) (hl : l ≤ 400) (h95 : I 95 1 = Int32.ofNat l) {f : Nat} (ht : tx_text (tkC T l) (tkV T l) false (tk_n T l) 12 0 0 = .inl f) : zp_wp (jx_SF_law (some 0)) (fun r τ => r = -Int32.ofNat 6 ∧ ∃ I', τ = zp_Z t I' J D ∧ zf zk_lx I I' ∧ I' 96 = I 96 ∧ I' 95 1 = 0 ∧ I' 0 9 = Int32.ofNat (tkS T l f) ∧ an_at 0 12 108 I I' (-Int32.ofNat 6)) (zp_Z t I J D) := by
  have k25 : I 2 5 = Int32.ofNat n := by
    have := hO.2.2.2.2.2.2.2.2.2.2.2.2.2.1
    exact this.trans h9
  unfold jx_SF_law
  refine ss_pt rfl rfl ?_
  refine ss_pt rfl rfl ?_
  refine ss_gI rfl k25 ?_
  refine ss_iT (zi_ltL (b := 6) hn (by omega)) ?_
  refine ss_pt rfl rfl ?_
  refine ss_pt rfl rfl ?_
  refine ss_rc rfl ?_
  refine zp_wp_call (cx_readText (ord := false) hT h95 hl (tk_cv hb) tkV_0) ?_
  rintro x τ ⟨I1, rfl, f1, hm⟩
  rw [ht] at hm
  obtain ⟨rfl, hf, h5, htk⟩ := hm
  refine ss_rc rfl ?_
  refine ss_call (cx_settle0 htk hf h5) ?_
  refine ss_iT rfl ?_
  refine ss_rc rfl ?_
  refine ss_call (cx_refused (j := 6) (by decide) (by decide)) ?_
  have hz : ∀ a k, a < 96 ∨ 106 < a → I1 a k = I a k := fun a k ha => f1 a k (by
    cases h : zk_rt a k with
    | false => rfl
    | true => have := zk_rt_sc a k h; omega)
  refine ss_ret ⟨rfl, _, rfl, zf_u2 (zf_u2 (zf_u2 (zf_u2 (zf_mono f1 zk_rt_lx) rfl) rfl) rfl) rfl, ?_, ?_, ?_, an_l (I := sf_u2 (sf_u2 I1 0 9 (Int32.ofNat (tkS T l f))) 95 1 0) (fun k => ?_) (an_ref 0 12 108 (by decide) (by decide) (by decide))⟩
  · rw [zu_r (by decide), zu_r (by decide), zu_r (by decide), zu_r (by decide)]; exact zf_row f1 zk_rt_95
  · rw [zu_a (by decide), zu_a (by decide), zu_eq]
  · rw [zu_a (by decide), zu_k (by decide), zu_a (by decide), zu_eq]
  · rw [zu_a (by decide), zu_a (by decide)]; exact (hz 108 k (by omega)).symm
set_option maxRecDepth 20000 in
theorem cx_law_good (hO : zr_off I 2 K) (h9 : K 229 = Int32.ofNat n) (hn : n < 6) (hT : ∀ i, i < l → I 96 i = T i) (hb : ∀ i, i < l → 0 ≤ T i ∧ T i ≤ 255) (hl : l ≤ 400) (h95 : I 95 1 = Int32.ofNat l) {cs : List tx_C} (ht : tx_text (tkC T l) (tkV T l) false (tk_n T l) 12 0 0 = .inr cs) : zp_wp (jx_SF_law (some 0)) (fun r τ => r = Int32.ofNat n ∧ ∃ I' J' D', τ = zp_Z (t ++ pg_sh) I' J' D' ∧ (∀ a k, a < 139 + t.length → (zk_lx a k || (a == 2 && k == 5)) = false → I' a k = I a k) ∧ I' 96 = I 96 ∧ I' 95 1 = 0 ∧ I' 0 9 = -1 ∧ I' 2 5 = Int32.ofNat (n + 1) ∧ an_at 0 12 108 I I' (Int32.ofNat n) ∧ zr_pp (t ++ pg_sh) D' (139 + t.length) ∧ zr_prog I' (139 + t.length) cs ∧ (∀ a k, a < 139 + t.length → ¬ (a = 8 ∧ k = n) → D' a k = D a k) ∧ D' 8 n = some (139 + t.length)) (zp_Z t I J D) := by
  have k25 : I 2 5 = Int32.ofNat n := by
    have := hO.2.2.2.2.2.2.2.2.2.2.2.2.2.1
    exact this.trans h9
  unfold jx_SF_law
  refine ss_pt rfl rfl ?_
  refine ss_pt rfl rfl ?_
  refine ss_gI rfl k25 ?_
  refine ss_iT (zi_ltL (b := 6) hn (by omega)) ?_
  refine ss_pt rfl rfl ?_
  refine ss_pt rfl rfl ?_
  refine ss_rc rfl ?_
  refine zp_wp_call (cx_readText (ord := false) hT h95 hl (tk_cv hb) tkV_0) ?_
  rintro x τ ⟨I1, rfl, f1, hm⟩
  rw [ht] at hm
  obtain ⟨rfl, hpr⟩ := hm
  have hz : ∀ a k, a < 96 ∨ 106 < a → I1 a k = I a k := fun a k ha => f1 a k (by
    cases h : zk_rt a k with
    | false => rfl
    | true => have := zk_rt_sc a k h; omega)
  refine ss_rc rfl ?_
  refine ss_call cx_settle1 ?_
  refine ss_iF (by decide) ?_
  refine cx_newProg (fun I2 J2 D2 h2 d2 hpp => ?_)
  generalize hI1 : sf_u2 (sf_u2 I1 0 9 (-1)) 95 1 0 = Is at h2
  have hp2 : zr_prog I2 98 cs := by
    have e : ∀ x, 97 < x → x < 102 → I2 x = I1 x := fun x q1 q2 => by
      rw [h2 x (by omega), ← hI1, zu_r (by omega), zu_r (by omega)]
    unfold zr_prog zr_cls at hpr ⊢
    rw [e 98 (by omega) (by omega), e (98 + 1) (by omega) (by omega), e (98 + 2) (by omega) (by omega), e (98 + 3) (by omega) (by omega)]
    exact hpr
  refine ss_pt rfl rfl ?_
  refine ss_pt rfl rfl ?_
  have hty := hpp.1
  refine ss_rc hty ?_
  refine zp_wp_call (cx_copyProg (by omega) hpp hp2) ?_
  rintro _ τ ⟨I3, rfl, f3, hp3⟩
  have h3 : ∀ a, a < 139 + t.length → I3 a = Is a := fun a ha => by
    rw [zf_row f3 (fun k => by simp; omega)]; exact h2 a ha
  have k25' : I3 2 5 = Int32.ofNat n := by rw [h3 2 (by omega), ← hI1, zu_a (by decide), zu_a (by decide), hz 2 5 (by omega)]; exact k25
  refine ss_rc rfl ?_
  unfold jx_Office_addLaw
  refine ss_as ?_
  refine ss_gI rfl k25' ?_
  refine ss_biT (zi_ltL (b := 6) hn (by omega)) ?_
  refine ss_as ?_
  refine ss_pt rfl rfl ?_
  refine ss_as ?_
  refine ss_gI rfl k25' ?_
  refine ss_as ?_
  have hix : sf_ix (Int32.ofNat n) = n := zi_ixn (by omega)
  have hpt8 : zp_pt 8 n = none := by
    have : ∀ n, n < 6 → zp_pt 8 n = none := by decide
    exact this n hn
  rw [pz_sR (ty := 6) (n := 6) (N := 5) rfl (zi_in hn (by omega)) (by rw [hix]; exact hpt8) hty, hix]
  refine ss_as ?_
  refine ss_gI rfl k25' ?_
  refine ss_as ?_
  refine ss_pI rfl ?_
  refine ss_as ?_
  refine ss_gI rfl zu_eq ?_
  refine ss_bret ?_
  rw [zi_s, zi_p]
  refine ss_rc rfl ?_
  refine ss_call (cx_accepted _) ?_
  refine ss_ret ⟨rfl, _, _, _, rfl, fun a k ha q => ?_, ?_, ?_, ?_, ?_, an_l (I := sf_u2 I3 2 5 (Int32.ofNat (n + 1))) (fun k => ?_) (an_acc 0 12 108 (by decide) (zi_leL (a := 0) (by omega) (by omega))), ?_, ?_, fun a k ha hk => ?_, ?_⟩
  · have q' : ¬ (a = 0 ∧ k = 12) ∧ ¬ (a = 2 ∧ k = 5) ∧ ¬ (a = 0 ∧ k = 9) ∧ ¬ (a = 95 ∧ k = 1) ∧ ¬ (95 < a ∧ a < 107) := by
      simp only [zk_lx, Bool.or_eq_false_iff, Bool.and_eq_false_imp, beq_iff_eq, beq_eq_false_iff_ne, decide_eq_true_eq, decide_eq_false_iff_not] at q
      omega
    have g : ∀ (R : Nat → Nat → Int32) (b j : Nat) (w : Int32), ¬ (a = b ∧ k = j) → sf_u2 R b j w a k = R a k := fun R b j w h => by
      by_cases e : a = b
      · subst e; exact zu_k (fun e2 => h ⟨rfl, e2⟩)
      · exact zu_a e
    rw [g _ _ _ _ q'.1, g _ _ _ _ q'.2.1, h3 a ha, ← hI1, g _ _ _ _ q'.2.2.2.1, g _ _ _ _ q'.2.2.1, hz a k (by omega)]
  · rw [zu_r (by decide), zu_r (by decide), h3 96 (by omega), ← hI1, zu_r (by decide), zu_r (by decide)]; exact zf_row f1 zk_rt_95
  · rw [zu_a (by decide), zu_a (by decide), h3 95 (by omega), ← hI1, zu_eq]
  · rw [zu_k (by decide), zu_a (by decide), h3 0 (by omega), ← hI1, zu_a (by decide), zu_eq]
  · rw [zu_a (by decide), zu_eq]
  · rw [zu_a (by decide), h3 108 (by omega), ← hI1, zu_a (by decide), zu_a (by decide)]; exact (hz 108 k (by omega)).symm
  · obtain ⟨z1, z2, z3, z4, z5, z6, z7⟩ := hpp
    refine ⟨z1, z2, z3, z4, ?_, ?_, ?_⟩
    · rw [rfs_hi (by omega), zu_a (by omega), ← rfs_hi (D := D2) (show 139 ≤ 139 + t.length by omega)]; exact z5
    · rw [rfs_hi (by omega), zu_a (by omega), ← rfs_hi (D := D2) (show 139 ≤ 139 + t.length by omega)]; exact z6
    · rw [rfs_hi (by omega), zu_a (by omega), ← rfs_hi (D := D2) (show 139 ≤ 139 + t.length by omega)]; exact z7
  · exact zr_prog_fr (by omega) (fun a ha => by rw [zu_r (by omega), zu_r (by omega)]) hp3
  · by_cases e : a = 8
    · subst e; rw [zu_k (by omega)]; exact d2 8 k ha
    · rw [zu_a e]; exact d2 a k ha
  · exact zu_eq
end
