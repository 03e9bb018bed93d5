/-! image, back: the model. -/
section
variable {t : List (Nat × Nat)} {I : Nat → Nat → Int32} {J : Nat → Nat → Int64} {D : Nat → Nat → Option Nat} {K : Nat → Int32}
set_option maxRecDepth 20000 in
theorem mx_image_good (hK : I 114 = K) {c : Nat} (hc : c < 2) : zp_wp (jx_Mo_image (some 112) (Int32.ofNat c)) (fun r τ => r = 0 ∧ ∃ I', τ = zp_Z t I' J D ∧ zf (fun a k => a == 115 || a == 116 || (a == 112 && k == 0)) I I' ∧ (∀ k, k < 5838 → I' 115 (5838 * c + k) = K k) ∧ (∀ j, ¬ (5838 * c ≤ j ∧ j < 5838 * c + 5838) → I' 115 j = I 115 j) ∧ I' 116 c = 1 ∧ (∀ j, j ≠ c → I' 116 j = I 116 j) ∧ an_at 112 0 113 I I' 0) (zp_Z t I J D) := by
  have hl := ze_lies (Int32.ofNat c) 0 1
  rw [show zs_in 0 (Int32.ofNat c) 1 = true from zs_inT.mpr ⟨zi_leL (a := 0) (by omega) (by omega), zi_leL (b := 1) (by omega) (by omega)⟩] at hl
  have e5 : (5838 : Int32) * Int32.ofNat c = Int32.ofNat (5838 * c) := (Int32.ofNat_mul 5838 c).symm
  unfold jx_Mo_image
  rw [e5]
  refine ss_pure hl ?_
  refine ss_iF (by decide) ?_
  refine zl_g (fun i (_ : Unit) => Int32.ofNat i) 0 5838 (s0 := ()) rfl (by omega) (by omega) (fun i _ I' => zf (fun a _ => a == 115) I I' ∧ (∀ k, k < i → I' 115 (5838 * c + k) = K k) ∧ ∀ j, ¬ (5838 * c ≤ j ∧ j < 5838 * c + i) → I' 115 j = I 115 j) ⟨zf_refl _ _, fun k hk => absurd hk (by omega), fun j _ => rfl⟩ ?step ?fin
  case step =>
    rintro i s I' - hi ⟨f1, r1, r2⟩
    have n1 : ¬ (5838 : Int32) ≤ Int32.ofNat i := zi_nle (a := 5838) hi (by omega)
    have a1 : I' 114 i = K i := by rw [f1 114 i rfl, hK]
    have l2 : 5838 * c + i < 11676 := by omega
    refine ss_iF n1 ?_
    refine ss_pt rfl rfl ?_
    refine ss_pt rfl rfl ?_
    refine ss_aI rfl rfl hi (by decide) a1 ?_
    refine ss_sI rfl (zi_add _ _) l2 (by decide) ?_
    refine ss_bret ?_
    refine ss_ret (Or.inl ⟨(), _, by rw [zi_s], rfl, zf_u2 f1 rfl, fun k hk => ?_, fun j hj => ?_⟩)
    · by_cases e : k = i
      · subst e; exact zu_eq
      · rw [zu_k (by omega)]; exact r1 k (by omega)
    · rw [zu_k (by omega)]; exact r2 j (by omega)
  case fin =>
    rintro s I' ⟨f1, r1, r2⟩
    have n1 : (5838 : Int32) ≤ Int32.ofNat 5838 := by decide
    have hw : sf_nw 3 (1 : Int32) = 1 := by decide
    refine ss_iT n1 ?_
    refine ss_ret ⟨_, rfl, ?_⟩
    refine ss_pt rfl rfl ?_
    refine ss_sB (n := 2) (m := c) rfl rfl hc (by decide) hw ?_
    refine ss_rc rfl ?_
    refine ss_call (mx_good _) ?_
    refine ss_ret ⟨rfl, _, rfl, zf_u2 (zf_u2 (zf_mono f1 (fun a k e => by simp only [beq_iff_eq] at e; simp [e])) rfl) rfl, fun k hk => ?_, fun j hj => ?_, ?_, fun j hj => ?_, an_l (I := sf_u2 I' 116 c 1) (fun k => ?_) (an_acc 112 0 113 (by decide) (by decide))⟩
    · rw [zu_a (by decide), zu_a (by decide)]; exact r1 k hk
    · rw [zu_a (by decide), zu_a (by decide)]; exact r2 j hj
    · rw [zu_a (by decide), zu_eq]
    · rw [zu_a (by decide), zu_k hj]; exact f1 116 j rfl
    · rw [zu_a (by decide)]; exact (f1 113 k rfl).symm
end
