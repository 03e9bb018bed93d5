/-! Offices made later: copied. -/
set_option maxRecDepth 20000 in
theorem zl_gD {β γ δ : Type} {body : β → sf_M (β ⊕ γ)} {kk : γ → sf_M δ} {Q : δ → sf_St → Prop} {t : List (Nat × Nat)} {J : Nat → Nat → Int64} {D : Nat → Nat → Option Nat} {I : Nat → Nat → Int32} {b0 : β} (enc : Nat → β) (a L : Nat) (hb : b0 = enc a) (hL : L < 999999) (haL : a ≤ L)
    (P : Nat → (Nat → Nat → Option Nat) → Prop) (h0 : P a D)
    (hs : ∀ i D, a ≤ i → i < L → P i D → zp_wp (body (enc i)) (fun r τ => ∃ D', r = .inl (enc (i + 1)) ∧ τ = zp_Z t I J D' ∧ P (i + 1) D') (zp_Z t I J D))
    (he : ∀ D, P L D → zp_wp (body (enc L)) (fun r τ => ∃ g, r = .inr g ∧ zp_wp (kk g) Q τ) (zp_Z t I J D)) : zp_wp (sf_bnd (sf_loop body sf_fuel b0) kk) Q (zp_Z t I J D) := by
  subst hb
  refine zp_loop_b (fun n b σ => ∃ i D', a ≤ i ∧ i ≤ L ∧ n = L - i ∧ b = enc i ∧ σ = zp_Z t I J D' ∧ P i D') (L - a) (by unfold sf_fuel; omega) ⟨a, D, by omega, haL, rfl, rfl, rfl, h0⟩ ?_
  rintro n b σ ⟨i, D', hai, hiL, rfl, rfl, rfl, hP⟩
  by_cases hi : i < L
  · refine zp_wp_mono (hs i D' hai hi hP) fun r τ h => ?_
    obtain ⟨D'', rfl, rfl, h⟩ := h
    exact ⟨L - (i + 1), by omega, i + 1, D'', by omega, by omega, rfl, rfl, rfl, h⟩
  · have : i = L := by omega
    subst this
    refine zp_wp_mono (he D' hP) fun r τ h => ?_
    obtain ⟨g, rfl, h⟩ := h
    exact h
/-- an Office at o -/
def of_is (t : List (Nat × Nat)) (D : Nat → Nat → Option Nat) (o : Nat) : Prop := (zp_sh0 ++ t).getD o (999, 0) = (14, 14) ∧ pk_is t D (o + 1) ∧ (zp_sh0 ++ t).getD (o + 3) (999, 0) = (0, 6) ∧ (zp_sh0 ++ t).getD (o + 4) (999, 0) = (0, 6) ∧ (zp_sh0 ++ t).getD (o + 5) (999, 0) = (0, 6) ∧ (zp_sh0 ++ t).getD (o + 6) (999, 0) = (6, 6) ∧ (zp_sh0 ++ t).getD (o + 7) (999, 0) = (0, 6) ∧ (zp_sh0 ++ t).getD (o + 8) (999, 0) = (0, 6) ∧
  zp_rfs D o 0 = some (o + 1) ∧ zp_rfs D o 2 = some (o + 3) ∧ zp_rfs D o 3 = some (o + 4) ∧ zp_rfs D o 4 = some (o + 5) ∧ zp_rfs D o 7 = some (o + 6) ∧ zp_rfs D o 9 = some (o + 7) ∧ zp_rfs D o 10 = some (o + 8) ∧ ∀ n, zp_pt (o + 6) n = none
set_option maxRecDepth 20000 in
theorem of_is_2 {t : List (Nat × Nat)} {D : Nat → Nat → Option Nat} : of_is t D 2 := by
  refine ⟨rfl, ⟨rfl, rfl, rfl⟩, rfl, rfl, rfl, rfl, rfl, rfl, rfl, rfl, rfl, rfl, rfl, rfl, rfl, fun n => ?_⟩
  rfl
set_option maxRecDepth 20000 in
theorem of_is_sh {t : List (Nat × Nat)} {D : Nat → Nat → Option Nat} {o : Nat} (h : of_sh t D o) : of_is t D o := by
  obtain ⟨h0, h1, h2, h3, h4, h5, h6, h7, h8, h9, q1, q2, q3, q4, q5, q6, q7, q8⟩ := h
  exact ⟨h1, ⟨h2, h3, by rw [rfs_hi (by omega)]; exact q2⟩, h4, h5, h6, h7, h8, h9, by rw [rfs_hi (by omega)]; exact q1, by rw [rfs_hi (by omega)]; exact q3, by rw [rfs_hi (by omega)]; exact q4, by rw [rfs_hi (by omega)]; exact q5, by rw [rfs_hi (by omega)]; exact q6, by rw [rfs_hi (by omega)]; exact q7, by rw [rfs_hi (by omega)]; exact q8, fun n => zp_pt_hi (by omega)⟩
section
variable {t : List (Nat × Nat)} {I : Nat → Nat → Int32} {J : Nat → Nat → Int64} {D : Nat → Nat → Option Nat} {K : Nat → Int32}
set_option maxRecDepth 20000 in
theorem of_is_D {D' : Nat → Nat → Option Nat} {o x : Nat} (hx : x ≠ o) (hx1 : x ≠ o + 1) (h : of_is t D o) (hD : ∀ y k, y ≠ x → D' y k = D y k) : of_is t D' o := by
  have g : ∀ y k, y ≠ x → zp_rfs D' y k = zp_rfs D y k := fun y k hy => by unfold zp_rfs; rw [hD y k hy]
  obtain ⟨h1, ⟨h2, h3, q2⟩, h4, h5, h6, h7, h8, h9, q1, q3, q4, q5, q6, q7, q8, q9⟩ := h
  refine ⟨h1, ⟨h2, h3, ?_⟩, h4, h5, h6, h7, h8, h9, ?_, ?_, ?_, ?_, ?_, ?_, ?_, q9⟩
  · rw [g _ _ (by omega)]; exact q2
  all_goals (rw [g _ _ (by omega)]; assumption)
def zk_of (b a k : Nat) : Bool := decide (b ≤ a) && decide (a < b + 9) && !(a == b + 6)
set_option maxRecDepth 20000 in
theorem cx_copyO {a b : Nat} (ha : of_is t D a) (hb : of_is t D b) (hd : a + 9 ≤ b ∨ b + 9 ≤ a) (hO : zr_off I a K) (hl : lw_ok t D (a + 6)) : zp_wp (jx_Office_copyFrom (some b) (some a)) (fun _ τ => ∃ I' D', τ = zp_Z t I' J D' ∧ zf (zk_of b) I I' ∧ zr_off I' b K ∧ (∀ x k, ¬ (x = b + 6 ∧ k < 6) → D' x k = D x k) ∧ ∀ n, n < 6 → D' (b + 6) n = D (a + 6) n) (zp_Z t I J D) := by
  have ha' := ha
  have hb' := hb
  obtain ⟨a1, a2, a4, a5, a6, a7, a8, a9, p1, p3, p4, p5, p6, p7, p8, p9⟩ := ha
  obtain ⟨b1, b2, b4, b5, b6, b7, b8, b9, q1, q3, q4, q5, q6, q7, q8, q9⟩ := hb
  obtain ⟨o1, o2, o3, o4, o5, o6, o7, o8, o9, o10, o11, o12, o13, o14, o15⟩ := hO
  have hpk : pk_at I (a + 1) K := ⟨fun i hi => o1 i hi, o2, o3, o4⟩
  unfold jx_Office_copyFrom
  refine ss_gR b1 q1 ?_
  refine ss_gR a1 p1 ?_
  refine ss_rc b2.1 ?_
  refine zp_wp_call (cx_copyP a2 b2 (by omega) (by omega) (by omega) hpk) ?_
  rintro _ τ ⟨I1, rfl, f1, r1⟩
  have n1 : ∀ x k, ¬ (b ≤ x ∧ x < b + 9) → I1 x k = I x k := fun x k hx => f1 x k (by simp [zk_pk]; omega)
  refine ss_gI a1 ((n1 a 1 (by omega)).trans o12) ?_
  refine ss_pI b1 ?_
  refine ss_gR a1 p3 ?_
  refine ss_gR b1 q3 ?_
  refine ss_cpI (k := 6) a4 b4 rfl (by omega) (by omega) (by omega) (fun I2 f2 r2 _ => ?_)
  have n2 : ∀ x k, ¬ (b ≤ x ∧ x < b + 9) → I2 x k = I x k := fun x k hx => by rw [f2 x k (by simp; omega), zu_a (by omega)]; exact n1 x k hx
  refine ss_gR a1 p4 ?_
  refine ss_gR b1 q4 ?_
  refine ss_cpI (k := 6) a5 b5 rfl (by omega) (by omega) (by omega) (fun I3 f3 r3 _ => ?_)
  have n3 : ∀ x k, ¬ (b ≤ x ∧ x < b + 9) → I3 x k = I x k := fun x k hx => by rw [f3 x k (by simp; omega)]; exact n2 x k hx
  refine ss_gR a1 p5 ?_
  refine ss_gR b1 q5 ?_
  refine ss_cpI (k := 6) a6 b6 rfl (by omega) (by omega) (by omega) (fun I4 f4 r4 _ => ?_)
  have n4 : ∀ x k, ¬ (b ≤ x ∧ x < b + 9) → I4 x k = I x k := fun x k hx => by rw [f4 x k (by simp; omega)]; exact n3 x k hx
  refine ss_gI a1 ((n4 a 5 (by omega)).trans o14) ?_
  refine ss_pI b1 ?_
  refine ss_gI a1 (zr_a (by omega) ((n4 a 6 (by omega)).trans o15)) ?_
  refine ss_pI b1 ?_
  generalize hI5 : sf_u2 (sf_u2 I4 b 5 (K 229)) b 6 (K 230) = I5
  have n5 : ∀ x k, ¬ (b ≤ x ∧ x < b + 9) → I5 x k = I x k := fun x k hx => by rw [← hI5, zu_a (by omega), zu_a (by omega)]; exact n4 x k hx
  refine zl_gD (fun i => Int32.ofNat i) 0 6 rfl (by omega) (by omega) (fun i D' => (∀ x k, ¬ (x = b + 6 ∧ k < i) → D' x k = D x k) ∧ ∀ n, n < i → D' (b + 6) n = D (a + 6) n) ⟨fun x k _ => rfl, fun n hn => absurd hn (by omega)⟩ ?step ?fin
  case step =>
    rintro i D1 - hi ⟨d1, d2⟩
    have c1 : ¬ (6 : Int32) ≤ Int32.ofNat i := zi_nle (a := 6) hi (by omega)
    have rs : ∀ x k, x ≠ b + 6 → zp_rfs D1 x k = zp_rfs D x k := fun x k hx => by unfold zp_rfs; rw [d1 x k (by omega)]
    have hv : zp_rfs D1 (a + 6) i = D (a + 6) i := by
      rw [rs _ _ (by omega)]; unfold zp_rfs; rw [p9]
    refine ss_iF c1 ?_
    refine ss_gR b1 ((rs _ _ (by omega)).trans q6) ?_
    refine ss_gR a1 ((rs _ _ (by omega)).trans p6) ?_
    refine ss_aR a7 rfl hi (by decide) hv ?_
    have hix : sf_ix (Int32.ofNat i) = i := zi_ixn (by omega)
    have key : zp_wp (sf_bnd (sf_ret (Int32.ofNat i + (1 : Int32))) fun y18 => sf_ret (.inl y18 : Int32 ⊕ Unit)) (fun r τ => ∃ D', r = .inl (Int32.ofNat (i + 1)) ∧ τ = zp_Z t I5 J D' ∧ (∀ x k, ¬ (x = b + 6 ∧ k < i + 1) → D' x k = D x k) ∧ ∀ n, n < i + 1 → D' (b + 6) n = D (a + 6) n) (zp_Z t I5 J (sf_u2 D1 (b + 6) i (D (a + 6) i))) := by
      refine ss_bret ?_
      refine ss_ret ⟨_, by rw [zi_s], rfl, fun x k hx => ?_, fun n hn => ?_⟩
      · by_cases e : x = b + 6
        · subst e; rw [zu_k (by omega)]; exact d1 _ _ (by omega)
        · rw [zu_a e]; exact d1 x k (by omega)
      · by_cases e : n = i
        · subst e; exact zu_eq
        · rw [zu_k e]; exact d2 n (by omega)
    rcases hl i hi with h | ⟨p, h, hp⟩
    · rw [h]
      rw [h] at key
      rw [pz_sRn b7 (zi_in hi (by omega)) (q9 _), hix]
      exact key
    · rw [h]
      rw [h] at key
      rw [pz_sR b7 (zi_in hi (by omega)) (q9 _) hp, hix]
      exact key
  case fin =>
    rintro D1 ⟨d1, d2⟩
    have c1 : (6 : Int32) ≤ Int32.ofNat 6 := by decide
    have rs : ∀ x k, x ≠ b + 6 → zp_rfs D1 x k = zp_rfs D x k := fun x k hx => by unfold zp_rfs; rw [d1 x k (by omega)]
    refine ss_iT c1 ?_
    refine ss_ret ⟨_, rfl, ?_⟩
    refine ss_gI a1 ((n5 a 8 (by omega)).trans o13) ?_
    refine ss_pI b1 ?_
    refine ss_gR a1 ((rs _ _ (by omega)).trans p7) ?_
    refine ss_gR b1 ((rs _ _ (by omega)).trans q7) ?_
    refine ss_cpI (k := 6) a8 b8 rfl (by omega) (by omega) (by omega) (fun I6 f6 r6 _ => ?_)
    have n6 : ∀ x k, ¬ (b ≤ x ∧ x < b + 9) → I6 x k = I x k := fun x k hx => by rw [f6 x k (by simp; omega), zu_a (by omega)]; exact n5 x k hx
    refine ss_gR a1 ((rs _ _ (by omega)).trans p8) ?_
    refine ss_gR b1 ((rs _ _ (by omega)).trans q8) ?_
    refine ss_cpI (k := 6) a9 b9 rfl (by omega) (by omega) (by omega) (fun I7 f7 r7 _ => ?_)
    have n7 : ∀ x k, ¬ (b ≤ x ∧ x < b + 9) → I7 x k = I x k := fun x k hx => by rw [f7 x k (by simp; omega)]; exact n6 x k hx
    refine ss_gI a1 ((n7 a 11 (by omega)).trans o10) ?_
    refine ss_pI b1 ?_
    refine ss_gI a1 (zr_a (by omega) ((n7 a 12 (by omega)).trans o11)) ?_
    refine ss_pI b1 ?_
    have m7 : ∀ x k, x ≠ b + 8 → I7 x k = I6 x k := fun x k hx => f7 x k (by simp [hx])
    have m6 : ∀ x k, x ≠ b + 7 → I6 x k = sf_u2 I5 b 8 (K 228) x k := fun x k hx => f6 x k (by simp [hx])
    have m4 : ∀ x k, x ≠ b + 5 → I4 x k = I3 x k := fun x k hx => f4 x k (by simp [hx])
    have m3 : ∀ x k, x ≠ b + 4 → I3 x k = I2 x k := fun x k hx => f3 x k (by simp [hx])
    have m2 : ∀ x k, x ≠ b + 3 → I2 x k = sf_u2 I1 b 1 (K 227) x k := fun x k hx => f2 x k (by simp [hx])
    have lo : ∀ x k, x ≠ b → x ≠ b + 8 → x ≠ b + 7 → sf_u2 (sf_u2 I7 b 11 (K 225)) b 12 (K 226) x k = I4 x k := fun x k h1 h2 h3 => by
      rw [zu_a h1, zu_a h1, m7 x k h2, m6 x k h3, zu_a h1, ← hI5, zu_a h1, zu_a h1]
    have atb : ∀ k, k ≠ 11 → k ≠ 12 → k ≠ 8 → k ≠ 6 → k ≠ 5 → k ≠ 1 → sf_u2 (sf_u2 I7 b 11 (K 225)) b 12 (K 226) b k = I1 b k := fun k h1 h2 h3 h4 h5 h6 => by
      rw [zu_k h2, zu_k h1, m7 b k (by omega), m6 b k (by omega), zu_k h3, ← hI5, zu_k h4, zu_k h5, m4 b k (by omega), m3 b k (by omega), m2 b k (by omega), zu_k h6]
    have src : ∀ x k, ¬ (b ≤ x ∧ x < b + 9) → sf_u2 I1 b 1 (K 227) x k = I x k := fun x k hx => by rw [zu_a (by omega)]; exact n1 x k hx
    obtain ⟨w1, w2, w3, w4⟩ := r1
    refine ss_ret ⟨_, _, rfl, fun x k hx => ?_, ⟨fun i hi => ?_, ?_, ?_, ?_, fun i hi => ?_, fun i hi => ?_, fun i hi => ?_, fun i hi => ?_, fun i hi => ?_, ?_, ?_, ?_, ?_, ?_, ?_⟩, d1, d2⟩
    · have hx' : ¬ (b ≤ x ∧ x < b + 9) ∨ x = b + 6 := by
        simp only [zk_of, Bool.and_eq_false_imp, Bool.and_eq_true, decide_eq_true_eq, Bool.not_eq_false', beq_iff_eq] at hx
        omega
      rcases hx' with h | rfl
      · rw [zu_a (by omega), zu_a (by omega)]; exact n7 x k h
      · rw [lo _ _ (by omega) (by omega) (by omega), m4 _ _ (by omega), m3 _ _ (by omega), m2 _ _ (by omega), zu_a (by omega)]
        exact f1 _ k (by simp [zk_pk])
    · rw [lo _ _ (by omega) (by omega) (by omega), m4 _ _ (by omega), m3 _ _ (by omega), m2 _ _ (by omega), zu_a (by omega)]; exact w1 i hi
    · rw [lo _ _ (by omega) (by omega) (by omega), m4 _ _ (by omega), m3 _ _ (by omega), m2 _ _ (by omega), zu_a (by omega)]; exact w2
    · rw [lo _ _ (by omega) (by omega) (by omega), m4 _ _ (by omega), m3 _ _ (by omega), m2 _ _ (by omega), zu_a (by omega)]; exact w3
    · rw [lo _ _ (by omega) (by omega) (by omega), m4 _ _ (by omega), m3 _ _ (by omega), m2 _ _ (by omega), zu_a (by omega)]; exact w4
    · rw [lo _ _ (by omega) (by omega) (by omega), m4 _ _ (by omega), m3 _ _ (by omega), r2 i hi, src _ _ (by omega)]; exact o5 i hi
    · rw [lo _ _ (by omega) (by omega) (by omega), m4 _ _ (by omega), r3 i hi, n2 _ _ (by omega)]; exact o6 i hi
    · rw [lo _ _ (by omega) (by omega) (by omega), r4 i hi, n3 _ _ (by omega)]; exact o7 i hi
    · rw [zu_a (by omega), zu_a (by omega), m7 _ _ (by omega), r6 i hi, zu_a (by omega), n5 _ _ (by omega)]; exact o8 i hi
    · rw [zu_a (by omega), zu_a (by omega), r7 i hi, n6 _ _ (by omega)]; exact o9 i hi
    · rw [zu_k (by decide), zu_eq]
    · rw [zu_eq]
    · rw [zu_k (by decide), zu_k (by decide), m7 _ _ (by omega), m6 _ _ (by omega), zu_k (by decide), ← hI5, zu_k (by decide), zu_k (by decide), m4 _ _ (by omega), m3 _ _ (by omega), m2 _ _ (by omega), zu_eq]
    · rw [zu_k (by decide), zu_k (by decide), m7 _ _ (by omega), m6 _ _ (by omega), zu_eq]
    · rw [zu_k (by decide), zu_k (by decide), m7 _ _ (by omega), m6 _ _ (by omega), zu_k (by decide), ← hI5, zu_k (by decide), zu_eq]
    · rw [zu_k (by decide), zu_k (by decide), m7 _ _ (by omega), m6 _ _ (by omega), zu_k (by decide), ← hI5, zu_eq]
end
