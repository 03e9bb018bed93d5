/-! The model's log; the class's pop. -/
section
variable {t : List (Nat × Nat)} {I : Nat → Nat → Int32} {J : Nat → Nat → Int64} {D : Nat → Nat → Option Nat} {K : Nat → Int32} {L : lg_L}
def zk_ml (a k : Nat) : Bool := a == 133 || (a == 112 && k == 40)
set_option maxRecDepth 20000 in
/-- what the model keeps, behind the entries that are there -/
theorem mx_keepsN {c : Int32} {R : Nat → Int32} {n : Nat} (hK : I 114 = K) (hn : n < 16) (h40 : I 112 40 = Int32.ofNat n) (hR : I 133 = R) : zp_wp (sf_bnd (sf_loop (β := (Int32)) (γ := (Unit)) (fun b12 =>
  if (195 : Int32) ≤ b12 then (
  sf_ret (.inr ())
  ) else (
  sf_bnd (sf_gR 11 38 (some 112)) fun x14 =>
  sf_bnd (sf_gI 11 40 (some 112)) fun x15 =>
  sf_bnd (sf_gR 11 2 (some 112)) fun x16 =>
  sf_bnd (sf_aI 0 x16 b12) fun x17 =>
  sf_bnd (sf_sI 0 x14 (((196 : Int32) * x15) + b12) x17) fun _ =>
  sf_bnd (sf_ret (b12 + (1 : Int32))) fun y18 =>
  sf_ret (.inl y18)
  )
  ) sf_fuel (0 : Int32)) (fun e19 =>
  sf_bnd (sf_gR 11 38 (some 112)) fun x20 =>
  sf_bnd (sf_gI 11 40 (some 112)) fun x21 =>
  sf_bnd (sf_sI 0 x20 (((196 : Int32) * x21) + (195 : Int32)) c) fun _ =>
  sf_bnd (sf_gI 11 40 (some 112)) fun x22 =>
  sf_bnd (sf_pI 11 40 (some 112) (x22 + (1 : Int32))) fun _ =>
  sf_ret ()
  )) (fun _ τ => ∃ I', τ = zp_Z t I' J D ∧ zf zk_ml I I' ∧ I' 112 40 = Int32.ofNat (n + 1) ∧ (∀ k, k < 196 * n → I' 133 k = R k) ∧ (∀ k, k < 195 → I' 133 (196 * n + k) = K k) ∧ I' 133 (196 * n + 195) = c) (zp_Z t I J D) := by
  have e196 : (196 : Int32) * Int32.ofNat n = Int32.ofNat (196 * n) := (Int32.ofNat_mul 196 n).symm
  refine zl_g (fun i (_ : Unit) => Int32.ofNat i) 0 195 (s0 := ()) rfl (by omega) (by omega) (fun i _ I' => zf (fun a _ => a == 133) I I' ∧ (∀ k, k < 196 * n → I' 133 k = R k) ∧ ∀ k, k < i → I' 133 (196 * n + k) = K k) ⟨zf_refl _ _, fun k _ => by rw [hR], fun k hk => absurd hk (by omega)⟩ ?step ?fin
  case step =>
    rintro i s I' - hi ⟨f1, r1, r2⟩
    have k0 : ¬ (195 : Int32) ≤ Int32.ofNat i := zi_nle (a := 195) hi (by omega)
    have h40' : I' 112 40 = Int32.ofNat n := by rw [f1 112 40 rfl]; exact h40
    have a1 : I' 114 i = K i := by rw [f1 114 i rfl, hK]
    have l1 : i < 5838 := by omega
    have l2 : 196 * n + i < 3136 := by omega
    have ei : (196 : Int32) * Int32.ofNat n + Int32.ofNat i = Int32.ofNat (196 * n + i) := by rw [e196]; exact zi_add _ _
    refine ss_iF k0 ?_
    refine ss_pt rfl rfl ?_
    refine ss_gI rfl h40' ?_
    refine ss_pt rfl rfl ?_
    refine ss_aI rfl rfl l1 (by decide) a1 ?_
    refine ss_sI rfl ei l2 (by decide) ?_
    refine ss_bret ?_
    refine ss_ret ?_
    refine Or.inl ⟨(), _, by rw [zi_s], rfl, zf_u2 f1 rfl, fun k hk => ?_, fun k hk => ?_⟩
    · rw [zu_k (by omega)]; exact r1 k hk
    · by_cases e : k = i
      · subst e; exact zu_eq
      · rw [zu_k (by omega)]; exact r2 k (by omega)
  case fin =>
    rintro s I' ⟨f1, r1, r2⟩
    have k0 : (195 : Int32) ≤ Int32.ofNat 195 := by decide
    have h40' : I' 112 40 = Int32.ofNat n := by rw [f1 112 40 rfl]; exact h40
    have l2 : 196 * n + 195 < 3136 := by omega
    have ei : (196 : Int32) * Int32.ofNat n + 195 = Int32.ofNat (196 * n + 195) := by rw [e196]; exact zi_add _ 195
    have h40'' : sf_u2 I' 133 (196 * n + 195) c 112 40 = Int32.ofNat n := by rw [zu_a (by decide)]; exact h40'
    refine ss_iT k0 ?_
    refine ss_ret ⟨_, rfl, ?_⟩
    refine ss_pt rfl rfl ?_
    refine ss_gI rfl h40' ?_
    refine ss_sI rfl ei l2 (by decide) ?_
    refine ss_gI rfl h40'' ?_
    refine ss_pI rfl ?_
    refine ss_ret ⟨_, rfl, zf_u2 (zf_u2 (zf_mono f1 (fun a k e => by simp only [beq_iff_eq] at e; simp [zk_ml, e])) rfl) rfl, by rw [zu_eq, zi_s], fun k hk => ?_, fun k hk => ?_, ?_⟩
    · rw [zu_a (by decide), zu_k (by omega)]; exact r1 k hk
    · rw [zu_a (by decide), zu_k (by omega)]; exact r2 k hk
    · rw [zu_a (by decide)]; exact zu_eq
set_option maxRecDepth 20000 in
theorem mx_keeps {c : Int32} (hK : I 114 = K) (hL : mx_lg I L) : zp_wp (jx_Mo_keeps (some 112) c) (fun _ τ => ∃ I', τ = zp_Z t I' J D ∧ zf zk_ml I I' ∧ mx_lg I' (lg_push L (c, K))) (zp_Z t I J D) := by
  obtain ⟨h16, h40, he⟩ := hL
  unfold jx_Mo_keeps
  refine ss_gI rfl h40 ?_
  by_cases h6 : L.length = 16
  · rw [h6]
    refine zp_wp_call (P := fun _ τ => ∃ I1, τ = zp_Z t I1 J D ∧ zf zk_ml I I1 ∧ I1 112 40 = Int32.ofNat 15 ∧ ∀ k, k < 15 * 196 → I1 133 k = I 133 (k + 196)) ?_ ?_
    · refine ss_iT rfl ?_
      refine zl_g (fun i (_ : Unit) => Int32.ofNat i) 0 (15 * 196) (s0 := ()) rfl (by omega) (by omega) (fun i _ I' => zf (fun a _ => a == 133) I I' ∧ (∀ k, k < i → I' 133 k = I 133 (k + 196)) ∧ ∀ k, i ≤ k → I' 133 k = I 133 k) ⟨zf_refl _ _, fun k hk => absurd hk (by omega), fun k _ => rfl⟩ ?step ?fin
      case step =>
        rintro i s I' - hi ⟨f1, r1, r2⟩
        have k0 : ¬ ((15 : Int32) * (196 : Int32)) ≤ Int32.ofNat i := zi_nle (a := 15 * 196) hi (by omega)
        have l1 : i + 196 < 3136 := by omega
        have l2 : i < 3136 := by omega
        have a1 : I' 133 (i + 196) = I 133 (i + 196) := r2 _ (by omega)
        refine ss_iF k0 ?_
        refine ss_pt rfl rfl ?_
        refine ss_pt rfl rfl ?_
        refine ss_aI rfl (zi_add i 196) l1 (by decide) a1 ?_
        refine ss_sI rfl rfl l2 (by decide) ?_
        refine ss_bret ?_
        refine ss_ret ?_
        refine Or.inl ⟨(), _, by rw [zi_s], rfl, zf_u2 f1 rfl, fun k hk => ?_, fun k hk => ?_⟩
        · by_cases e : k = i
          · subst e; exact zu_eq
          · rw [zu_k (by omega)]; exact r1 k (by omega)
        · rw [zu_k (by omega)]; exact r2 k (by omega)
      case fin =>
        rintro s I' ⟨f1, r1, r2⟩
        have k0 : ((15 : Int32) * (196 : Int32)) ≤ Int32.ofNat (15 * 196) := by decide
        have h40' : I' 112 40 = Int32.ofNat 16 := by rw [f1 112 40 rfl, h40, h6]
        refine ss_iT k0 ?_
        refine ss_ret ⟨_, rfl, ?_⟩
        refine ss_gI rfl h40' ?_
        refine ss_pI rfl ?_
        refine ss_ret ⟨_, rfl, zf_u2 (zf_mono f1 (fun a k e => by simp only [beq_iff_eq] at e; simp [zk_ml, e])) rfl, zu_eq, fun k hk => ?_⟩
        rw [zu_a (by decide)]; exact r1 k hk
    · rintro _ τ ⟨I1, rfl, f1, q40, q⟩
      refine zp_wp_mono (mx_keepsN (c := c) (K := K) (n := 15) (by rw [zf_row f1 (fun k => rfl)]; exact hK) (by omega) q40 rfl) ?_
      rintro _ τ ⟨I2, rfl, f2, p40, p1, p2, p3⟩
      have hlen : (lg_push L (c, K)).length = 16 := by unfold lg_push; rw [if_pos h6, List.length_append, List.length_tail]; simp; omega
      refine ⟨I2, rfl, zf_trans f1 f2, by omega, by rw [hlen]; exact p40, fun i e hi => ?_⟩
      have hi16 : i < 16 := by
        have := (List.getElem?_eq_some_iff.mp hi).1
        omega
      unfold lg_push at hi
      rw [if_pos h6] at hi
      by_cases hi15 : i < 15
      · rw [List.getElem?_append_left (by rw [List.length_tail]; omega), List.getElem?_tail] at hi
        obtain ⟨e1, e2⟩ := he (i + 1) e hi
        refine ⟨fun k hk => ?_, ?_⟩
        · rw [p1 _ (by omega), q _ (by omega), show 196 * i + k + 196 = 196 * (i + 1) + k by omega]; exact e1 k hk
        · rw [p1 _ (by omega), q _ (by omega), show 196 * i + 195 + 196 = 196 * (i + 1) + 195 by omega]; exact e2
      · have hi' : i = 15 := by omega
        subst hi'
        rw [List.getElem?_append_right (by rw [List.length_tail]; omega), List.length_tail, h6] at hi
        have : e = (c, K) := by simpa using hi.symm
        subst this
        exact ⟨p2, p3⟩
  · have hne : ¬ Int32.ofNat L.length = 16 := zi_ne (b := 16) h6 (by omega) (by omega)
    refine zp_wp_call (P := fun _ τ => τ = zp_Z t I J D) (ss_iF hne (ss_ret rfl)) ?_
    rintro _ τ rfl
    refine zp_wp_mono (mx_keepsN (c := c) (n := L.length) hK (by omega) h40 rfl) ?_
    rintro _ τ ⟨I2, rfl, f2, p40, p1, p2, p3⟩
    have hlen : (lg_push L (c, K)).length = L.length + 1 := by unfold lg_push; rw [if_neg h6, List.length_append]; rfl
    refine ⟨I2, rfl, f2, by omega, by rw [hlen]; exact p40, fun i e hi => ?_⟩
    have hiL : i < L.length + 1 := by
      have := (List.getElem?_eq_some_iff.mp hi).1
      omega
    unfold lg_push at hi
    rw [if_neg h6] at hi
    by_cases hi15 : i < L.length
    · rw [List.getElem?_append_left hi15] at hi
      obtain ⟨e1, e2⟩ := he i e hi
      refine ⟨fun k hk => ?_, ?_⟩
      · rw [p1 _ (by omega)]; exact e1 k hk
      · rw [p1 _ (by omega)]; exact e2
    · have hi' : i = L.length := by omega
      subst hi'
      rw [List.getElem?_append_right (Nat.le_refl _), Nat.sub_self] at hi
      have : e = (c, K) := by simpa using hi.symm
      subst this
      exact ⟨p2, p3⟩
/-- the row K with the first 195 cells of A -/
def kW (K A : Nat → Int32) : Nat → Int32 := fun i => if i < 195 then A i else K i
set_option maxRecDepth 20000 in
theorem zv_kW (hv : zv K) {A : Nat → Int32} (h : pk_ok A) : zv (kW K A) := by
  obtain ⟨v1, v2, v3, v4, v5, v6, v7, v8, v9, v10, v11, v12⟩ := hv
  obtain ⟨a1, a2, a3, a4⟩ := h
  have lo : ∀ i, i < 195 → kW K A i = A i := fun i hi => if_pos hi
  have hi' : ∀ i, 195 ≤ i → kW K A i = K i := fun i hi => if_neg (by omega)
  exact ⟨fun i hi => by rw [lo i (by omega)]; exact a1 i hi, by rw [lo 192 (by omega)]; exact a2, by rw [lo 193 (by omega)]; exact a3, by rw [lo 194 (by omega)]; exact a4, fun i hi => by rw [hi' _ (by omega)]; exact v5 i hi, fun i hi => by rw [hi' _ (by omega)]; exact v6 i hi, by rw [hi' 225 (by omega)]; exact v7, by rw [hi' 226 (by omega)]; exact v8, by rw [hi' 227 (by omega)]; exact v9, by rw [hi' 228 (by omega)]; exact v10, by rw [hi' 229 (by omega)]; exact v11, by rw [hi' 229 (by omega), hi' 230 (by omega)]; exact v12⟩
set_option maxRecDepth 20000 in
/-- the class's office with a Pocket copied in -/
theorem zr_cl_kW {I' : Nat → Nat → Int32} {A : Nat → Int32} (hC : zr_cl t I D K) (hA : pk_ok A) (hp : pk_at I' 3 A) (hf : ∀ a, a = 2 ∨ (4 < a ∧ a < 11) ∨ 138 < a → I' a = I a) : zr_cl t I' D (kW K A) := by
  have lo : ∀ i, i < 195 → kW K A i = A i := fun i hi => if_pos hi
  have hi' : ∀ i, 195 ≤ i → kW K A i = K i := fun i hi => if_neg (by omega)
  obtain ⟨q1, q2, q3, q4, q5, q6, q7, q8, q9, q10, q11, q12, q13, q14, q15⟩ := hC.1
  obtain ⟨p1, p2, p3, p4⟩ := hp
  refine zr_cl_w hC (fun k hk => hi' k (by omega)) (hi' 229 (by omega)) (fun x hx => hf x (by omega)) ?_ (zv_kW hC.2.1 hA)
  refine ⟨fun i hi => ?_, ?_, ?_, ?_, fun i hi => ?_, fun i hi => ?_, fun i hi => ?_, fun i hi => ?_, fun i hi => ?_, ?_, ?_, ?_, ?_, ?_, ?_⟩
  · rw [lo i (by omega)]; exact p1 i hi
  · rw [lo 192 (by omega)]; exact p2
  · rw [lo 193 (by omega)]; exact p3
  · rw [lo 194 (by omega)]; exact p4
  · rw [hi' (195 + i) (by omega), hf _ (by omega)]; exact q5 i hi
  · rw [hi' (201 + i) (by omega), hf _ (by omega)]; exact q6 i hi
  · rw [hi' (207 + i) (by omega), hf _ (by omega)]; exact q7 i hi
  · rw [hi' (213 + 2 * i) (by omega), hf _ (by omega)]; exact q8 i hi
  · rw [hi' (214 + 2 * i) (by omega), hf _ (by omega)]; exact q9 i hi
  · rw [hi' 225 (by omega), hf _ (by omega)]; exact q10
  · rw [hi' 226 (by omega), hf _ (by omega)]; exact q11
  · rw [hi' 227 (by omega), hf _ (by omega)]; exact q12
  · rw [hi' 228 (by omega), hf _ (by omega)]; exact q13
  · rw [hi' 229 (by omega), hf _ (by omega)]; exact q14
  · rw [hi' 230 (by omega), hf _ (by omega)]; exact q15
set_option maxRecDepth 20000 in
theorem cx_pop (hL : cx_lg 20 I L) : zp_wp (jx_Log_pop (some 20) (some 3)) (fun r τ => (L = [] ∧ r = -1 ∧ τ = zp_Z t I J D) ∨ ∃ e, L.getLast? = some e ∧ r = e.1 ∧ ∃ I', τ = zp_Z t I' J D ∧ zf (fun a k => (a == 20 && k == 3) || a == 3 || a == 4) I I' ∧ pk_at I' 3 e.2 ∧ cx_lg 20 I' L.dropLast) (zp_Z t I J D) := by
  obtain ⟨h16, h3, f, hf, h2, he⟩ := hL
  unfold jx_Log_pop
  refine ss_gI rfl h3 ?_
  by_cases hL0 : L = []
  · subst hL0
    refine ss_iF (by decide) ?_
    exact ss_ret (Or.inl ⟨rfl, rfl, rfl⟩)
  · have hpos : 0 < L.length := Nat.pos_of_ne_zero (fun h => hL0 (List.length_eq_zero_iff.mp h))
    obtain ⟨n, hn⟩ : ∃ n, L.length = n + 1 := ⟨L.length - 1, by omega⟩
    have c1 : (0 : Int32) < Int32.ofNat L.length := zi_ltL (a := 0) hpos (by omega)
    have q3 : sf_u2 I 20 3 (Int32.ofNat L.length - 1) 20 3 = Int32.ofNat n := by rw [zu_eq, hn]; exact zi_p n
    have q2 : sf_u2 I 20 3 (Int32.ofNat L.length - 1) 20 2 = Int32.ofNat f := by rw [zu_k (by decide)]; exact h2
    have hm : (f + n) % 16 < 16 := Nat.mod_lt _ (by decide)
    obtain ⟨e, hle⟩ : ∃ e, L[n]? = some e := ⟨L[n]'(by omega), List.getElem?_eq_getElem (by omega)⟩
    obtain ⟨e1, e2⟩ := he n e hle
    refine ss_iT c1 ?_
    refine ss_gI rfl h3 ?_
    refine ss_pI rfl ?_
    refine ss_gI rfl q2 ?_
    refine ss_gI rfl q3 ?_
    rw [show Int32.ofNat f + Int32.ofNat n = Int32.ofNat (f + n) from zi_add _ _]
    refine ss_call (ze_floorMod (by omega)) ?_
    refine ss_pt rfl rfl ?_
    refine ss_aR (n := 16) rfl rfl hm (by decide) (rfs_pt (pt_slot _ hm).1) ?_
    refine ss_iF (by simp) ?_
    refine ss_rc rfl ?_
    have pe : pk_at (sf_u2 I 20 3 (Int32.ofNat L.length - 1)) (23 + 2 * ((f + n) % 16)) e.2 := pk_fr (zu_r (by omega)) (zu_r (by omega)) e2
    refine zp_wp_call (cx_copyP (b := 3) (pk_is_slot hm) pk_is_3 (by omega) (by omega) (by omega) pe) ?_
    rintro _ τ ⟨I1, rfl, f1, p1⟩
    have s1 : I1 22 ((f + n) % 16) = e.1 := by rw [f1 22 _ rfl, zu_a (by decide)]; exact e1
    refine ss_pt rfl rfl ?_
    refine ss_aI (n := 16) rfl rfl hm (by decide) s1 ?_
    have hr : ∀ a, 20 < a → I1 a = I a := fun a ha => by
      rw [zf_row f1 (fun k => by simp [zk_pk]; omega), zu_r (by omega)]
    refine ss_ret (Or.inr ⟨e, ?_, rfl, I1, rfl, ?_, p1, ?_⟩)
    · rw [List.getLast?_eq_getElem?, hn]; exact hle
    · intro a k q
      simp only [Bool.or_eq_false_iff, Bool.and_eq_false_imp, beq_iff_eq, beq_eq_false_iff_ne] at q
      rw [f1 a k (by simp [zk_pk]; omega)]
      by_cases h20 : a = 20
      · subst h20; exact zu_k (q.1.1 rfl)
      · exact zu_a h20
    · refine ⟨by rw [List.length_dropLast]; omega, by rw [f1 20 3 rfl, q3, List.length_dropLast, hn]; rfl, f, hf, by rw [f1 20 2 rfl]; exact q2, fun i x hi => ?_⟩
      have hi' : L[i]? = some x := by
        rw [List.getElem?_dropLast] at hi
        split at hi
        · exact hi
        · cases hi
      obtain ⟨x1, x2⟩ := he i x hi'
      have : (f + i) % 16 < 16 := Nat.mod_lt _ (by decide)
      exact ⟨by rw [hr 22 (by omega)]; exact x1, pk_fr (hr _ (by omega)) (hr _ (by omega)) x2⟩
end
