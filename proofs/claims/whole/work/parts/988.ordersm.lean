/-! orders: the model. -/
section
variable {t : List (Nat × Nat)} {I : Nat → Nat → Int32} {J : Nat → Nat → Int64} {D : Nat → Nat → Option Nat} {K : Nat → Int32} {T : Nat → Int32} {l n : Nat} {L : lg_L}
set_option maxRecDepth 20000 in
/-- a row of 3136 ints copied -/
theorem mx_rows (a b fa fb : Nat) (hfa : zp_pt 112 fa = some a) (hfb : zp_pt 112 fb = some b) (ha : zp_sh0.getD a (999, 0) = (0, 3136)) (hb : zp_sh0.getD b (999, 0) = (0, 3136)) (ha9 : a < 139) (hb9 : b < 139) (hab : a ≠ b) {γ : Type} {kk : Unit → sf_M γ} {Q : γ → sf_St → Prop} (h : ∀ I', zf (fun x _ => x == b) I I' → (∀ k, k < 3136 → I' b k = I a k) → zp_wp (kk ()) Q (zp_Z t I' J D)) : zp_wp (sf_bnd (sf_loop (β := (Int32)) (γ := (Unit)) (fun b5 =>
  if (3136 : Int32) ≤ b5 then (
  sf_ret (.inr ())
  ) else (
  sf_bnd (sf_gR 11 fb (some 112)) fun x7 =>
  sf_bnd (sf_gR 11 fa (some 112)) fun x8 =>
  sf_bnd (sf_aI 0 x8 b5) fun x9 =>
  sf_bnd (sf_sI 0 x7 b5 x9) fun _ =>
  sf_bnd (sf_ret (b5 + (1 : Int32))) fun y10 =>
  sf_ret (.inl y10)
  )
  ) sf_fuel (0 : Int32)) kk) Q (zp_Z t I J D) := by
  refine zl_g (fun i (_ : Unit) => Int32.ofNat i) 0 3136 (s0 := ()) rfl (by omega) (by omega) (fun i _ I' => zf (fun x _ => x == b) I I' ∧ ∀ k, k < i → I' b k = I a k) ⟨zf_refl _ _, fun k hk => absurd hk (by omega)⟩ ?step ?fin
  case step =>
    rintro i s I' - hi ⟨f1, r1⟩
    have n1 : ¬ (3136 : Int32) ≤ Int32.ofNat i := zi_nle (a := 3136) hi (by omega)
    have a1 : I' a i = I a i := f1 a i (by simp [hab])
    refine ss_iF n1 ?_
    refine ss_pt rfl hfb ?_
    refine ss_pt rfl hfa ?_
    refine ss_aI (by rw [sh_fix ha9]; exact ha) rfl hi (by decide) a1 ?_
    refine ss_sI (by rw [sh_fix hb9]; exact hb) rfl hi (by decide) ?_
    refine ss_bret ?_
    refine ss_ret (Or.inl ⟨(), _, by rw [zi_s], rfl, zf_u2 f1 (by simp), fun k hk => ?_⟩)
    by_cases e : k = i
    · subst e; exact zu_eq
    · rw [zu_k e]; exact r1 k (by omega)
  case fin =>
    rintro s I' ⟨f1, r1⟩
    have n1 : (3136 : Int32) ≤ Int32.ofNat 3136 := by decide
    refine ss_iT n1 ?_
    exact ss_ret ⟨_, rfl, h I' f1 r1⟩
def zk_oy (a k : Nat) : Bool := zk_om a k || zk_ra a k || a == 113 || a == 117 || a == 134 || (a == 112 && (k == 0 || k == 40 || k == 43))
set_option maxRecDepth 20000 in
theorem zk_om_oy (a k : Nat) (h : zk_om a k = true) : zk_oy a k = true := by unfold zk_oy; rw [h]; rfl
set_option maxRecDepth 20000 in
theorem zk_ra_oy (a k : Nat) (h : zk_ra a k = true) : zk_oy a k = true := by unfold zk_oy; rw [h]; simp
set_option maxRecDepth 20000 in
theorem mx_orders_bad (hK : I 114 = K) (hT : ∀ i, i < l → I 119 i = sf_nw 2 (T i)) (hb : ∀ i, i < l → 0 ≤ T i ∧ T i ≤ 255) (hw : zr_wb I) (hl : l ≤ 400) (h13 : I 112 13 = Int32.ofNat l) {f : Nat} (ht : tx_text (tkC T l) (tkV T l) true (tk_n T l) 12 0 0 = .inl f) : zp_wp (jx_Mo_orders (some 112)) (fun r τ => r = -Int32.ofNat 6 ∧ ∃ I', τ = zp_Z t I' J D ∧ zf zk_oy I I' ∧ I' 114 = K ∧ I' 133 = I 133 ∧ I' 112 40 = I 112 40 ∧ I' 112 13 = 0 ∧ I' 112 14 = Int32.ofNat (tkS T l f) ∧ I' 112 43 = -1 ∧ an_at 112 0 113 I I' (-Int32.ofNat 6)) (zp_Z t I J D) := by
  unfold jx_Mo_orders
  refine ss_pI rfl ?_
  refine ss_rc rfl ?_
  refine zp_wp_call (mx_readsAs (ord := true) (n := l) (T := T) (fun i hi => by rw [zu_a (by decide)]; exact hT i hi) hb (fun k hk => by rw [zu_a (by decide)]; exact hw k hk) hl (by rw [zu_k (by decide)]; exact h13)) ?_
  rintro x τ ⟨I1, rfl, f1, r13, rsp, hm⟩
  rw [ht] at hm
  obtain ⟨rfl, r14, -⟩ := hm
  refine ss_iT rfl ?_
  refine ss_rc rfl ?_
  refine ss_call (mx_refuses (j := 6) (by decide) (by decide)) ?_
  refine ss_ret ⟨rfl, _, rfl, zf_u2 (zf_u2 (zf_trans (zf_u2 (zf_refl _ _) rfl) (zf_mono f1 zk_ra_oy)) rfl) rfl, ?_, ?_, ?_, ?_, ?_, ?_, an_l (I := I1) (fun k => ?_) (an_ref 112 0 113 (by decide) (by decide) (by decide))⟩
  · rw [zu_r (by decide), zu_r (by decide), zf_row f1 (fun k => rfl), zu_r (by decide)]; exact hK
  · rw [zu_r (by decide), zu_r (by decide), zf_row f1 (fun k => rfl), zu_r (by decide)]
  · rw [zu_a (by decide), zu_k (by decide), f1 112 40 rfl, zu_k (by decide)]
  · rw [zu_a (by decide), zu_k (by decide)]; exact r13
  · rw [zu_a (by decide), zu_k (by decide)]; exact r14
  · rw [zu_a (by decide), zu_k (by decide), f1 112 43 rfl, zu_eq]
  · rw [f1 113 k rfl, zu_a (by decide)]
/-- the row with orders laid -/
noncomputable def kO (K : Nat → Int32) (T : Nat → Int32) (l : Nat) : Nat → Int32 := kL K 6 (tk_n T l) (tkC T l) (tkV T l)
set_option maxRecDepth 20000 in
theorem kO_lo {i : Nat} (hi : i < 231) : kO K T l i = K i := kL_lo hi
set_option maxRecDepth 20000 in
theorem kO_txt {cs : List tx_C} (hl : l ≤ 400) (ht : tx_text (tkC T l) (tkV T l) true (tk_n T l) 12 0 0 = .inr cs) : zr_txt (kO K T l) 6 true ∧ kz (kO K T l) 6 = tk_n T l ∧ kc (kO K T l) 6 = tkC T l ∧ kv (kO K T l) 6 = tkV T l := by
  have h4 : tk_n T l ≤ 400 := by have := tk_n_le (T := T) l; omega
  obtain ⟨z1, z2⟩ := kL_kz (K := K) (C := tkC T l) (V := tkV T l) (n := 6) h4
  obtain ⟨c1, c2⟩ := kL_kc (K := K) (C := tkC T l) (V := tkV T l) (n := 6) (by omega) h4
  have d1 : (fun k => if k < tk_n T l then tkC T l k else 0) = tkC T l := by
    funext k
    by_cases h : k < tk_n T l
    · rw [if_pos h]
    · rw [if_neg h]; unfold tkC; rw [if_neg h]
  have d2 : (fun k => if k < tk_n T l then tkV T l k else 0) = tkV T l := by
    funext k
    by_cases h : k < tk_n T l
    · rw [if_pos h]
    · rw [if_neg h]; unfold tkV; rw [if_neg h]
  rw [d1] at c1
  rw [d2] at c2
  have es : ks (kO K T l) 6 true = cs := by unfold ks kO; rw [c1, c2, z1, ht]
  refine ⟨?_, z1, c1, c2⟩
  unfold zr_txt
  rw [es]
  unfold kO
  rw [c1, c2, z1]
  exact ⟨z2, h4, tkV_0, ht, tx_text_cok (size := tk_n T l) tkV_0 (fun k hk => by unfold tkC; rw [if_neg (by omega)]) h4 12 0 0 (Nat.zero_le _) (by omega) cs ht⟩
set_option maxRecDepth 20000 in
theorem zv_lo {K' : Nat → Int32} (h : ∀ k, k < 231 → K' k = K k) (hv : zv K) : zv K' := by
  obtain ⟨v1, v2, v3, v4, v5, v6, v7, v8, v9, v10, v11, v12⟩ := hv
  exact ⟨fun i hi => by rw [h i (by omega)]; exact v1 i hi, by rw [h 192 (by omega)]; exact v2, by rw [h 193 (by omega)]; exact v3, by rw [h 194 (by omega)]; exact v4, fun i hi => by rw [h (195 + i) (by omega)]; exact v5 i hi, fun i hi => by rw [h (213 + 2 * i) (by omega)]; exact v6 i hi, by rw [h 225 (by omega)]; exact v7, by rw [h 226 (by omega)]; exact v8, by rw [h 227 (by omega)]; exact v9, by rw [h 228 (by omega)]; exact v10, by rw [h 229 (by omega)]; exact v11, by rw [h 229 (by omega), h 230 (by omega)]; exact v12⟩
set_option maxRecDepth 20000 in
theorem zr_off_lo {K' : Nat → Int32} {b : Nat} (h : ∀ k, k < 231 → K' k = K k) (hO : zr_off I b K) : zr_off I b K' := by
  obtain ⟨q1, q2, q3, q4, q5, q6, q7, q8, q9, q10, q11, q12, q13, q14, q15⟩ := hO
  exact ⟨fun i hi => by rw [h i (by omega)]; exact q1 i hi, by rw [h 192 (by omega)]; exact q2, by rw [h 193 (by omega)]; exact q3, by rw [h 194 (by omega)]; exact q4, fun i hi => by rw [h (195 + i) (by omega)]; exact q5 i hi, fun i hi => by rw [h (201 + i) (by omega)]; exact q6 i hi, fun i hi => by rw [h (207 + i) (by omega)]; exact q7 i hi, fun i hi => by rw [h (213 + 2 * i) (by omega)]; exact q8 i hi, fun i hi => by rw [h (214 + 2 * i) (by omega)]; exact q9 i hi, by rw [h 225 (by omega)]; exact q10, by rw [h 226 (by omega)]; exact q11, by rw [h 227 (by omega)]; exact q12, by rw [h 228 (by omega)]; exact q13, by rw [h 229 (by omega)]; exact q14, by rw [h 230 (by omega)]; exact q15⟩
set_option maxRecDepth 20000 in
theorem zr_ml_kO (hl : l ≤ 400) (hM : zr_ml K) : zr_ml (kO K T l) := by
  have h4 : tk_n T l ≤ 400 := by have := tk_n_le (T := T) l; omega
  obtain ⟨c, hc6, hc⟩ := zv_229 hM.1
  refine ⟨zv_lo (fun k hk => kO_lo hk) hM.1, fun n hn => ?_⟩
  rw [kO_lo (by omega)] at hn
  have hn6 : n < 6 := by rw [hc, zi_ixn (by omega)] at hn; omega
  exact kL_other (by omega) hn6 (by omega) h4 (hM.2 n hn)
set_option maxRecDepth 20000 in
theorem zr_cl_kO (hl : l ≤ 400) (hC : zr_cl t I D K) : zr_cl t I D (kO K T l) := by
  have h4 : tk_n T l ≤ 400 := by have := tk_n_le (T := T) l; omega
  obtain ⟨c, hc6, hc⟩ := zv_229 hC.2.1
  refine ⟨zr_off_lo (fun k hk => kO_lo hk) hC.1, zv_lo (fun k hk => kO_lo hk) hC.2.1, fun n hn => ?_⟩
  rw [kO_lo (by omega)] at hn
  have hn6 : n < 6 := by rw [hc, zi_ixn (by omega)] at hn; omega
  obtain ⟨p, p1, p2, p3, p4, p5⟩ := hC.2.2 n hn
  refine ⟨p, p1, p2, p3, kL_other (by omega) hn6 (by omega) h4 p4, ?_⟩
  have es : ks (kO K T l) n false = ks K n false := kL_ks (by omega) hn6 (by omega) h4 p4.2.1
  rw [es]; exact p5
end
