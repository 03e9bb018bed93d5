/-! The CHEAPEST: class and model. -/

noncomputable def sp_min (S : Nat → Prop) : Option Nat := @dite _ (∃ o, zy_min S o) (Classical.propDecidable _) (fun h => h.choose) (fun _ => none)
set_option maxRecDepth 20000 in
theorem sp_min_eq {S : Nat → Prop} {o : Option Nat} (h : zy_min S o) : sp_min S = o := by
  unfold sp_min
  rw [dif_pos ⟨o, h⟩]
  exact zy_min_uniq (Exists.choose_spec (⟨o, h⟩ : ∃ o, zy_min S o)) h
/-- legs by SINGLES on train n -/
def sp_lg (K : Nat → Int32) (n a b : Nat) : Option Nat := if a < 8 ∧ b < 8 ∧ sp_goes K n a b = true then sp_sgl K n a b else none
noncomputable def sp_by (K : Nat → Int32) (n k a b : Nat) : Option Nat := if a = b then none else sp_min (wy (sp_lg K n) b k a)
set_option maxRecDepth 20000 in
theorem sp_sgl_le {K : Nat → Int32} {n a b c : Nat} (ha : a < 8) (hb : b < 8) (h : sp_sgl K n a b = some c) : c ≤ 9999 := by
  unfold sp_sgl at h
  split at h
  · cases h
  · cases h
    obtain ⟨c, hc, e⟩ := sp_cost_rng K (K 230) (s := 0) (by omega) ha hb
    rw [show sp_cost K (K 230) 0 (Int32.ofNat a) (Int32.ofNat b) = Int32.ofNat c from e, zi_ixn (by omega)]; exact hc
set_option maxRecDepth 20000 in
theorem sp_lg_s {K : Nat → Int32} {n a b c : Nat} (h : sp_lg K n a b = some c) : c ≤ 9999 ∧ a < 8 ∧ b < 8 ∧ sp_goes K n a b = true ∧ sp_sgl K n a b = some c := by
  unfold sp_lg at h
  split at h
  · rename_i h0; exact ⟨sp_sgl_le h0.1 h0.2.1 h, h0.1, h0.2.1, h0.2.2, h⟩
  · cases h
set_option maxRecDepth 20000 in
theorem sp_lg_dir {K : Nat → Int32} {n p q : Nat} (hp : p < 8) (hq : q < 8) (hg : sp_goes K n p q = true) : zl_dir (sp_lg K n) (zs_stop K n) p q := by
  intro s x a h
  obtain ⟨h1, h2, h3, h4, -⟩ := sp_lg_s h
  obtain ⟨g1, g2, g3, g4, g5⟩ := sp_goes_T h2 h3 h4
  obtain ⟨f1, f2, f3, f4, f5⟩ := sp_goes_T hp hq hg
  refine ⟨by omega, h2, h3, g3, ?_⟩
  by_cases hu : K (201 + n) = 1
  · rw [if_pos (f4 hu)]; exact g4 hu
  · rw [if_neg (by have := f5 hu; omega)]; exact g5 hu
set_option maxRecDepth 20000 in
theorem sp_goes_I {K : Nat → Int32} {n p q : Nat} (hp : p < 8) (hq : q < 8) (h1 : p ≠ q) (h2 : zs_stop K n p = true) (h3 : zs_stop K n q = true) (h4 : K (201 + n) = 1 → p < q) (h5 : ¬ K (201 + n) = 1 → q < p) : sp_goes K n p q = true := by
  unfold sp_goes
  rw [zs_legN hp hq, decide_eq_true h1, show zs_bit (K (195 + n)) (Int32.ofNat p) = true from h2, show zs_bit (K (195 + n)) (Int32.ofNat q) = true from h3]
  by_cases hu : K (201 + n) = 1
  · rw [if_pos hu, decide_eq_true (h4 hu)]; rfl
  · rw [if_neg hu, decide_eq_true (h5 hu)]; rfl
set_option maxRecDepth 20000 in
/-- where there is a way, the train goes -/
theorem wy_goes {K : Nat → Int32} {n q : Nat} (hq : q < 8) : ∀ k p c, p < 8 → p ≠ q → wy (sp_lg K n) q k p c → sp_goes K n p q = true
  | 0, p, c, _, hne, h => absurd h.1 hne
  | k + 1, p, c, hp, hne, h => by
    rcases h with h | ⟨x, a, b, h1, h2, h3, -⟩
    · exact wy_goes hq k p c hp hne h
    · obtain ⟨-, -, hx, hg, -⟩ := sp_lg_s h2
      by_cases e : x = q
      · rw [← e]; exact hg
      · have hg2 := wy_goes hq k x b hx e h3
        obtain ⟨g1, g2, g3, g4, g5⟩ := sp_goes_T hp hx hg
        obtain ⟨f1, f2, f3, f4, f5⟩ := sp_goes_T hx hq hg2
        exact sp_goes_I hp hq hne g2 f3 (fun u => by have := g4 u; have := f4 u; omega) (fun u => by have := g5 u; have := f5 u; omega)
set_option maxRecDepth 20000 in
theorem sp_by_no {K : Nat → Int32} {n k p q : Nat} (hp : p < 8) (hq : q < 8) (hg : ¬ sp_goes K n p q = true) : sp_by K n k p q = none := by
  unfold sp_by
  by_cases e : p = q
  · rw [if_pos e]
  · rw [if_neg e]
    exact sp_min_eq ⟨fun c hc => absurd (wy_goes hq k p c hp e hc) hg, fun v hv => by cases hv⟩
set_option maxRecDepth 20000 in
theorem sp_leg_lg {K : Nat → Int32} {n : Nat} (hn : n < 6) (hh : sp_has K (Int32.ofNat n) = true) {a b : Nat} (ha : a < 8) (hb : b < 8) : sp_leg K (Int32.ofNat n) a b = sp_lg K n a b := by
  unfold sp_leg sp_lg sp_sgl
  rw [hh, zi_ixn (by omega), Bool.true_and]
  cases hg : sp_goes K n a b with
  | false => rw [if_neg (by simp), if_neg (by simp)]
  | true =>
    rw [if_pos (show a < 8 ∧ b < 8 ∧ true = true from ⟨ha, hb, rfl⟩)]
    cases hbar : sp_bars K 0 (Int32.ofNat a) (Int32.ofNat b) (K (207 + n)) with
    | false => rw [if_pos (by rfl), if_neg (by decide)]
    | true => rw [if_neg (by decide), if_pos rfl]
def zk_m2 (a k : Nat) : Bool := zk_m1 a k || a == 125 || a == 126 || a == 127 || (a == 112 && k == 30)
set_option maxRecDepth 20000 in
theorem zk_ls_m2 {I I' : Nat → Nat → Int32} (h : zf zk_ls I I') : zf zk_m2 I I' := zf_mono h (fun a k e => by
  unfold zk_ls at e; unfold zk_m2; rw [Bool.or_eq_true] at e; rcases e with e | e <;> simp [e])
def zk_x2 (a _k : Nat) : Bool := a == 12 || a == 13 || a == 15 || a == 18 || a == 19
/-- what the model keeps of a line that is laid -/
def zr_laid (I : Nat → Nat → Int32) (L : Nat → Nat → Option Nat) (stop : Nat → Bool) (p q m : Nat) (ln F : Nat → Nat) : Prop := zr_ln I m ln ∧ zl_ok stop p q (zd p q + 1) m ln ∧ ln 0 = p ∧ ln (m - 1) = q ∧ 2 ≤ m ∧ (∀ i j, i < j → j < m → I 126 (8 * i + j) = enF (L (ln i) (ln j))) ∧ ∀ i, i < m → I 127 i = Int32.ofNat (F i) ∧ F i ≤ 100000000 ∧ zy_min (wy L q 7 (ln i)) (dec (F i))
section
variable {t : List (Nat × Nat)} {I : Nat → Nat → Int32} {J : Nat → Nat → Int64} {D : Nat → Nat → Option Nat} {K : Nat → Int32}
set_option maxRecDepth 20000 in
theorem mx_cheapestOf (hK : I 114 = K) (hM : zr_ml K) {n p q : Nat} (hn : n < 6) (hp : p < 8) (hq : q < 8) : zp_wp (jx_Mo_cheapestOf (some 112) (Int32.ofNat n) (Int32.ofNat p) (Int32.ofNat q)) (fun r τ => ∃ I', τ = zp_Z t I' J D ∧ zf zk_m2 I I' ∧ r = en (sp_by K n 7 p q) ∧ (sp_goes K n p q = true → ∃ m ln F, zr_laid I' (sp_lg K n) (zs_stop K n) p q m ln F)) (zp_Z t I J D) := by
  have hgo := mx_goes (t := t) (I := I) (J := J) (D := D) hK hn hp hq
  unfold jx_Mo_cheapestOf
  cases hg : sp_goes K n p q with
  | false =>
    rw [hg] at hgo
    have hz : zb false = 0 := rfl
    repeat (first | (first | (with_reducible refine ss_ret ?_) | (with_reducible refine ss_bret ?_) | ((with_reducible apply ss_rc); (· first | (with_reducible assumption) | exact rfl)) | ((with_reducible apply ss_pt); (· first | (with_reducible assumption) | exact rfl); (· exact rfl)) | ((with_reducible apply ss_gR); (· first | (with_reducible assumption) | exact rfl); (· (with_reducible assumption))) | ((with_reducible apply ss_gI); (· first | (with_reducible assumption) | exact rfl); (· ((repeat (first | (with_reducible apply zr_e) | ((with_reducible apply zr_a); (· first | decide | omega)) | ((with_reducible apply zr_k); (· omega)) | (with_reducible apply zr_1e) | ((with_reducible apply zr_1a); (· first | decide | omega)))); (first | (with_reducible assumption) | exact rfl)))) | ((with_reducible apply ss_pI); (· first | (with_reducible assumption) | exact rfl)) | ((with_reducible apply ss_aI); (· first | (with_reducible assumption) | exact rfl); (· (repeat (first | (with_reducible assumption) | (with_reducible exact rfl) | (with_reducible apply zn_add) | (with_reducible apply zn_mul) | (with_reducible exact zi_lit2 _)))); (· first | omega | decide); (· decide); (· ((repeat (first | (with_reducible apply zr_e) | ((with_reducible apply zr_a); (· first | decide | omega)) | ((with_reducible apply zr_k); (· omega)) | (with_reducible apply zr_1e) | ((with_reducible apply zr_1a); (· first | decide | omega)))); (first | (with_reducible assumption) | exact rfl)))) | ((with_reducible apply ss_sI); (· first | (with_reducible assumption) | exact rfl); (· (repeat (first | (with_reducible assumption) | (with_reducible exact rfl) | (with_reducible apply zn_add) | (with_reducible apply zn_mul) | (with_reducible exact zi_lit2 _)))); (· first | omega | decide); (· decide)) | ((with_reducible apply ss_len); (· first | (with_reducible assumption) | exact rfl); (· decide)) | (with_reducible refine ss_as ?_) | (with_reducible refine ss_bor ?_) | (with_reducible refine ss_or ?_) | (with_reducible refine ss_bcl ?_) | (with_reducible refine ss_bcr ?_) | (with_reducible refine ss_cl ?_) | (with_reducible refine ss_cr ?_) | (first | ((with_reducible refine ss_biT ?_ ?_); (· first | (with_reducible assumption) | decide)) | ((with_reducible refine ss_biF ?_ ?_); (· first | (with_reducible assumption) | decide)) | ((with_reducible refine ss_iT ?_ ?_); (· first | (with_reducible assumption) | decide)) | ((with_reducible refine ss_iF ?_ ?_); (· first | (with_reducible assumption) | decide))) | ((with_reducible apply ss_pZ); (· first | (with_reducible assumption) | exact rfl); (· first | (with_reducible assumption) | exact Or.inl rfl | exact Or.inr rfl)) | ((with_reducible apply ss_dvL); (· first | (with_reducible assumption) | decide)) | ((with_reducible apply ss_rmL); (· first | (with_reducible assumption) | decide)) | ((with_reducible apply ss_rmI); (· first | (with_reducible assumption) | decide)) | ((with_reducible apply ss_rz1); (· first | (with_reducible assumption) | exact Or.inl rfl | exact Or.inr rfl))) | (with_reducible refine ss_call hgo ?_))
    exact ⟨I, rfl, zf_refl _ _, by rw [sp_by_no hp hq (by rw [hg]; decide)]; rfl, fun h => by cases h⟩
  | true =>
    rw [hg] at hgo
    have hz : ¬ zb true = 0 := by decide
    repeat (first | (first | (with_reducible refine ss_ret ?_) | (with_reducible refine ss_bret ?_) | ((with_reducible apply ss_rc); (· first | (with_reducible assumption) | exact rfl)) | ((with_reducible apply ss_pt); (· first | (with_reducible assumption) | exact rfl); (· exact rfl)) | ((with_reducible apply ss_gR); (· first | (with_reducible assumption) | exact rfl); (· (with_reducible assumption))) | ((with_reducible apply ss_gI); (· first | (with_reducible assumption) | exact rfl); (· ((repeat (first | (with_reducible apply zr_e) | ((with_reducible apply zr_a); (· first | decide | omega)) | ((with_reducible apply zr_k); (· omega)) | (with_reducible apply zr_1e) | ((with_reducible apply zr_1a); (· first | decide | omega)))); (first | (with_reducible assumption) | exact rfl)))) | ((with_reducible apply ss_pI); (· first | (with_reducible assumption) | exact rfl)) | ((with_reducible apply ss_aI); (· first | (with_reducible assumption) | exact rfl); (· (repeat (first | (with_reducible assumption) | (with_reducible exact rfl) | (with_reducible apply zn_add) | (with_reducible apply zn_mul) | (with_reducible exact zi_lit2 _)))); (· first | omega | decide); (· decide); (· ((repeat (first | (with_reducible apply zr_e) | ((with_reducible apply zr_a); (· first | decide | omega)) | ((with_reducible apply zr_k); (· omega)) | (with_reducible apply zr_1e) | ((with_reducible apply zr_1a); (· first | decide | omega)))); (first | (with_reducible assumption) | exact rfl)))) | ((with_reducible apply ss_sI); (· first | (with_reducible assumption) | exact rfl); (· (repeat (first | (with_reducible assumption) | (with_reducible exact rfl) | (with_reducible apply zn_add) | (with_reducible apply zn_mul) | (with_reducible exact zi_lit2 _)))); (· first | omega | decide); (· decide)) | ((with_reducible apply ss_len); (· first | (with_reducible assumption) | exact rfl); (· decide)) | (with_reducible refine ss_as ?_) | (with_reducible refine ss_bor ?_) | (with_reducible refine ss_or ?_) | (with_reducible refine ss_bcl ?_) | (with_reducible refine ss_bcr ?_) | (with_reducible refine ss_cl ?_) | (with_reducible refine ss_cr ?_) | (first | ((with_reducible refine ss_biT ?_ ?_); (· first | (with_reducible assumption) | decide)) | ((with_reducible refine ss_biF ?_ ?_); (· first | (with_reducible assumption) | decide)) | ((with_reducible refine ss_iT ?_ ?_); (· first | (with_reducible assumption) | decide)) | ((with_reducible refine ss_iF ?_ ?_); (· first | (with_reducible assumption) | decide))) | ((with_reducible apply ss_pZ); (· first | (with_reducible assumption) | exact rfl); (· first | (with_reducible assumption) | exact Or.inl rfl | exact Or.inr rfl)) | ((with_reducible apply ss_dvL); (· first | (with_reducible assumption) | decide)) | ((with_reducible apply ss_rmL); (· first | (with_reducible assumption) | decide)) | ((with_reducible apply ss_rmI); (· first | (with_reducible assumption) | decide)) | ((with_reducible apply ss_rz1); (· first | (with_reducible assumption) | exact Or.inl rfl | exact Or.inr rfl))) | (with_reducible refine ss_call hgo ?_))
    obtain ⟨hne, hsp, hsq, hup, hdn⟩ := sp_goes_T hp hq hg
    refine zp_wp_call (mx_laysLine hK hn hp hq hg) ?_
    rintro _ σ ⟨I1, m, ln, rfl, f1, hm, hln, hok⟩
    (repeat (first | (with_reducible refine ss_ret ?_) | (with_reducible refine ss_bret ?_) | ((with_reducible apply ss_rc); (· first | (with_reducible assumption) | exact rfl)) | ((with_reducible apply ss_pt); (· first | (with_reducible assumption) | exact rfl); (· exact rfl)) | ((with_reducible apply ss_gR); (· first | (with_reducible assumption) | exact rfl); (· (with_reducible assumption))) | ((with_reducible apply ss_gI); (· first | (with_reducible assumption) | exact rfl); (· ((repeat (first | (with_reducible apply zr_e) | ((with_reducible apply zr_a); (· first | decide | omega)) | ((with_reducible apply zr_k); (· omega)) | (with_reducible apply zr_1e) | ((with_reducible apply zr_1a); (· first | decide | omega)))); (first | (with_reducible assumption) | exact rfl)))) | ((with_reducible apply ss_pI); (· first | (with_reducible assumption) | exact rfl)) | ((with_reducible apply ss_aI); (· first | (with_reducible assumption) | exact rfl); (· (repeat (first | (with_reducible assumption) | (with_reducible exact rfl) | (with_reducible apply zn_add) | (with_reducible apply zn_mul) | (with_reducible exact zi_lit2 _)))); (· first | omega | decide); (· decide); (· ((repeat (first | (with_reducible apply zr_e) | ((with_reducible apply zr_a); (· first | decide | omega)) | ((with_reducible apply zr_k); (· omega)) | (with_reducible apply zr_1e) | ((with_reducible apply zr_1a); (· first | decide | omega)))); (first | (with_reducible assumption) | exact rfl)))) | ((with_reducible apply ss_sI); (· first | (with_reducible assumption) | exact rfl); (· (repeat (first | (with_reducible assumption) | (with_reducible exact rfl) | (with_reducible apply zn_add) | (with_reducible apply zn_mul) | (with_reducible exact zi_lit2 _)))); (· first | omega | decide); (· decide)) | ((with_reducible apply ss_len); (· first | (with_reducible assumption) | exact rfl); (· decide)) | (with_reducible refine ss_as ?_) | (with_reducible refine ss_bor ?_) | (with_reducible refine ss_or ?_) | (with_reducible refine ss_bcl ?_) | (with_reducible refine ss_bcr ?_) | (with_reducible refine ss_cl ?_) | (with_reducible refine ss_cr ?_) | (first | ((with_reducible refine ss_biT ?_ ?_); (· first | (with_reducible assumption) | decide)) | ((with_reducible refine ss_biF ?_ ?_); (· first | (with_reducible assumption) | decide)) | ((with_reducible refine ss_iT ?_ ?_); (· first | (with_reducible assumption) | decide)) | ((with_reducible refine ss_iF ?_ ?_); (· first | (with_reducible assumption) | decide))) | ((with_reducible apply ss_pZ); (· first | (with_reducible assumption) | exact rfl); (· first | (with_reducible assumption) | exact Or.inl rfl | exact Or.inr rfl)) | ((with_reducible apply ss_dvL); (· first | (with_reducible assumption) | decide)) | ((with_reducible apply ss_rmL); (· first | (with_reducible assumption) | decide)) | ((with_reducible apply ss_rmI); (· first | (with_reducible assumption) | decide)) | ((with_reducible apply ss_rz1); (· first | (with_reducible assumption) | exact Or.inl rfl | exact Or.inr rfl))))
    obtain ⟨e0, eq, hm2⟩ := zl_ends hok hsp hsq hne
    have hzd : zd p q ≤ 7 := by unfold zd; split <;> omega
    have h8 : ∀ i, i < m → ln i < 8 := fun i hi => by
      obtain ⟨d, hd, e, -⟩ := hok.1 i hi; rw [e]; exact sd_lt hp hq (by omega)
    have hl1 : zr_ln I1 m ln := ⟨hm, by have := hok.2.2.2; omega, fun i hi => ⟨hln i hi, h8 i hi⟩⟩
    have hK1 : I1 114 = K := (zf_row f1 (fun k => rfl)).trans hK
    refine zp_wp_call (mx_laysSingles hK1 hM hn hl1) ?_
    rintro _ σ ⟨I2, rfl, f2, hr2⟩
    (repeat (first | (with_reducible refine ss_ret ?_) | (with_reducible refine ss_bret ?_) | ((with_reducible apply ss_rc); (· first | (with_reducible assumption) | exact rfl)) | ((with_reducible apply ss_pt); (· first | (with_reducible assumption) | exact rfl); (· exact rfl)) | ((with_reducible apply ss_gR); (· first | (with_reducible assumption) | exact rfl); (· (with_reducible assumption))) | ((with_reducible apply ss_gI); (· first | (with_reducible assumption) | exact rfl); (· ((repeat (first | (with_reducible apply zr_e) | ((with_reducible apply zr_a); (· first | decide | omega)) | ((with_reducible apply zr_k); (· omega)) | (with_reducible apply zr_1e) | ((with_reducible apply zr_1a); (· first | decide | omega)))); (first | (with_reducible assumption) | exact rfl)))) | ((with_reducible apply ss_pI); (· first | (with_reducible assumption) | exact rfl)) | ((with_reducible apply ss_aI); (· first | (with_reducible assumption) | exact rfl); (· (repeat (first | (with_reducible assumption) | (with_reducible exact rfl) | (with_reducible apply zn_add) | (with_reducible apply zn_mul) | (with_reducible exact zi_lit2 _)))); (· first | omega | decide); (· decide); (· ((repeat (first | (with_reducible apply zr_e) | ((with_reducible apply zr_a); (· first | decide | omega)) | ((with_reducible apply zr_k); (· omega)) | (with_reducible apply zr_1e) | ((with_reducible apply zr_1a); (· first | decide | omega)))); (first | (with_reducible assumption) | exact rfl)))) | ((with_reducible apply ss_sI); (· first | (with_reducible assumption) | exact rfl); (· (repeat (first | (with_reducible assumption) | (with_reducible exact rfl) | (with_reducible apply zn_add) | (with_reducible apply zn_mul) | (with_reducible exact zi_lit2 _)))); (· first | omega | decide); (· decide)) | ((with_reducible apply ss_len); (· first | (with_reducible assumption) | exact rfl); (· decide)) | (with_reducible refine ss_as ?_) | (with_reducible refine ss_bor ?_) | (with_reducible refine ss_or ?_) | (with_reducible refine ss_bcl ?_) | (with_reducible refine ss_bcr ?_) | (with_reducible refine ss_cl ?_) | (with_reducible refine ss_cr ?_) | (first | ((with_reducible refine ss_biT ?_ ?_); (· first | (with_reducible assumption) | decide)) | ((with_reducible refine ss_biF ?_ ?_); (· first | (with_reducible assumption) | decide)) | ((with_reducible refine ss_iT ?_ ?_); (· first | (with_reducible assumption) | decide)) | ((with_reducible refine ss_iF ?_ ?_); (· first | (with_reducible assumption) | decide))) | ((with_reducible apply ss_pZ); (· first | (with_reducible assumption) | exact rfl); (· first | (with_reducible assumption) | exact Or.inl rfl | exact Or.inr rfl)) | ((with_reducible apply ss_dvL); (· first | (with_reducible assumption) | decide)) | ((with_reducible apply ss_rmL); (· first | (with_reducible assumption) | decide)) | ((with_reducible apply ss_rmI); (· first | (with_reducible assumption) | decide)) | ((with_reducible apply ss_rz1); (· first | (with_reducible assumption) | exact Or.inl rfl | exact Or.inr rfl))))
    have hl2 := zr_ln_ls hl1 f2
    have hgl : ∀ i j, i < j → j < m → sp_sgl K n (ln i) (ln j) = sp_lg K n (ln i) (ln j) := by
      intro i j hij hj
      obtain ⟨d, hd, ed, sti⟩ := hok.1 i (by omega)
      obtain ⟨e, he, ee, stj⟩ := hok.1 j hj
      have hlt := hok.2.1 i j hij hj
      have hzi : zd p (ln i) = d := by rw [ed, zd_sd (by omega)]
      have hzj : zd p (ln j) = e := by rw [ee, zd_sd (by omega)]
      rw [hzi, hzj] at hlt
      have hgij : sp_goes K n (ln i) (ln j) = true := by
        refine sp_goes_I (h8 i (by omega)) (h8 j hj) (fun h => by rw [h, hzj] at hzi; omega) sti stj (fun u => ?_) (fun u => ?_)
        · have := hup u
          rw [ed, ee]; unfold sd; rw [if_pos (by omega), if_pos (by omega)]; omega
        · have := hdn u
          have hz2 : zd p q = p - q := by unfold zd; rw [if_neg (by omega)]
          rw [ed, ee]; unfold sd; rw [if_neg (by omega), if_neg (by omega)]; omega
      unfold sp_lg; rw [if_pos ⟨h8 i (by omega), h8 j hj, hgij⟩]
    have hd := sp_lg_dir hp hq hg
    refine zp_wp_call (mx_laysLeft hd hne hq hl2 hok eq hm2 (fun i j h1 h2 => by rw [hr2 i j h1 h2, hgl i j h1 h2])) ?_
    rintro _ σ ⟨I3, F, rfl, f3, hF⟩
    obtain ⟨g1, g2, g3⟩ := hF 0 (by omega)
    rw [e0] at g3
    have hby : sp_by K n 7 p q = dec (F 0) := by unfold sp_by; rw [if_neg hne]; exact sp_min_eq g3
    have hfr : zf zk_m2 I I3 := zf_trans (zf_mono f1 (fun a k e => by simp [zk_ln, zk_m2] at *; omega)) (zf_trans (zk_ls_m2 f2) (zf_mono f3 (fun a k e => by simp [zk_lf, zk_m2] at *; omega)))
    have hlaid : zr_laid I3 (sp_lg K n) (zs_stop K n) p q m ln F := ⟨⟨(f3 112 30 rfl).trans hl2.1, hl2.2.1, fun i hi => ⟨(f3 125 i rfl).trans (hl2.2.2 i hi).1, (hl2.2.2 i hi).2⟩⟩, hok, e0, eq, hm2, fun i j h1 h2 => by rw [f3 126 _ rfl, hr2 i j h1 h2, hgl i j h1 h2], hF⟩
    have hend : ∀ r, r = en (dec (F 0)) → ∃ I', zp_Z t I3 J D = zp_Z t I' J D ∧ zf zk_m2 I I' ∧ r = en (sp_by K n 7 p q) ∧ (true = true → ∃ m ln F, zr_laid I' (sp_lg K n) (zs_stop K n) p q m ln F) := fun r hr => ⟨I3, rfl, hfr, by rw [hby]; exact hr, fun _ => ⟨m, ln, F, hlaid⟩⟩
    unfold jx_Mo_laidOr
    by_cases hlt : F 0 < 100000000
    · have c1 : Int32.ofNat (F 0) < 100000000 := zi_ltL (b := 100000000) hlt (by omega)
      (repeat (first | (with_reducible refine ss_ret ?_) | (with_reducible refine ss_bret ?_) | ((with_reducible apply ss_rc); (· first | (with_reducible assumption) | exact rfl)) | ((with_reducible apply ss_pt); (· first | (with_reducible assumption) | exact rfl); (· exact rfl)) | ((with_reducible apply ss_gR); (· first | (with_reducible assumption) | exact rfl); (· (with_reducible assumption))) | ((with_reducible apply ss_gI); (· first | (with_reducible assumption) | exact rfl); (· ((repeat (first | (with_reducible apply zr_e) | ((with_reducible apply zr_a); (· first | decide | omega)) | ((with_reducible apply zr_k); (· omega)) | (with_reducible apply zr_1e) | ((with_reducible apply zr_1a); (· first | decide | omega)))); (first | (with_reducible assumption) | exact rfl)))) | ((with_reducible apply ss_pI); (· first | (with_reducible assumption) | exact rfl)) | ((with_reducible apply ss_aI); (· first | (with_reducible assumption) | exact rfl); (· (repeat (first | (with_reducible assumption) | (with_reducible exact rfl) | (with_reducible apply zn_add) | (with_reducible apply zn_mul) | (with_reducible exact zi_lit2 _)))); (· first | omega | decide); (· decide); (· ((repeat (first | (with_reducible apply zr_e) | ((with_reducible apply zr_a); (· first | decide | omega)) | ((with_reducible apply zr_k); (· omega)) | (with_reducible apply zr_1e) | ((with_reducible apply zr_1a); (· first | decide | omega)))); (first | (with_reducible assumption) | exact rfl)))) | ((with_reducible apply ss_sI); (· first | (with_reducible assumption) | exact rfl); (· (repeat (first | (with_reducible assumption) | (with_reducible exact rfl) | (with_reducible apply zn_add) | (with_reducible apply zn_mul) | (with_reducible exact zi_lit2 _)))); (· first | omega | decide); (· decide)) | ((with_reducible apply ss_len); (· first | (with_reducible assumption) | exact rfl); (· decide)) | (with_reducible refine ss_as ?_) | (with_reducible refine ss_bor ?_) | (with_reducible refine ss_or ?_) | (with_reducible refine ss_bcl ?_) | (with_reducible refine ss_bcr ?_) | (with_reducible refine ss_cl ?_) | (with_reducible refine ss_cr ?_) | (first | ((with_reducible refine ss_biT ?_ ?_); (· first | (with_reducible assumption) | decide)) | ((with_reducible refine ss_biF ?_ ?_); (· first | (with_reducible assumption) | decide)) | ((with_reducible refine ss_iT ?_ ?_); (· first | (with_reducible assumption) | decide)) | ((with_reducible refine ss_iF ?_ ?_); (· first | (with_reducible assumption) | decide))) | ((with_reducible apply ss_pZ); (· first | (with_reducible assumption) | exact rfl); (· first | (with_reducible assumption) | exact Or.inl rfl | exact Or.inr rfl)) | ((with_reducible apply ss_dvL); (· first | (with_reducible assumption) | decide)) | ((with_reducible apply ss_rmL); (· first | (with_reducible assumption) | decide)) | ((with_reducible apply ss_rmI); (· first | (with_reducible assumption) | decide)) | ((with_reducible apply ss_rz1); (· first | (with_reducible assumption) | exact Or.inl rfl | exact Or.inr rfl))))
      exact hend _ (by unfold dec; rw [if_pos hlt]; rfl)
    · have c1 : ¬ Int32.ofNat (F 0) < 100000000 := zi_nlt (b := 100000000) (by omega) (by omega)
      (repeat (first | (with_reducible refine ss_ret ?_) | (with_reducible refine ss_bret ?_) | ((with_reducible apply ss_rc); (· first | (with_reducible assumption) | exact rfl)) | ((with_reducible apply ss_pt); (· first | (with_reducible assumption) | exact rfl); (· exact rfl)) | ((with_reducible apply ss_gR); (· first | (with_reducible assumption) | exact rfl); (· (with_reducible assumption))) | ((with_reducible apply ss_gI); (· first | (with_reducible assumption) | exact rfl); (· ((repeat (first | (with_reducible apply zr_e) | ((with_reducible apply zr_a); (· first | decide | omega)) | ((with_reducible apply zr_k); (· omega)) | (with_reducible apply zr_1e) | ((with_reducible apply zr_1a); (· first | decide | omega)))); (first | (with_reducible assumption) | exact rfl)))) | ((with_reducible apply ss_pI); (· first | (with_reducible assumption) | exact rfl)) | ((with_reducible apply ss_aI); (· first | (with_reducible assumption) | exact rfl); (· (repeat (first | (with_reducible assumption) | (with_reducible exact rfl) | (with_reducible apply zn_add) | (with_reducible apply zn_mul) | (with_reducible exact zi_lit2 _)))); (· first | omega | decide); (· decide); (· ((repeat (first | (with_reducible apply zr_e) | ((with_reducible apply zr_a); (· first | decide | omega)) | ((with_reducible apply zr_k); (· omega)) | (with_reducible apply zr_1e) | ((with_reducible apply zr_1a); (· first | decide | omega)))); (first | (with_reducible assumption) | exact rfl)))) | ((with_reducible apply ss_sI); (· first | (with_reducible assumption) | exact rfl); (· (repeat (first | (with_reducible assumption) | (with_reducible exact rfl) | (with_reducible apply zn_add) | (with_reducible apply zn_mul) | (with_reducible exact zi_lit2 _)))); (· first | omega | decide); (· decide)) | ((with_reducible apply ss_len); (· first | (with_reducible assumption) | exact rfl); (· decide)) | (with_reducible refine ss_as ?_) | (with_reducible refine ss_bor ?_) | (with_reducible refine ss_or ?_) | (with_reducible refine ss_bcl ?_) | (with_reducible refine ss_bcr ?_) | (with_reducible refine ss_cl ?_) | (with_reducible refine ss_cr ?_) | (first | ((with_reducible refine ss_biT ?_ ?_); (· first | (with_reducible assumption) | decide)) | ((with_reducible refine ss_biF ?_ ?_); (· first | (with_reducible assumption) | decide)) | ((with_reducible refine ss_iT ?_ ?_); (· first | (with_reducible assumption) | decide)) | ((with_reducible refine ss_iF ?_ ?_); (· first | (with_reducible assumption) | decide))) | ((with_reducible apply ss_pZ); (· first | (with_reducible assumption) | exact rfl); (· first | (with_reducible assumption) | exact Or.inl rfl | exact Or.inr rfl)) | ((with_reducible apply ss_dvL); (· first | (with_reducible assumption) | decide)) | ((with_reducible apply ss_rmL); (· first | (with_reducible assumption) | decide)) | ((with_reducible apply ss_rmI); (· first | (with_reducible assumption) | decide)) | ((with_reducible apply ss_rz1); (· first | (with_reducible assumption) | exact Or.inl rfl | exact Or.inr rfl))))
      exact hend _ (by unfold dec; rw [if_neg hlt]; rfl)
-- the class
noncomputable def sp_on (K : Nat → Int32) (x : Int32) (k : Nat) (p q : Int32) : Option Nat := if (sp_has K x && zs_leg p q) = true then sp_by K (sf_ix x) k (sf_ix p) (sf_ix q) else none
set_option maxRecDepth 20000 in
theorem zs_leg_T {p q : Int32} (h : zs_leg p q = true) : ∃ a b, a < 8 ∧ b < 8 ∧ p = Int32.ofNat a ∧ q = Int32.ofNat b ∧ a ≠ b := by
  have h0 := h
  unfold zs_leg zs_st at h
  rw [Bool.and_eq_true, Bool.and_eq_true, zs_inT, zs_inT] at h
  obtain ⟨a, ha, rfl⟩ := zi_rng (n := 7) h.1.1.1 h.1.1.2 (by omega)
  obtain ⟨b, hb, rfl⟩ := zi_rng (n := 7) h.1.2.1 h.1.2.2 (by omega)
  refine ⟨a, b, by omega, by omega, rfl, rfl, ?_⟩
  rw [zs_legN (by omega) (by omega), decide_eq_true_eq] at h0
  exact h0
set_option maxRecDepth 20000 in
theorem zk_fs_x2 {I I' : Nat → Nat → Int32} (h : zf zk_fs I I') : zf zk_x2 I I' := zf_mono h (fun a k e => by simp [zk_fs, zk_x2] at *; omega)
set_option maxRecDepth 20000 in
theorem zk_bs_x2 {I I' : Nat → Nat → Int32} (h : zf zk_bs I I') : zf zk_x2 I I' := zf_mono h (fun a k e => by simp [zk_bs, zk_x2] at *; omega)
/-- legs that the class's rows hold, cut to stations -/
def sp_lx (K : Nat → Int32) (x : Int32) (a b : Nat) : Option Nat := if sp_has K x = true then sp_lg K (sf_ix x) a b else none
set_option maxRecDepth 20000 in
theorem sp_lx_row {x : Int32} (hv : zv K) (h : zr_lg I (sp_leg K x)) : zr_lg I (sp_lx K x) := by
  intro p hp q hq
  rw [h p hp q hq]
  unfold sp_lx
  cases hh : sp_has K x with
  | false => rw [if_neg (by decide)]; unfold sp_leg; rw [hh]; rfl
  | true =>
    obtain ⟨n, hn, rfl, -⟩ := sp_has_T hv hh
    rw [if_pos rfl, zi_ixn (by omega), sp_leg_lg hn hh hp hq]
set_option maxRecDepth 20000 in
theorem sp_lx_le {x : Int32} : ∀ s n a, sp_lx K x s n = some a → a ≤ 150000 := by
  intro s n a h
  unfold sp_lx at h
  split at h
  · have := (sp_lg_s h).1; omega
  · cases h
set_option maxRecDepth 20000 in
theorem sp_lx_min {x : Int32} {k a b : Nat} {o : Option Nat} (hne : a ≠ b) (h : zy_min (wy (sp_lx K x) b k a) o) : o = if sp_has K x = true then sp_by K (sf_ix x) k a b else none := by
  by_cases hh : sp_has K x = true
  · rw [if_pos hh]
    unfold sp_by; rw [if_neg hne]
    have : sp_lx K x = sp_lg K (sf_ix x) := by funext a b; unfold sp_lx; rw [if_pos hh]
    rw [this] at h
    exact (sp_min_eq h).symm
  · rw [if_neg hh]
    refine zy_min_uniq h ⟨fun c hc => ?_, fun v hv => by cases hv⟩
    exfalso
    induction k generalizing c with
    | zero => exact hne hc.1
    | succ k ih =>
      rcases hc with hc | ⟨n, a', b', h1, h2, -⟩
      · refine ih ⟨fun c hc => ?_, fun v hv => ?_⟩ c hc
        · exact h.1 c (Or.inl hc)
        · rcases h.2 v hv with h3 | ⟨n, a', b', h1, h2, -⟩
          · exact h3
          · unfold sp_lx at h2; rw [if_neg hh] at h2; cases h2
      · unfold sp_lx at h2; rw [if_neg hh] at h2; cases h2
set_option maxRecDepth 20000 in
theorem cx_leastOn (hC : zr_cl t I D K) (x p q : Int32) {k : Nat} (hk : k ≤ 7) : zp_wp (jx_SF_leastOn (some 0) x p q (Int32.ofNat k)) (fun r τ => ∃ I', τ = zp_Z t I' J D ∧ zf zk_x2 I I' ∧ r = en (sp_on K x k p q) ∧ (zs_leg p q = true → ∃ B, zr_lg I' (sp_lx K x) ∧ zr_bs I' B ∧ ∀ s, s < 8 → zy_min (wy (sp_lx K x) (sf_ix q) k s) (B s))) (zp_Z t I J D) := by
  unfold jx_SF_leastOn
  cases hl : zs_leg p q with
  | false =>
    have hlg := ze_isLegF hl
    repeat (first | (first | (with_reducible refine ss_ret ?_) | (with_reducible refine ss_bret ?_) | ((with_reducible apply ss_rc); (· first | (with_reducible assumption) | exact rfl)) | ((with_reducible apply ss_pt); (· first | (with_reducible assumption) | exact rfl); (· exact rfl)) | ((with_reducible apply ss_gR); (· first | (with_reducible assumption) | exact rfl); (· (with_reducible assumption))) | ((with_reducible apply ss_gI); (· first | (with_reducible assumption) | exact rfl); (· ((repeat (first | (with_reducible apply zr_e) | ((with_reducible apply zr_a); (· first | decide | omega)) | ((with_reducible apply zr_k); (· omega)) | (with_reducible apply zr_1e) | ((with_reducible apply zr_1a); (· first | decide | omega)))); (first | (with_reducible assumption) | exact rfl)))) | ((with_reducible apply ss_pI); (· first | (with_reducible assumption) | exact rfl)) | ((with_reducible apply ss_aI); (· first | (with_reducible assumption) | exact rfl); (· (repeat (first | (with_reducible assumption) | (with_reducible exact rfl) | (with_reducible apply zn_add) | (with_reducible apply zn_mul) | (with_reducible exact zi_lit2 _)))); (· first | omega | decide); (· decide); (· ((repeat (first | (with_reducible apply zr_e) | ((with_reducible apply zr_a); (· first | decide | omega)) | ((with_reducible apply zr_k); (· omega)) | (with_reducible apply zr_1e) | ((with_reducible apply zr_1a); (· first | decide | omega)))); (first | (with_reducible assumption) | exact rfl)))) | ((with_reducible apply ss_sI); (· first | (with_reducible assumption) | exact rfl); (· (repeat (first | (with_reducible assumption) | (with_reducible exact rfl) | (with_reducible apply zn_add) | (with_reducible apply zn_mul) | (with_reducible exact zi_lit2 _)))); (· first | omega | decide); (· decide)) | ((with_reducible apply ss_len); (· first | (with_reducible assumption) | exact rfl); (· decide)) | (with_reducible refine ss_as ?_) | (with_reducible refine ss_bor ?_) | (with_reducible refine ss_or ?_) | (with_reducible refine ss_bcl ?_) | (with_reducible refine ss_bcr ?_) | (with_reducible refine ss_cl ?_) | (with_reducible refine ss_cr ?_) | (first | ((with_reducible refine ss_biT ?_ ?_); (· first | (with_reducible assumption) | decide)) | ((with_reducible refine ss_biF ?_ ?_); (· first | (with_reducible assumption) | decide)) | ((with_reducible refine ss_iT ?_ ?_); (· first | (with_reducible assumption) | decide)) | ((with_reducible refine ss_iF ?_ ?_); (· first | (with_reducible assumption) | decide))) | ((with_reducible apply ss_pZ); (· first | (with_reducible assumption) | exact rfl); (· first | (with_reducible assumption) | exact Or.inl rfl | exact Or.inr rfl)) | ((with_reducible apply ss_dvL); (· first | (with_reducible assumption) | decide)) | ((with_reducible apply ss_rmL); (· first | (with_reducible assumption) | decide)) | ((with_reducible apply ss_rmI); (· first | (with_reducible assumption) | decide)) | ((with_reducible apply ss_rz1); (· first | (with_reducible assumption) | exact Or.inl rfl | exact Or.inr rfl))) | (with_reducible refine ss_pure hlg ?_))
    exact ⟨I, rfl, zf_refl _ _, by unfold sp_on; rw [hl, Bool.and_false]; rfl, fun h => by cases h⟩
  | true =>
    have hlg := ze_isLegT hl
    obtain ⟨a, b, ha, hb, rfl, rfl, hne⟩ := zs_leg_T hl
    repeat (first | (first | (with_reducible refine ss_ret ?_) | (with_reducible refine ss_bret ?_) | ((with_reducible apply ss_rc); (· first | (with_reducible assumption) | exact rfl)) | ((with_reducible apply ss_pt); (· first | (with_reducible assumption) | exact rfl); (· exact rfl)) | ((with_reducible apply ss_gR); (· first | (with_reducible assumption) | exact rfl); (· (with_reducible assumption))) | ((with_reducible apply ss_gI); (· first | (with_reducible assumption) | exact rfl); (· ((repeat (first | (with_reducible apply zr_e) | ((with_reducible apply zr_a); (· first | decide | omega)) | ((with_reducible apply zr_k); (· omega)) | (with_reducible apply zr_1e) | ((with_reducible apply zr_1a); (· first | decide | omega)))); (first | (with_reducible assumption) | exact rfl)))) | ((with_reducible apply ss_pI); (· first | (with_reducible assumption) | exact rfl)) | ((with_reducible apply ss_aI); (· first | (with_reducible assumption) | exact rfl); (· (repeat (first | (with_reducible assumption) | (with_reducible exact rfl) | (with_reducible apply zn_add) | (with_reducible apply zn_mul) | (with_reducible exact zi_lit2 _)))); (· first | omega | decide); (· decide); (· ((repeat (first | (with_reducible apply zr_e) | ((with_reducible apply zr_a); (· first | decide | omega)) | ((with_reducible apply zr_k); (· omega)) | (with_reducible apply zr_1e) | ((with_reducible apply zr_1a); (· first | decide | omega)))); (first | (with_reducible assumption) | exact rfl)))) | ((with_reducible apply ss_sI); (· first | (with_reducible assumption) | exact rfl); (· (repeat (first | (with_reducible assumption) | (with_reducible exact rfl) | (with_reducible apply zn_add) | (with_reducible apply zn_mul) | (with_reducible exact zi_lit2 _)))); (· first | omega | decide); (· decide)) | ((with_reducible apply ss_len); (· first | (with_reducible assumption) | exact rfl); (· decide)) | (with_reducible refine ss_as ?_) | (with_reducible refine ss_bor ?_) | (with_reducible refine ss_or ?_) | (with_reducible refine ss_bcl ?_) | (with_reducible refine ss_bcr ?_) | (with_reducible refine ss_cl ?_) | (with_reducible refine ss_cr ?_) | (first | ((with_reducible refine ss_biT ?_ ?_); (· first | (with_reducible assumption) | decide)) | ((with_reducible refine ss_biF ?_ ?_); (· first | (with_reducible assumption) | decide)) | ((with_reducible refine ss_iT ?_ ?_); (· first | (with_reducible assumption) | decide)) | ((with_reducible refine ss_iF ?_ ?_); (· first | (with_reducible assumption) | decide))) | ((with_reducible apply ss_pZ); (· first | (with_reducible assumption) | exact rfl); (· first | (with_reducible assumption) | exact Or.inl rfl | exact Or.inr rfl)) | ((with_reducible apply ss_dvL); (· first | (with_reducible assumption) | decide)) | ((with_reducible apply ss_rmL); (· first | (with_reducible assumption) | decide)) | ((with_reducible apply ss_rmI); (· first | (with_reducible assumption) | decide)) | ((with_reducible apply ss_rz1); (· first | (with_reducible assumption) | exact Or.inl rfl | exact Or.inr rfl))) | (with_reducible refine ss_pure hlg ?_))
    refine zp_wp_call (cx_fillS hC x) ?_
    rintro _ σ ⟨I1, rfl, f1, r1⟩
    (repeat (first | (with_reducible refine ss_ret ?_) | (with_reducible refine ss_bret ?_) | ((with_reducible apply ss_rc); (· first | (with_reducible assumption) | exact rfl)) | ((with_reducible apply ss_pt); (· first | (with_reducible assumption) | exact rfl); (· exact rfl)) | ((with_reducible apply ss_gR); (· first | (with_reducible assumption) | exact rfl); (· (with_reducible assumption))) | ((with_reducible apply ss_gI); (· first | (with_reducible assumption) | exact rfl); (· ((repeat (first | (with_reducible apply zr_e) | ((with_reducible apply zr_a); (· first | decide | omega)) | ((with_reducible apply zr_k); (· omega)) | (with_reducible apply zr_1e) | ((with_reducible apply zr_1a); (· first | decide | omega)))); (first | (with_reducible assumption) | exact rfl)))) | ((with_reducible apply ss_pI); (· first | (with_reducible assumption) | exact rfl)) | ((with_reducible apply ss_aI); (· first | (with_reducible assumption) | exact rfl); (· (repeat (first | (with_reducible assumption) | (with_reducible exact rfl) | (with_reducible apply zn_add) | (with_reducible apply zn_mul) | (with_reducible exact zi_lit2 _)))); (· first | omega | decide); (· decide); (· ((repeat (first | (with_reducible apply zr_e) | ((with_reducible apply zr_a); (· first | decide | omega)) | ((with_reducible apply zr_k); (· omega)) | (with_reducible apply zr_1e) | ((with_reducible apply zr_1a); (· first | decide | omega)))); (first | (with_reducible assumption) | exact rfl)))) | ((with_reducible apply ss_sI); (· first | (with_reducible assumption) | exact rfl); (· (repeat (first | (with_reducible assumption) | (with_reducible exact rfl) | (with_reducible apply zn_add) | (with_reducible apply zn_mul) | (with_reducible exact zi_lit2 _)))); (· first | omega | decide); (· decide)) | ((with_reducible apply ss_len); (· first | (with_reducible assumption) | exact rfl); (· decide)) | (with_reducible refine ss_as ?_) | (with_reducible refine ss_bor ?_) | (with_reducible refine ss_or ?_) | (with_reducible refine ss_bcl ?_) | (with_reducible refine ss_bcr ?_) | (with_reducible refine ss_cl ?_) | (with_reducible refine ss_cr ?_) | (first | ((with_reducible refine ss_biT ?_ ?_); (· first | (with_reducible assumption) | decide)) | ((with_reducible refine ss_biF ?_ ?_); (· first | (with_reducible assumption) | decide)) | ((with_reducible refine ss_iT ?_ ?_); (· first | (with_reducible assumption) | decide)) | ((with_reducible refine ss_iF ?_ ?_); (· first | (with_reducible assumption) | decide))) | ((with_reducible apply ss_pZ); (· first | (with_reducible assumption) | exact rfl); (· first | (with_reducible assumption) | exact Or.inl rfl | exact Or.inr rfl)) | ((with_reducible apply ss_dvL); (· first | (with_reducible assumption) | decide)) | ((with_reducible apply ss_rmL); (· first | (with_reducible assumption) | decide)) | ((with_reducible apply ss_rmI); (· first | (with_reducible assumption) | decide)) | ((with_reducible apply ss_rz1); (· first | (with_reducible assumption) | exact Or.inl rfl | exact Or.inr rfl))))
    have r1' := sp_lx_row hC.2.1 r1
    refine zp_wp_call (cx_least r1' sp_lx_le ha hb hl hk) ?_
    rintro r σ ⟨I2, B, rfl, rfl, f2, hB, hmin⟩
    (repeat (first | (with_reducible refine ss_ret ?_) | (with_reducible refine ss_bret ?_) | ((with_reducible apply ss_rc); (· first | (with_reducible assumption) | exact rfl)) | ((with_reducible apply ss_pt); (· first | (with_reducible assumption) | exact rfl); (· exact rfl)) | ((with_reducible apply ss_gR); (· first | (with_reducible assumption) | exact rfl); (· (with_reducible assumption))) | ((with_reducible apply ss_gI); (· first | (with_reducible assumption) | exact rfl); (· ((repeat (first | (with_reducible apply zr_e) | ((with_reducible apply zr_a); (· first | decide | omega)) | ((with_reducible apply zr_k); (· omega)) | (with_reducible apply zr_1e) | ((with_reducible apply zr_1a); (· first | decide | omega)))); (first | (with_reducible assumption) | exact rfl)))) | ((with_reducible apply ss_pI); (· first | (with_reducible assumption) | exact rfl)) | ((with_reducible apply ss_aI); (· first | (with_reducible assumption) | exact rfl); (· (repeat (first | (with_reducible assumption) | (with_reducible exact rfl) | (with_reducible apply zn_add) | (with_reducible apply zn_mul) | (with_reducible exact zi_lit2 _)))); (· first | omega | decide); (· decide); (· ((repeat (first | (with_reducible apply zr_e) | ((with_reducible apply zr_a); (· first | decide | omega)) | ((with_reducible apply zr_k); (· omega)) | (with_reducible apply zr_1e) | ((with_reducible apply zr_1a); (· first | decide | omega)))); (first | (with_reducible assumption) | exact rfl)))) | ((with_reducible apply ss_sI); (· first | (with_reducible assumption) | exact rfl); (· (repeat (first | (with_reducible assumption) | (with_reducible exact rfl) | (with_reducible apply zn_add) | (with_reducible apply zn_mul) | (with_reducible exact zi_lit2 _)))); (· first | omega | decide); (· decide)) | ((with_reducible apply ss_len); (· first | (with_reducible assumption) | exact rfl); (· decide)) | (with_reducible refine ss_as ?_) | (with_reducible refine ss_bor ?_) | (with_reducible refine ss_or ?_) | (with_reducible refine ss_bcl ?_) | (with_reducible refine ss_bcr ?_) | (with_reducible refine ss_cl ?_) | (with_reducible refine ss_cr ?_) | (first | ((with_reducible refine ss_biT ?_ ?_); (· first | (with_reducible assumption) | decide)) | ((with_reducible refine ss_biF ?_ ?_); (· first | (with_reducible assumption) | decide)) | ((with_reducible refine ss_iT ?_ ?_); (· first | (with_reducible assumption) | decide)) | ((with_reducible refine ss_iF ?_ ?_); (· first | (with_reducible assumption) | decide))) | ((with_reducible apply ss_pZ); (· first | (with_reducible assumption) | exact rfl); (· first | (with_reducible assumption) | exact Or.inl rfl | exact Or.inr rfl)) | ((with_reducible apply ss_dvL); (· first | (with_reducible assumption) | decide)) | ((with_reducible apply ss_rmL); (· first | (with_reducible assumption) | decide)) | ((with_reducible apply ss_rmI); (· first | (with_reducible assumption) | decide)) | ((with_reducible apply ss_rz1); (· first | (with_reducible assumption) | exact Or.inl rfl | exact Or.inr rfl))))
    have hr2 : zr_lg I2 (sp_lx K x) := fun p hp q hq => by rw [f2 15 _ rfl]; exact r1' p hp q hq
    refine ⟨I2, rfl, zf_trans (zk_fs_x2 f1) (zk_bs_x2 f2), ?_, fun _ => ⟨B, hr2, hB, by rw [zi_ixn (by omega)]; exact hmin⟩⟩
    unfold sp_on
    rw [hl, Bool.and_true, zi_ixn (by omega), zi_ixn (by omega)]
    exact congrArg en (sp_lx_min hne (hmin a ha))
end
