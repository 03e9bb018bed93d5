/-! The model's reading: a text whole; codes, values, places of a text. -/
noncomputable def tkS (T : Nat → Int32) (n p : Nat) : Nat := @dite _ (∃ s, s < n ∧ tk_st T s = true ∧ tk_n T s = p) (Classical.propDecidable _) (fun h => h.choose) (fun _ => n)
noncomputable def tkC (T : Nat → Int32) (n p : Nat) : Int32 := if p < tk_n T n then tk_c T n (tkS T n p) else 0
noncomputable def tkV (T : Nat → Int32) (n p : Nat) : Int32 := if p < tk_n T n then tk_v T n (tkS T n p) else 0
set_option maxRecDepth 20000 in
theorem tkS_eq {T : Nat → Int32} {n s : Nat} (h1 : s < n) (h2 : tk_st T s = true) : tkS T n (tk_n T s) = s := by
  have hex : ∃ s', s' < n ∧ tk_st T s' = true ∧ tk_n T s' = tk_n T s := ⟨s, h1, h2, rfl⟩
  unfold tkS
  rw [dif_pos hex]
  exact tk_n_inj hex.choose_spec.2.1 h2 hex.choose_spec.2.2
set_option maxRecDepth 20000 in
theorem tkS_end {T : Nat → Int32} {n : Nat} : tkS T n (tk_n T n) = n := by
  unfold tkS
  rw [dif_neg]
  rintro ⟨s, h1, h2, h3⟩
  have := tk_n_lt h2 h1; omega
set_option maxRecDepth 20000 in
theorem tkS_le {T : Nat → Int32} {n p : Nat} : tkS T n p ≤ n := by
  unfold tkS
  split
  · rename_i h; have := h.choose_spec.1; omega
  · exact Nat.le_refl _
set_option maxRecDepth 20000 in
theorem tk_cv {T : Nat → Int32} {n : Nat} (hb : ∀ i, i < n → 0 ≤ T i ∧ T i ≤ 255) : zr_cv (tkC T n) (tkV T n) T n := by
  refine ⟨hb, fun s h1 h2 => ?_, fun k hk => ?_⟩
  · have hlt := tk_n_lt h2 h1
    unfold tkC tkV
    rw [if_pos hlt, if_pos hlt, tkS_eq h1 h2]; exact ⟨rfl, rfl⟩
  · unfold tkC tkV
    rw [if_neg (by omega), if_neg (by omega)]; exact ⟨rfl, rfl⟩
set_option maxRecDepth 20000 in
theorem tk_v0 {T : Nat → Int32} {n s : Nat} (hs : s < n) : 0 ≤ tk_v T n s := by
  unfold tk_v
  split
  · rename_i h
    have hki := tk_kinds (T := T) (e := tk_e T s n) h (fun j h1 h2 => tk_e_go n j h1 h2)
    obtain ⟨eb1, eb2⟩ := tk_e_bnd (T := T) hs
    obtain ⟨x, y, hx, -, bx, -⟩ := tk_vn (T := T) (s := s) (tk_e T s n - s) (fun i hi => hki i (by omega))
    rw [hx]; exact zi_leL (a := 0) (by omega) (by omega)
  · decide
set_option maxRecDepth 20000 in
theorem tkV_0 {T : Nat → Int32} {n : Nat} : ∀ k, 0 ≤ tkV T n k := by
  intro k
  unfold tkV
  split
  · rename_i h
    obtain ⟨s, h1, h2, h3⟩ := tk_n_sur (T := T) n k h
    rw [← h3, tkS_eq h1 h2]; exact tk_v0 h1
  · decide
def zk_rs (a k : Nat) : Bool := a == 121 || a == 122 || a == 123 || (a == 112 && (k == 13 || k == 14 || k == 18 || k == 19 || k == 20 || k == 21))
set_option maxRecDepth 20000 in
theorem zk_mr_rs {I I' : Nat → Nat → Int32} (h : zf zk_mr I I') : zf zk_rs I I' := zf_mono h (fun a k e => by simp [zk_mr, zk_rs] at *; omega)
section
variable {t : List (Nat × Nat)} {I : Nat → Nat → Int32} {J : Nat → Nat → Int64} {D : Nat → Nat → Option Nat} {T : Nat → Int32} {n : Nat} {ord : Bool}
set_option maxRecDepth 20000 in
theorem mr_st_sp (hs : zr_sp I T n) (hb : ∀ i, i < n → 0 ≤ T i ∧ T i ≤ 255) (hn : n ≤ 400) (h8 : I 112 8 = if ord = true then 13 else 7) (h9 : I 112 9 = if ord = true then 19 else 13) (h10 : I 112 10 = zb ord) : mr_st I (tkC T n) (tkV T n) (tkS T n) (tk_n T n) ord := by
  obtain ⟨s1, s2, s3, s4, s5⟩ := hs
  have hcv := tk_cv hb
  have hmn := tk_n_le (T := T) n
  refine ⟨by omega, fun k hk => ?_, h8, h9, h10, fun k hk => (hcv.2.2 k hk).1⟩
  by_cases e : k = tk_n T n
  · subst e
    obtain ⟨e1, e2⟩ := hcv.2.2 _ (Nat.le_refl _)
    rw [e1, e2, tkS_end]
    exact ⟨s3, s4, s5, hn⟩
  · obtain ⟨s, h1, h2, h3⟩ := tk_n_sur (T := T) n k (by omega)
    obtain ⟨r1, r2, r3⟩ := s2 s h1 h2
    obtain ⟨e1, e2⟩ := hcv.2.1 s h1 h2
    rw [← h3, e1, e2, tkS_eq h1 h2]
    exact ⟨r1, r2, r3, by omega⟩
set_option maxRecDepth 20000 in
theorem mx_reads (hT : ∀ i, i < n → I 119 i = sf_nw 2 (T i)) (hb : ∀ i, i < n → 0 ≤ T i ∧ T i ≤ 255) (hw : zr_wb I) (hn : n ≤ 400) (h13 : I 112 13 = Int32.ofNat n) (h8 : I 112 8 = if ord = true then 13 else 7) (h9 : I 112 9 = if ord = true then 19 else 13) (h10 : I 112 10 = zb ord) : zp_wp (jx_Mo_reads (some 112)) (fun x τ => ∃ I', τ = zp_Z t I' J D ∧ zf zk_rs I I' ∧ I' 112 13 = 0 ∧ zr_sp I' T n ∧ match tx_text (tkC T n) (tkV T n) ord (tk_n T n) 12 0 0 with
    | .inl f => x = 0 ∧ I' 112 14 = Int32.ofNat (tkS T n f) ∧ f ≤ tk_n T n
    | .inr _ => x = 1 ∧ I' 112 14 = -1) (zp_Z t I J D) := by
  obtain ⟨c, hc⟩ : ∃ c, c = tkC T n := ⟨_, rfl⟩
  obtain ⟨v, hv⟩ : ∃ v, v = tkV T n := ⟨_, rfl⟩
  obtain ⟨pl, hpl⟩ : ∃ pl, pl = tkS T n := ⟨_, rfl⟩
  obtain ⟨m, hm⟩ : ∃ m, m = tk_n T n := ⟨_, rfl⟩
  have hvp : ∀ k, 0 ≤ v k := by rw [hv]; exact tkV_0
  have hmn := tk_n_le (T := T) n
  rw [← hm] at hmn
  have hone := mr_one (t := t) (J := J) (D := D) (c := c) (pl := pl) (m := m) (ord := ord) hvp
  have s59 : jx_Mo_sign 59 = sf_ret 159 := mx_sign 59
  have hz : ¬ (1 : Int32) = 0 := by decide
  have hz0 : (0 : Int32) = 0 := rfl
  rw [← hc, ← hv, ← hpl, ← hm]
  unfold jx_Mo_reads
  (repeat (first | (with_reducible refine ss_ret ?_) | (with_reducible refine ss_bret ?_) | ((with_reducible apply ss_rc); (· first | (with_reducible assumption) | exact rfl)) | ((with_reducible apply ss_pt); (· first | (with_reducible assumption) | exact rfl); (· exact rfl)) | ((with_reducible apply ss_gR); (· first | (with_reducible assumption) | exact rfl); (· (with_reducible assumption))) | ((with_reducible apply ss_gI); (· first | (with_reducible assumption) | exact rfl); (· ((repeat (first | (with_reducible apply zr_e) | ((with_reducible apply zr_a); (· first | decide | omega)) | ((with_reducible apply zr_k); (· omega)) | (with_reducible apply zr_1e) | ((with_reducible apply zr_1a); (· first | decide | omega)))); (first | (with_reducible assumption) | exact rfl)))) | ((with_reducible apply ss_pI); (· first | (with_reducible assumption) | exact rfl)) | ((with_reducible apply ss_aI); (· first | (with_reducible assumption) | exact rfl); (· (repeat (first | (with_reducible assumption) | (with_reducible exact rfl) | (with_reducible apply zn_add) | (with_reducible apply zn_mul) | (with_reducible exact zi_lit2 _)))); (· first | omega | decide); (· decide); (· ((repeat (first | (with_reducible apply zr_e) | ((with_reducible apply zr_a); (· first | decide | omega)) | ((with_reducible apply zr_k); (· omega)) | (with_reducible apply zr_1e) | ((with_reducible apply zr_1a); (· first | decide | omega)))); (first | (with_reducible assumption) | exact rfl)))) | ((with_reducible apply ss_sI); (· first | (with_reducible assumption) | exact rfl); (· (repeat (first | (with_reducible assumption) | (with_reducible exact rfl) | (with_reducible apply zn_add) | (with_reducible apply zn_mul) | (with_reducible exact zi_lit2 _)))); (· first | omega | decide); (· decide)) | ((with_reducible apply ss_len); (· first | (with_reducible assumption) | exact rfl); (· decide)) | (with_reducible refine ss_as ?_) | (with_reducible refine ss_bor ?_) | (with_reducible refine ss_or ?_) | (with_reducible refine ss_bcl ?_) | (with_reducible refine ss_bcr ?_) | (with_reducible refine ss_cl ?_) | (with_reducible refine ss_cr ?_) | (first | ((with_reducible refine ss_biT ?_ ?_); (· first | (with_reducible assumption) | decide)) | ((with_reducible refine ss_biF ?_ ?_); (· first | (with_reducible assumption) | decide)) | ((with_reducible refine ss_iT ?_ ?_); (· first | (with_reducible assumption) | decide)) | ((with_reducible refine ss_iF ?_ ?_); (· first | (with_reducible assumption) | decide))) | ((with_reducible apply ss_pZ); (· first | (with_reducible assumption) | exact rfl); (· first | (with_reducible assumption) | exact Or.inl rfl | exact Or.inr rfl)) | ((with_reducible apply ss_dvL); (· first | (with_reducible assumption) | decide)) | ((with_reducible apply ss_rmL); (· first | (with_reducible assumption) | decide)) | ((with_reducible apply ss_rmI); (· first | (with_reducible assumption) | decide)) | ((with_reducible apply ss_rz1); (· first | (with_reducible assumption) | exact Or.inl rfl | exact Or.inr rfl))))
  refine zp_wp_call (mx_splits hT hb hw hn) ?_
  rintro _ τ ⟨I1, rfl, f1, h1⟩
  (repeat (first | (with_reducible refine ss_ret ?_) | (with_reducible refine ss_bret ?_) | ((with_reducible apply ss_rc); (· first | (with_reducible assumption) | exact rfl)) | ((with_reducible apply ss_pt); (· first | (with_reducible assumption) | exact rfl); (· exact rfl)) | ((with_reducible apply ss_gR); (· first | (with_reducible assumption) | exact rfl); (· (with_reducible assumption))) | ((with_reducible apply ss_gI); (· first | (with_reducible assumption) | exact rfl); (· ((repeat (first | (with_reducible apply zr_e) | ((with_reducible apply zr_a); (· first | decide | omega)) | ((with_reducible apply zr_k); (· omega)) | (with_reducible apply zr_1e) | ((with_reducible apply zr_1a); (· first | decide | omega)))); (first | (with_reducible assumption) | exact rfl)))) | ((with_reducible apply ss_pI); (· first | (with_reducible assumption) | exact rfl)) | ((with_reducible apply ss_aI); (· first | (with_reducible assumption) | exact rfl); (· (repeat (first | (with_reducible assumption) | (with_reducible exact rfl) | (with_reducible apply zn_add) | (with_reducible apply zn_mul) | (with_reducible exact zi_lit2 _)))); (· first | omega | decide); (· decide); (· ((repeat (first | (with_reducible apply zr_e) | ((with_reducible apply zr_a); (· first | decide | omega)) | ((with_reducible apply zr_k); (· omega)) | (with_reducible apply zr_1e) | ((with_reducible apply zr_1a); (· first | decide | omega)))); (first | (with_reducible assumption) | exact rfl)))) | ((with_reducible apply ss_sI); (· first | (with_reducible assumption) | exact rfl); (· (repeat (first | (with_reducible assumption) | (with_reducible exact rfl) | (with_reducible apply zn_add) | (with_reducible apply zn_mul) | (with_reducible exact zi_lit2 _)))); (· first | omega | decide); (· decide)) | ((with_reducible apply ss_len); (· first | (with_reducible assumption) | exact rfl); (· decide)) | (with_reducible refine ss_as ?_) | (with_reducible refine ss_bor ?_) | (with_reducible refine ss_or ?_) | (with_reducible refine ss_bcl ?_) | (with_reducible refine ss_bcr ?_) | (with_reducible refine ss_cl ?_) | (with_reducible refine ss_cr ?_) | (first | ((with_reducible refine ss_biT ?_ ?_); (· first | (with_reducible assumption) | decide)) | ((with_reducible refine ss_biF ?_ ?_); (· first | (with_reducible assumption) | decide)) | ((with_reducible refine ss_iT ?_ ?_); (· first | (with_reducible assumption) | decide)) | ((with_reducible refine ss_iF ?_ ?_); (· first | (with_reducible assumption) | decide))) | ((with_reducible apply ss_pZ); (· first | (with_reducible assumption) | exact rfl); (· first | (with_reducible assumption) | exact Or.inl rfl | exact Or.inr rfl)) | ((with_reducible apply ss_dvL); (· first | (with_reducible assumption) | decide)) | ((with_reducible apply ss_rmL); (· first | (with_reducible assumption) | decide)) | ((with_reducible apply ss_rmI); (· first | (with_reducible assumption) | decide)) | ((with_reducible apply ss_rz1); (· first | (with_reducible assumption) | exact Or.inl rfl | exact Or.inr rfl))))
  obtain ⟨I2, hI2⟩ : ∃ I2, I2 = sf_u2 (sf_u2 (sf_u2 (sf_u2 I1 112 13 0) 112 19 0) 112 20 0) 112 21 (-1) := ⟨_, rfl⟩
  rw [← hI2]
  have hz2 : ∀ a k, (a ≠ 112 ∨ (k ≠ 13 ∧ k ≠ 19 ∧ k ≠ 20 ∧ k ≠ 21)) → I2 a k = I1 a k := by
    intro a k h
    rw [hI2]
    by_cases e : a = 112
    · subst e
      have h := h.resolve_left (fun h => h rfl)
      rw [zu_k h.2.2.2, zu_k h.2.2.1, zu_k h.2.1, zu_k h.1]
    · rw [zu_a e, zu_a e, zu_a e, zu_a e]
  have hsp2 : zr_sp I2 T n := by
    obtain ⟨s1, s2, s3, s4, s5⟩ := h1
    refine ⟨by rw [hz2 112 18 (Or.inr (by decide))]; exact s1, fun s h1 h2 => ?_, by rw [hz2 121 _ (Or.inl (by decide))]; exact s3, by rw [hz2 122 _ (Or.inl (by decide))]; exact s4, by rw [hz2 123 _ (Or.inl (by decide))]; exact s5⟩
    rw [hz2 121 _ (Or.inl (by decide)), hz2 122 _ (Or.inl (by decide)), hz2 123 _ (Or.inl (by decide))]
    exact s2 s h1 h2
  have f2 : zf zk_rs I I2 := by rw [hI2]; exact zf_u2 (zf_u2 (zf_u2 (zf_u2 (zf_mono f1 (fun a k e => by simp [zk_sp, zk_rs] at *; omega)) rfl) rfl) rfl) rfl
  have hst : mr_st I2 c v pl m ord := by
    rw [hc, hv, hpl, hm]
    refine mr_st_sp hsp2 hb hn ?_ ?_ ?_
    · rw [f2 112 8 rfl]; exact h8
    · rw [f2 112 9 rfl]; exact h9
    · rw [f2 112 10 rfl]; exact h10
  have hg2 : mr_g I2 m 0 0 := by
    rw [hI2]
    refine ⟨zu_eq, ?_, Nat.zero_le _, ?_, by omega⟩
    · rw [zu_k (by decide), zu_k (by decide), zu_eq]; rfl
    · rw [zu_k (by decide), zu_eq]; rfl
  have h213 : I2 112 13 = 0 := by rw [hI2, zu_k (by decide), zu_k (by decide), zu_k (by decide), zu_eq]
  have h218 : I2 112 18 = Int32.ofNat m := by rw [hm]; exact hsp2.1
  refine zp_wp_call ((hone I2 hst).1 0 0 hg2) ?_
  rintro _ τ ⟨I3, rfl, f3, h3⟩
  have htx0 : tx_text c v ord m 12 0 0 = match tx_cl c v ord 0 0 with
    | .inl f => .inl f
    | .inr r => if m ≤ r.1 then .inr [r.2.2] else if c r.1 = 159 then (match tx_text c v ord m 11 (r.1 + 1) r.2.1 with
        | .inl f => .inl f
        | .inr cs => .inr (r.2.2 :: cs))
      else .inl r.1 := rfl
  refine zl_g (fun i (_ : Unit) => Int32.ofNat i) 1 13 (s0 := ()) rfl (by omega) (by omega) (fun i _ I' => zf zk_mr I2 I' ∧ ((∃ f, tx_text c v ord m 12 0 0 = .inl f ∧ mr_b I' pl m f) ∨ (i ≤ 12 ∧ ∃ q l cs, mr_g I' m q l ∧ tx_text c v ord m 12 0 0 = if m ≤ q then .inr cs else if c q = 159 then (match tx_text c v ord m (12 - i) (q + 1) l with
        | .inl f => .inl f
        | .inr cs' => .inr (cs ++ cs'))
      else .inl q))) ⟨f3, ?_⟩ ?_ ?_
  · rw [htx0]
    cases hcl : tx_cl c v ord 0 0 with
    | inl f => rw [hcl] at h3; exact Or.inl ⟨f, rfl, h3⟩
    | inr r =>
      rw [hcl] at h3
      refine Or.inr ⟨by omega, r.1, r.2.1, [r.2.2], h3, ?_⟩
      rfl
  -- the end, where it is fine or not
  all_goals
    have hbadEnd : ∀ I4 f, zf zk_mr I2 I4 → tx_text c v ord m 12 0 0 = .inl f → mr_b I4 pl m f → zp_wp (sf_bnd (sf_rc 11 (some 112) (jx_Mo_fine (some 112))) fun x17 =>
  sf_bnd (α := (Unit)) (
  if x17 = 0 then (
  sf_ret ()
  ) else (
  sf_bnd (sf_gI 11 19 (some 112)) fun x19 =>
  sf_bnd (sf_gI 11 18 (some 112)) fun x20 =>
  if x20 ≤ x19 then (
  sf_ret ()
  ) else (
  sf_bnd (sf_rc 11 (some 112) (jx_Mo_faults (some 112))) fun _ =>
  sf_ret ()
  )
  )
  ) (fun v23 =>
  sf_bnd (sf_gI 11 21 (some 112)) fun x24 =>
  sf_bnd (sf_pI 11 14 (some 112) x24) fun _ =>
  sf_bnd (sf_rc 11 (some 112) (jx_Mo_fine (some 112))) fun x25 =>
  sf_bnd (sf_rz x25) fun x26 =>
  sf_ret x26
  )) (fun x τ => ∃ I', τ = zp_Z t I' J D ∧ zf zk_rs I I' ∧ I' 112 13 = 0 ∧ zr_sp I' T n ∧ match tx_text c v ord m 12 0 0 with
    | .inl f => x = 0 ∧ I' 112 14 = Int32.ofNat (pl f) ∧ f ≤ m
    | .inr _ => x = 1 ∧ I' 112 14 = -1) (zp_Z t I4 J D) := by
      intro I4 f f4 he hb4
      have hst4 := mr_st_fr hst f4
      have hne := mr_b_ne hst4 hb4
      have hf := mx_fineF (t := t) (J := J) (D := D) hne
      obtain ⟨w, hw⟩ : ∃ w, I4 112 21 = w := ⟨_, rfl⟩
      have hf2 := mx_fineF (t := t) (I := sf_u2 I4 112 14 w) (J := J) (D := D) (by rw [zu_k (by decide)]; exact hne)
      repeat (first | (first | (with_reducible refine ss_ret ?_) | (with_reducible refine ss_bret ?_) | ((with_reducible apply ss_rc); (· first | (with_reducible assumption) | exact rfl)) | ((with_reducible apply ss_pt); (· first | (with_reducible assumption) | exact rfl); (· exact rfl)) | ((with_reducible apply ss_gR); (· first | (with_reducible assumption) | exact rfl); (· (with_reducible assumption))) | ((with_reducible apply ss_gI); (· first | (with_reducible assumption) | exact rfl); (· ((repeat (first | (with_reducible apply zr_e) | ((with_reducible apply zr_a); (· first | decide | omega)) | ((with_reducible apply zr_k); (· omega)) | (with_reducible apply zr_1e) | ((with_reducible apply zr_1a); (· first | decide | omega)))); (first | (with_reducible assumption) | exact rfl)))) | ((with_reducible apply ss_pI); (· first | (with_reducible assumption) | exact rfl)) | ((with_reducible apply ss_aI); (· first | (with_reducible assumption) | exact rfl); (· (repeat (first | (with_reducible assumption) | (with_reducible exact rfl) | (with_reducible apply zn_add) | (with_reducible apply zn_mul) | (with_reducible exact zi_lit2 _)))); (· first | omega | decide); (· decide); (· ((repeat (first | (with_reducible apply zr_e) | ((with_reducible apply zr_a); (· first | decide | omega)) | ((with_reducible apply zr_k); (· omega)) | (with_reducible apply zr_1e) | ((with_reducible apply zr_1a); (· first | decide | omega)))); (first | (with_reducible assumption) | exact rfl)))) | ((with_reducible apply ss_sI); (· first | (with_reducible assumption) | exact rfl); (· (repeat (first | (with_reducible assumption) | (with_reducible exact rfl) | (with_reducible apply zn_add) | (with_reducible apply zn_mul) | (with_reducible exact zi_lit2 _)))); (· first | omega | decide); (· decide)) | ((with_reducible apply ss_len); (· first | (with_reducible assumption) | exact rfl); (· decide)) | (with_reducible refine ss_as ?_) | (with_reducible refine ss_bor ?_) | (with_reducible refine ss_or ?_) | (with_reducible refine ss_bcl ?_) | (with_reducible refine ss_bcr ?_) | (with_reducible refine ss_cl ?_) | (with_reducible refine ss_cr ?_) | (first | ((with_reducible refine ss_biT ?_ ?_); (· first | (with_reducible assumption) | decide)) | ((with_reducible refine ss_biF ?_ ?_); (· first | (with_reducible assumption) | decide)) | ((with_reducible refine ss_iT ?_ ?_); (· first | (with_reducible assumption) | decide)) | ((with_reducible refine ss_iF ?_ ?_); (· first | (with_reducible assumption) | decide))) | ((with_reducible apply ss_pZ); (· first | (with_reducible assumption) | exact rfl); (· first | (with_reducible assumption) | exact Or.inl rfl | exact Or.inr rfl)) | ((with_reducible apply ss_dvL); (· first | (with_reducible assumption) | decide)) | ((with_reducible apply ss_rmL); (· first | (with_reducible assumption) | decide)) | ((with_reducible apply ss_rmI); (· first | (with_reducible assumption) | decide)) | ((with_reducible apply ss_rz1); (· first | (with_reducible assumption) | exact Or.inl rfl | exact Or.inr rfl))) | (with_reducible refine ss_call hf ?_) | (with_reducible refine ss_call hf2 ?_))
      refine ⟨_, rfl, zf_u2 (zf_trans f2 (zk_mr_rs f4)) rfl, ?_, ?_, ?_⟩
      · rw [zu_k (by decide), f4 112 13 rfl]; exact h213
      · obtain ⟨s1, s2, s3, s4, s5⟩ := hsp2
        refine ⟨by rw [zu_k (by decide), f4 112 18 rfl]; exact s1, fun s h1 h2 => ?_, by rw [zu_a (by decide), f4 121 _ rfl]; exact s3, by rw [zu_a (by decide), f4 122 _ rfl]; exact s4, by rw [zu_a (by decide), f4 123 _ rfl]; exact s5⟩
        rw [zu_a (by decide), zu_a (by decide), zu_a (by decide), f4 121 _ rfl, f4 122 _ rfl, f4 123 _ rfl]
        exact s2 s h1 h2
      · rw [he]; exact ⟨rfl, by rw [zu_eq, ← hw]; exact hb4.1, hb4.2⟩
    have hgoodEnd : ∀ I4 q l cs k, zf zk_mr I2 I4 → mr_g I4 m q l → ¬ c q = 159 → tx_text c v ord m 12 0 0 = (if m ≤ q then .inr cs else if c q = 159 then (match tx_text c v ord m k (q + 1) l with
        | .inl f => .inl f
        | .inr cs' => .inr (cs ++ cs'))
      else .inl q) → zp_wp (sf_bnd (sf_rc 11 (some 112) (jx_Mo_fine (some 112))) fun x17 =>
  sf_bnd (α := (Unit)) (
  if x17 = 0 then (
  sf_ret ()
  ) else (
  sf_bnd (sf_gI 11 19 (some 112)) fun x19 =>
  sf_bnd (sf_gI 11 18 (some 112)) fun x20 =>
  if x20 ≤ x19 then (
  sf_ret ()
  ) else (
  sf_bnd (sf_rc 11 (some 112) (jx_Mo_faults (some 112))) fun _ =>
  sf_ret ()
  )
  )
  ) (fun v23 =>
  sf_bnd (sf_gI 11 21 (some 112)) fun x24 =>
  sf_bnd (sf_pI 11 14 (some 112) x24) fun _ =>
  sf_bnd (sf_rc 11 (some 112) (jx_Mo_fine (some 112))) fun x25 =>
  sf_bnd (sf_rz x25) fun x26 =>
  sf_ret x26
  )) (fun x τ => ∃ I', τ = zp_Z t I' J D ∧ zf zk_rs I I' ∧ I' 112 13 = 0 ∧ zr_sp I' T n ∧ match tx_text c v ord m 12 0 0 with
    | .inl f => x = 0 ∧ I' 112 14 = Int32.ofNat (pl f) ∧ f ≤ m
    | .inr _ => x = 1 ∧ I' 112 14 = -1) (zp_Z t I4 J D) := by
      intro I4 q l cs k f4 hg4 h159 he
      have hst4 := mr_st_fr hst f4
      have hf := mx_fineT (t := t) (J := J) (D := D) hg4.1
      have h19 := hg4.2.1
      have h18 : I4 112 18 = Int32.ofNat m := (f4 112 18 rfl).trans h218
      have hqm := hg4.2.2.1
      by_cases hq : m ≤ q
      · have c1 : Int32.ofNat m ≤ Int32.ofNat q := zi_leL hq (by omega)
        have h21 := hg4.1
        have hf2 := mx_fineT (t := t) (I := sf_u2 I4 112 14 (-1)) (J := J) (D := D) (by rw [zu_k (by decide)]; exact hg4.1)
        rw [if_pos hq] at he
        repeat (first | (first | (with_reducible refine ss_ret ?_) | (with_reducible refine ss_bret ?_) | ((with_reducible apply ss_rc); (· first | (with_reducible assumption) | exact rfl)) | ((with_reducible apply ss_pt); (· first | (with_reducible assumption) | exact rfl); (· exact rfl)) | ((with_reducible apply ss_gR); (· first | (with_reducible assumption) | exact rfl); (· (with_reducible assumption))) | ((with_reducible apply ss_gI); (· first | (with_reducible assumption) | exact rfl); (· ((repeat (first | (with_reducible apply zr_e) | ((with_reducible apply zr_a); (· first | decide | omega)) | ((with_reducible apply zr_k); (· omega)) | (with_reducible apply zr_1e) | ((with_reducible apply zr_1a); (· first | decide | omega)))); (first | (with_reducible assumption) | exact rfl)))) | ((with_reducible apply ss_pI); (· first | (with_reducible assumption) | exact rfl)) | ((with_reducible apply ss_aI); (· first | (with_reducible assumption) | exact rfl); (· (repeat (first | (with_reducible assumption) | (with_reducible exact rfl) | (with_reducible apply zn_add) | (with_reducible apply zn_mul) | (with_reducible exact zi_lit2 _)))); (· first | omega | decide); (· decide); (· ((repeat (first | (with_reducible apply zr_e) | ((with_reducible apply zr_a); (· first | decide | omega)) | ((with_reducible apply zr_k); (· omega)) | (with_reducible apply zr_1e) | ((with_reducible apply zr_1a); (· first | decide | omega)))); (first | (with_reducible assumption) | exact rfl)))) | ((with_reducible apply ss_sI); (· first | (with_reducible assumption) | exact rfl); (· (repeat (first | (with_reducible assumption) | (with_reducible exact rfl) | (with_reducible apply zn_add) | (with_reducible apply zn_mul) | (with_reducible exact zi_lit2 _)))); (· first | omega | decide); (· decide)) | ((with_reducible apply ss_len); (· first | (with_reducible assumption) | exact rfl); (· decide)) | (with_reducible refine ss_as ?_) | (with_reducible refine ss_bor ?_) | (with_reducible refine ss_or ?_) | (with_reducible refine ss_bcl ?_) | (with_reducible refine ss_bcr ?_) | (with_reducible refine ss_cl ?_) | (with_reducible refine ss_cr ?_) | (first | ((with_reducible refine ss_biT ?_ ?_); (· first | (with_reducible assumption) | decide)) | ((with_reducible refine ss_biF ?_ ?_); (· first | (with_reducible assumption) | decide)) | ((with_reducible refine ss_iT ?_ ?_); (· first | (with_reducible assumption) | decide)) | ((with_reducible refine ss_iF ?_ ?_); (· first | (with_reducible assumption) | decide))) | ((with_reducible apply ss_pZ); (· first | (with_reducible assumption) | exact rfl); (· first | (with_reducible assumption) | exact Or.inl rfl | exact Or.inr rfl)) | ((with_reducible apply ss_dvL); (· first | (with_reducible assumption) | decide)) | ((with_reducible apply ss_rmL); (· first | (with_reducible assumption) | decide)) | ((with_reducible apply ss_rmI); (· first | (with_reducible assumption) | decide)) | ((with_reducible apply ss_rz1); (· first | (with_reducible assumption) | exact Or.inl rfl | exact Or.inr rfl))) | (with_reducible refine ss_call hf ?_) | (with_reducible refine ss_call hf2 ?_))
        refine ⟨_, rfl, zf_u2 (zf_trans f2 (zk_mr_rs f4)) rfl, ?_, ?_, ?_⟩
        · rw [zu_k (by decide), f4 112 13 rfl]; exact h213
        · obtain ⟨s1, s2, s3, s4, s5⟩ := hsp2
          refine ⟨by rw [zu_k (by decide), f4 112 18 rfl]; exact s1, fun s h1 h2 => ?_, by rw [zu_a (by decide), f4 121 _ rfl]; exact s3, by rw [zu_a (by decide), f4 122 _ rfl]; exact s4, by rw [zu_a (by decide), f4 123 _ rfl]; exact s5⟩
          rw [zu_a (by decide), zu_a (by decide), zu_a (by decide), f4 121 _ rfl, f4 122 _ rfl, f4 123 _ rfl]
          exact s2 s h1 h2
        · rw [he]; exact ⟨rfl, zu_eq⟩
      · have c1 : ¬ Int32.ofNat m ≤ Int32.ofNat q := zi_nle (by omega) (by omega)
        rw [if_neg hq, if_neg h159] at he
        have hfa := mx_faultsG (t := t) (J := J) (D := D) hst4 hg4
        obtain ⟨fb, gb⟩ := mr_bad (pl := pl) hg4
        have hne := mr_b_ne hst4 gb
        have h21 : sf_u2 I4 112 21 (Int32.ofNat (pl q)) 112 21 = Int32.ofNat (pl q) := zu_eq
        have hf2 := mx_fineF (t := t) (I := sf_u2 (sf_u2 I4 112 21 (Int32.ofNat (pl q))) 112 14 (Int32.ofNat (pl q))) (J := J) (D := D) (by rw [zu_k (by decide)]; exact hne)
        have f5 := zf_trans f4 fb
        repeat (first | (first | (with_reducible refine ss_ret ?_) | (with_reducible refine ss_bret ?_) | ((with_reducible apply ss_rc); (· first | (with_reducible assumption) | exact rfl)) | ((with_reducible apply ss_pt); (· first | (with_reducible assumption) | exact rfl); (· exact rfl)) | ((with_reducible apply ss_gR); (· first | (with_reducible assumption) | exact rfl); (· (with_reducible assumption))) | ((with_reducible apply ss_gI); (· first | (with_reducible assumption) | exact rfl); (· ((repeat (first | (with_reducible apply zr_e) | ((with_reducible apply zr_a); (· first | decide | omega)) | ((with_reducible apply zr_k); (· omega)) | (with_reducible apply zr_1e) | ((with_reducible apply zr_1a); (· first | decide | omega)))); (first | (with_reducible assumption) | exact rfl)))) | ((with_reducible apply ss_pI); (· first | (with_reducible assumption) | exact rfl)) | ((with_reducible apply ss_aI); (· first | (with_reducible assumption) | exact rfl); (· (repeat (first | (with_reducible assumption) | (with_reducible exact rfl) | (with_reducible apply zn_add) | (with_reducible apply zn_mul) | (with_reducible exact zi_lit2 _)))); (· first | omega | decide); (· decide); (· ((repeat (first | (with_reducible apply zr_e) | ((with_reducible apply zr_a); (· first | decide | omega)) | ((with_reducible apply zr_k); (· omega)) | (with_reducible apply zr_1e) | ((with_reducible apply zr_1a); (· first | decide | omega)))); (first | (with_reducible assumption) | exact rfl)))) | ((with_reducible apply ss_sI); (· first | (with_reducible assumption) | exact rfl); (· (repeat (first | (with_reducible assumption) | (with_reducible exact rfl) | (with_reducible apply zn_add) | (with_reducible apply zn_mul) | (with_reducible exact zi_lit2 _)))); (· first | omega | decide); (· decide)) | ((with_reducible apply ss_len); (· first | (with_reducible assumption) | exact rfl); (· decide)) | (with_reducible refine ss_as ?_) | (with_reducible refine ss_bor ?_) | (with_reducible refine ss_or ?_) | (with_reducible refine ss_bcl ?_) | (with_reducible refine ss_bcr ?_) | (with_reducible refine ss_cl ?_) | (with_reducible refine ss_cr ?_) | (first | ((with_reducible refine ss_biT ?_ ?_); (· first | (with_reducible assumption) | decide)) | ((with_reducible refine ss_biF ?_ ?_); (· first | (with_reducible assumption) | decide)) | ((with_reducible refine ss_iT ?_ ?_); (· first | (with_reducible assumption) | decide)) | ((with_reducible refine ss_iF ?_ ?_); (· first | (with_reducible assumption) | decide))) | ((with_reducible apply ss_pZ); (· first | (with_reducible assumption) | exact rfl); (· first | (with_reducible assumption) | exact Or.inl rfl | exact Or.inr rfl)) | ((with_reducible apply ss_dvL); (· first | (with_reducible assumption) | decide)) | ((with_reducible apply ss_rmL); (· first | (with_reducible assumption) | decide)) | ((with_reducible apply ss_rmI); (· first | (with_reducible assumption) | decide)) | ((with_reducible apply ss_rz1); (· first | (with_reducible assumption) | exact Or.inl rfl | exact Or.inr rfl))) | (with_reducible refine ss_call hf ?_) | (with_reducible refine ss_call hfa ?_) | (with_reducible refine ss_call hf2 ?_))
        refine ⟨_, rfl, zf_u2 (zf_trans f2 (zk_mr_rs f5)) rfl, ?_, ?_, ?_⟩
        · rw [zu_k (by decide), f5 112 13 rfl]; exact h213
        · obtain ⟨s1, s2, s3, s4, s5⟩ := hsp2
          refine ⟨by rw [zu_k (by decide), f5 112 18 rfl]; exact s1, fun s h1 h2 => ?_, by rw [zu_a (by decide), f5 121 _ rfl]; exact s3, by rw [zu_a (by decide), f5 122 _ rfl]; exact s4, by rw [zu_a (by decide), f5 123 _ rfl]; exact s5⟩
          exact ⟨by rw [zu_a (by decide), f5 121 _ rfl]; exact (s2 s h1 h2).1, by rw [zu_a (by decide), f5 122 _ rfl]; exact (s2 s h1 h2).2.1, by rw [zu_a (by decide), f5 123 _ rfl]; exact (s2 s h1 h2).2.2⟩
        · rw [he]; exact ⟨rfl, by rw [zu_eq], hqm⟩
  · rintro i - I4 hi1 hi ⟨f4, hcase⟩
    have hst4 := mr_st_fr hst f4
    rcases hcase with ⟨f, he, hb4⟩ | ⟨hi12, q, l, cs, hg4, he⟩
    · have t1 := mx_takesN (t := t) (J := J) (D := D) (mr_b_ne hst4 hb4) 159
      repeat (first | (first | (with_reducible refine ss_ret ?_) | (with_reducible refine ss_bret ?_) | ((with_reducible apply ss_rc); (· first | (with_reducible assumption) | exact rfl)) | ((with_reducible apply ss_pt); (· first | (with_reducible assumption) | exact rfl); (· exact rfl)) | ((with_reducible apply ss_gR); (· first | (with_reducible assumption) | exact rfl); (· (with_reducible assumption))) | ((with_reducible apply ss_gI); (· first | (with_reducible assumption) | exact rfl); (· ((repeat (first | (with_reducible apply zr_e) | ((with_reducible apply zr_a); (· first | decide | omega)) | ((with_reducible apply zr_k); (· omega)) | (with_reducible apply zr_1e) | ((with_reducible apply zr_1a); (· first | decide | omega)))); (first | (with_reducible assumption) | exact rfl)))) | ((with_reducible apply ss_pI); (· first | (with_reducible assumption) | exact rfl)) | ((with_reducible apply ss_aI); (· first | (with_reducible assumption) | exact rfl); (· (repeat (first | (with_reducible assumption) | (with_reducible exact rfl) | (with_reducible apply zn_add) | (with_reducible apply zn_mul) | (with_reducible exact zi_lit2 _)))); (· first | omega | decide); (· decide); (· ((repeat (first | (with_reducible apply zr_e) | ((with_reducible apply zr_a); (· first | decide | omega)) | ((with_reducible apply zr_k); (· omega)) | (with_reducible apply zr_1e) | ((with_reducible apply zr_1a); (· first | decide | omega)))); (first | (with_reducible assumption) | exact rfl)))) | ((with_reducible apply ss_sI); (· first | (with_reducible assumption) | exact rfl); (· (repeat (first | (with_reducible assumption) | (with_reducible exact rfl) | (with_reducible apply zn_add) | (with_reducible apply zn_mul) | (with_reducible exact zi_lit2 _)))); (· first | omega | decide); (· decide)) | ((with_reducible apply ss_len); (· first | (with_reducible assumption) | exact rfl); (· decide)) | (with_reducible refine ss_as ?_) | (with_reducible refine ss_bor ?_) | (with_reducible refine ss_or ?_) | (with_reducible refine ss_bcl ?_) | (with_reducible refine ss_bcr ?_) | (with_reducible refine ss_cl ?_) | (with_reducible refine ss_cr ?_) | (first | ((with_reducible refine ss_biT ?_ ?_); (· first | (with_reducible assumption) | decide)) | ((with_reducible refine ss_biF ?_ ?_); (· first | (with_reducible assumption) | decide)) | ((with_reducible refine ss_iT ?_ ?_); (· first | (with_reducible assumption) | decide)) | ((with_reducible refine ss_iF ?_ ?_); (· first | (with_reducible assumption) | decide))) | ((with_reducible apply ss_pZ); (· first | (with_reducible assumption) | exact rfl); (· first | (with_reducible assumption) | exact Or.inl rfl | exact Or.inr rfl)) | ((with_reducible apply ss_dvL); (· first | (with_reducible assumption) | decide)) | ((with_reducible apply ss_rmL); (· first | (with_reducible assumption) | decide)) | ((with_reducible apply ss_rmI); (· first | (with_reducible assumption) | decide)) | ((with_reducible apply ss_rz1); (· first | (with_reducible assumption) | exact Or.inl rfl | exact Or.inr rfl))) | (with_reducible refine ss_pure s59 ?_) | (with_reducible refine ss_call t1 ?_))
      refine Or.inr ⟨_, rfl, ?_⟩
      exact hbadEnd I4 f f4 he hb4
    · by_cases h159 : c q = 159
      · have t1 := mx_takesT (t := t) (J := J) (D := D) hst4 hg4 h159
        have hqm : q < m := mr_lt hst4 (by rw [h159]; decide)
        obtain ⟨fn, gn⟩ := mr_next hg4 hqm
        have fn' := zf_trans f4 fn
        have hstn := mr_st_fr hst fn'
        rw [if_neg (by omega), if_pos h159] at he
        have hfn := mx_fineT (t := t) (J := J) (D := D) gn.1
        by_cases e12 : i = 12
        · subst e12
          have c12 : Int32.ofNat 12 = 12 := rfl
          have hfa := mx_faultsG (t := t) (J := J) (D := D) hstn gn
          obtain ⟨fb, gb⟩ := mr_bad (pl := pl) gn
          have hne := mx_fineF (t := t) (J := J) (D := D) (mr_b_ne hstn gb)
          repeat (first | (first | (with_reducible refine ss_ret ?_) | (with_reducible refine ss_bret ?_) | ((with_reducible apply ss_rc); (· first | (with_reducible assumption) | exact rfl)) | ((with_reducible apply ss_pt); (· first | (with_reducible assumption) | exact rfl); (· exact rfl)) | ((with_reducible apply ss_gR); (· first | (with_reducible assumption) | exact rfl); (· (with_reducible assumption))) | ((with_reducible apply ss_gI); (· first | (with_reducible assumption) | exact rfl); (· ((repeat (first | (with_reducible apply zr_e) | ((with_reducible apply zr_a); (· first | decide | omega)) | ((with_reducible apply zr_k); (· omega)) | (with_reducible apply zr_1e) | ((with_reducible apply zr_1a); (· first | decide | omega)))); (first | (with_reducible assumption) | exact rfl)))) | ((with_reducible apply ss_pI); (· first | (with_reducible assumption) | exact rfl)) | ((with_reducible apply ss_aI); (· first | (with_reducible assumption) | exact rfl); (· (repeat (first | (with_reducible assumption) | (with_reducible exact rfl) | (with_reducible apply zn_add) | (with_reducible apply zn_mul) | (with_reducible exact zi_lit2 _)))); (· first | omega | decide); (· decide); (· ((repeat (first | (with_reducible apply zr_e) | ((with_reducible apply zr_a); (· first | decide | omega)) | ((with_reducible apply zr_k); (· omega)) | (with_reducible apply zr_1e) | ((with_reducible apply zr_1a); (· first | decide | omega)))); (first | (with_reducible assumption) | exact rfl)))) | ((with_reducible apply ss_sI); (· first | (with_reducible assumption) | exact rfl); (· (repeat (first | (with_reducible assumption) | (with_reducible exact rfl) | (with_reducible apply zn_add) | (with_reducible apply zn_mul) | (with_reducible exact zi_lit2 _)))); (· first | omega | decide); (· decide)) | ((with_reducible apply ss_len); (· first | (with_reducible assumption) | exact rfl); (· decide)) | (with_reducible refine ss_as ?_) | (with_reducible refine ss_bor ?_) | (with_reducible refine ss_or ?_) | (with_reducible refine ss_bcl ?_) | (with_reducible refine ss_bcr ?_) | (with_reducible refine ss_cl ?_) | (with_reducible refine ss_cr ?_) | (first | ((with_reducible refine ss_biT ?_ ?_); (· first | (with_reducible assumption) | decide)) | ((with_reducible refine ss_biF ?_ ?_); (· first | (with_reducible assumption) | decide)) | ((with_reducible refine ss_iT ?_ ?_); (· first | (with_reducible assumption) | decide)) | ((with_reducible refine ss_iF ?_ ?_); (· first | (with_reducible assumption) | decide))) | ((with_reducible apply ss_pZ); (· first | (with_reducible assumption) | exact rfl); (· first | (with_reducible assumption) | exact Or.inl rfl | exact Or.inr rfl)) | ((with_reducible apply ss_dvL); (· first | (with_reducible assumption) | decide)) | ((with_reducible apply ss_rmL); (· first | (with_reducible assumption) | decide)) | ((with_reducible apply ss_rmI); (· first | (with_reducible assumption) | decide)) | ((with_reducible apply ss_rz1); (· first | (with_reducible assumption) | exact Or.inl rfl | exact Or.inr rfl))) | (with_reducible refine ss_pure s59 ?_) | (with_reducible refine ss_call t1 ?_) | (with_reducible refine ss_call hfa ?_) | (with_reducible refine ss_call hne ?_))
          exact Or.inl ⟨(), _, by rw [zi_s], rfl, zf_trans fn' fb, Or.inl ⟨q + 1, he, gb⟩⟩
        · have c12 : ¬ Int32.ofNat i = 12 := zi_ne (b := 12) e12 (by omega) (by omega)
          repeat (first | (first | (with_reducible refine ss_ret ?_) | (with_reducible refine ss_bret ?_) | ((with_reducible apply ss_rc); (· first | (with_reducible assumption) | exact rfl)) | ((with_reducible apply ss_pt); (· first | (with_reducible assumption) | exact rfl); (· exact rfl)) | ((with_reducible apply ss_gR); (· first | (with_reducible assumption) | exact rfl); (· (with_reducible assumption))) | ((with_reducible apply ss_gI); (· first | (with_reducible assumption) | exact rfl); (· ((repeat (first | (with_reducible apply zr_e) | ((with_reducible apply zr_a); (· first | decide | omega)) | ((with_reducible apply zr_k); (· omega)) | (with_reducible apply zr_1e) | ((with_reducible apply zr_1a); (· first | decide | omega)))); (first | (with_reducible assumption) | exact rfl)))) | ((with_reducible apply ss_pI); (· first | (with_reducible assumption) | exact rfl)) | ((with_reducible apply ss_aI); (· first | (with_reducible assumption) | exact rfl); (· (repeat (first | (with_reducible assumption) | (with_reducible exact rfl) | (with_reducible apply zn_add) | (with_reducible apply zn_mul) | (with_reducible exact zi_lit2 _)))); (· first | omega | decide); (· decide); (· ((repeat (first | (with_reducible apply zr_e) | ((with_reducible apply zr_a); (· first | decide | omega)) | ((with_reducible apply zr_k); (· omega)) | (with_reducible apply zr_1e) | ((with_reducible apply zr_1a); (· first | decide | omega)))); (first | (with_reducible assumption) | exact rfl)))) | ((with_reducible apply ss_sI); (· first | (with_reducible assumption) | exact rfl); (· (repeat (first | (with_reducible assumption) | (with_reducible exact rfl) | (with_reducible apply zn_add) | (with_reducible apply zn_mul) | (with_reducible exact zi_lit2 _)))); (· first | omega | decide); (· decide)) | ((with_reducible apply ss_len); (· first | (with_reducible assumption) | exact rfl); (· decide)) | (with_reducible refine ss_as ?_) | (with_reducible refine ss_bor ?_) | (with_reducible refine ss_or ?_) | (with_reducible refine ss_bcl ?_) | (with_reducible refine ss_bcr ?_) | (with_reducible refine ss_cl ?_) | (with_reducible refine ss_cr ?_) | (first | ((with_reducible refine ss_biT ?_ ?_); (· first | (with_reducible assumption) | decide)) | ((with_reducible refine ss_biF ?_ ?_); (· first | (with_reducible assumption) | decide)) | ((with_reducible refine ss_iT ?_ ?_); (· first | (with_reducible assumption) | decide)) | ((with_reducible refine ss_iF ?_ ?_); (· first | (with_reducible assumption) | decide))) | ((with_reducible apply ss_pZ); (· first | (with_reducible assumption) | exact rfl); (· first | (with_reducible assumption) | exact Or.inl rfl | exact Or.inr rfl)) | ((with_reducible apply ss_dvL); (· first | (with_reducible assumption) | decide)) | ((with_reducible apply ss_rmL); (· first | (with_reducible assumption) | decide)) | ((with_reducible apply ss_rmI); (· first | (with_reducible assumption) | decide)) | ((with_reducible apply ss_rz1); (· first | (with_reducible assumption) | exact Or.inl rfl | exact Or.inr rfl))) | (with_reducible refine ss_pure s59 ?_) | (with_reducible refine ss_call t1 ?_) | (with_reducible refine ss_call hfn ?_))
          refine zp_wp_call ((hone _ hstn).1 (q + 1) l gn) ?_
          rintro _ τ ⟨I5, rfl, f5, h5⟩
          (repeat (first | (with_reducible refine ss_ret ?_) | (with_reducible refine ss_bret ?_) | ((with_reducible apply ss_rc); (· first | (with_reducible assumption) | exact rfl)) | ((with_reducible apply ss_pt); (· first | (with_reducible assumption) | exact rfl); (· exact rfl)) | ((with_reducible apply ss_gR); (· first | (with_reducible assumption) | exact rfl); (· (with_reducible assumption))) | ((with_reducible apply ss_gI); (· first | (with_reducible assumption) | exact rfl); (· ((repeat (first | (with_reducible apply zr_e) | ((with_reducible apply zr_a); (· first | decide | omega)) | ((with_reducible apply zr_k); (· omega)) | (with_reducible apply zr_1e) | ((with_reducible apply zr_1a); (· first | decide | omega)))); (first | (with_reducible assumption) | exact rfl)))) | ((with_reducible apply ss_pI); (· first | (with_reducible assumption) | exact rfl)) | ((with_reducible apply ss_aI); (· first | (with_reducible assumption) | exact rfl); (· (repeat (first | (with_reducible assumption) | (with_reducible exact rfl) | (with_reducible apply zn_add) | (with_reducible apply zn_mul) | (with_reducible exact zi_lit2 _)))); (· first | omega | decide); (· decide); (· ((repeat (first | (with_reducible apply zr_e) | ((with_reducible apply zr_a); (· first | decide | omega)) | ((with_reducible apply zr_k); (· omega)) | (with_reducible apply zr_1e) | ((with_reducible apply zr_1a); (· first | decide | omega)))); (first | (with_reducible assumption) | exact rfl)))) | ((with_reducible apply ss_sI); (· first | (with_reducible assumption) | exact rfl); (· (repeat (first | (with_reducible assumption) | (with_reducible exact rfl) | (with_reducible apply zn_add) | (with_reducible apply zn_mul) | (with_reducible exact zi_lit2 _)))); (· first | omega | decide); (· decide)) | ((with_reducible apply ss_len); (· first | (with_reducible assumption) | exact rfl); (· decide)) | (with_reducible refine ss_as ?_) | (with_reducible refine ss_bor ?_) | (with_reducible refine ss_or ?_) | (with_reducible refine ss_bcl ?_) | (with_reducible refine ss_bcr ?_) | (with_reducible refine ss_cl ?_) | (with_reducible refine ss_cr ?_) | (first | ((with_reducible refine ss_biT ?_ ?_); (· first | (with_reducible assumption) | decide)) | ((with_reducible refine ss_biF ?_ ?_); (· first | (with_reducible assumption) | decide)) | ((with_reducible refine ss_iT ?_ ?_); (· first | (with_reducible assumption) | decide)) | ((with_reducible refine ss_iF ?_ ?_); (· first | (with_reducible assumption) | decide))) | ((with_reducible apply ss_pZ); (· first | (with_reducible assumption) | exact rfl); (· first | (with_reducible assumption) | exact Or.inl rfl | exact Or.inr rfl)) | ((with_reducible apply ss_dvL); (· first | (with_reducible assumption) | decide)) | ((with_reducible apply ss_rmL); (· first | (with_reducible assumption) | decide)) | ((with_reducible apply ss_rmI); (· first | (with_reducible assumption) | decide)) | ((with_reducible apply ss_rz1); (· first | (with_reducible assumption) | exact Or.inl rfl | exact Or.inr rfl))))
          refine Or.inl ⟨(), I5, by rw [zi_s], rfl, zf_trans fn' f5, ?_⟩
          rw [show 12 - i = 11 - i + 1 by omega] at he
          have htx1 : tx_text c v ord m (11 - i + 1) (q + 1) l = match tx_cl c v ord (q + 1) l with
            | .inl f => .inl f
            | .inr r => if m ≤ r.1 then .inr [r.2.2] else if c r.1 = 159 then (match tx_text c v ord m (11 - i) (r.1 + 1) r.2.1 with
                | .inl f => .inl f
                | .inr cs => .inr (r.2.2 :: cs))
              else .inl r.1 := rfl
          rw [htx1] at he
          cases hcl : tx_cl c v ord (q + 1) l with
          | inl f => rw [hcl] at h5 he; exact Or.inl ⟨f, he, h5⟩
          | inr r =>
            rw [hcl] at h5 he
            refine Or.inr ⟨by omega, r.1, r.2.1, cs ++ [r.2.2], h5, ?_⟩
            rw [he]
            dsimp only
            by_cases hm2 : m ≤ r.1
            · rw [if_pos hm2, if_pos hm2]
            · rw [if_neg hm2, if_neg hm2]
              by_cases h9 : c r.1 = 159
              · rw [if_pos h9, if_pos h9, show 12 - (i + 1) = 11 - i by omega]
                cases tx_text c v ord m (11 - i) (r.1 + 1) r.2.1 with
                | inl f => rfl
                | inr cs' => show _ = Sum.inr (cs ++ [r.2.2] ++ cs'); rw [List.append_assoc]; rfl
              · rw [if_neg h9, if_neg h9]
      · have t1 := mx_takesF (t := t) (J := J) (D := D) hst4 hg4 h159
        repeat (first | (first | (with_reducible refine ss_ret ?_) | (with_reducible refine ss_bret ?_) | ((with_reducible apply ss_rc); (· first | (with_reducible assumption) | exact rfl)) | ((with_reducible apply ss_pt); (· first | (with_reducible assumption) | exact rfl); (· exact rfl)) | ((with_reducible apply ss_gR); (· first | (with_reducible assumption) | exact rfl); (· (with_reducible assumption))) | ((with_reducible apply ss_gI); (· first | (with_reducible assumption) | exact rfl); (· ((repeat (first | (with_reducible apply zr_e) | ((with_reducible apply zr_a); (· first | decide | omega)) | ((with_reducible apply zr_k); (· omega)) | (with_reducible apply zr_1e) | ((with_reducible apply zr_1a); (· first | decide | omega)))); (first | (with_reducible assumption) | exact rfl)))) | ((with_reducible apply ss_pI); (· first | (with_reducible assumption) | exact rfl)) | ((with_reducible apply ss_aI); (· first | (with_reducible assumption) | exact rfl); (· (repeat (first | (with_reducible assumption) | (with_reducible exact rfl) | (with_reducible apply zn_add) | (with_reducible apply zn_mul) | (with_reducible exact zi_lit2 _)))); (· first | omega | decide); (· decide); (· ((repeat (first | (with_reducible apply zr_e) | ((with_reducible apply zr_a); (· first | decide | omega)) | ((with_reducible apply zr_k); (· omega)) | (with_reducible apply zr_1e) | ((with_reducible apply zr_1a); (· first | decide | omega)))); (first | (with_reducible assumption) | exact rfl)))) | ((with_reducible apply ss_sI); (· first | (with_reducible assumption) | exact rfl); (· (repeat (first | (with_reducible assumption) | (with_reducible exact rfl) | (with_reducible apply zn_add) | (with_reducible apply zn_mul) | (with_reducible exact zi_lit2 _)))); (· first | omega | decide); (· decide)) | ((with_reducible apply ss_len); (· first | (with_reducible assumption) | exact rfl); (· decide)) | (with_reducible refine ss_as ?_) | (with_reducible refine ss_bor ?_) | (with_reducible refine ss_or ?_) | (with_reducible refine ss_bcl ?_) | (with_reducible refine ss_bcr ?_) | (with_reducible refine ss_cl ?_) | (with_reducible refine ss_cr ?_) | (first | ((with_reducible refine ss_biT ?_ ?_); (· first | (with_reducible assumption) | decide)) | ((with_reducible refine ss_biF ?_ ?_); (· first | (with_reducible assumption) | decide)) | ((with_reducible refine ss_iT ?_ ?_); (· first | (with_reducible assumption) | decide)) | ((with_reducible refine ss_iF ?_ ?_); (· first | (with_reducible assumption) | decide))) | ((with_reducible apply ss_pZ); (· first | (with_reducible assumption) | exact rfl); (· first | (with_reducible assumption) | exact Or.inl rfl | exact Or.inr rfl)) | ((with_reducible apply ss_dvL); (· first | (with_reducible assumption) | decide)) | ((with_reducible apply ss_rmL); (· first | (with_reducible assumption) | decide)) | ((with_reducible apply ss_rmI); (· first | (with_reducible assumption) | decide)) | ((with_reducible apply ss_rz1); (· first | (with_reducible assumption) | exact Or.inl rfl | exact Or.inr rfl))) | (with_reducible refine ss_pure s59 ?_) | (with_reducible refine ss_call t1 ?_))
        refine Or.inr ⟨_, rfl, ?_⟩
        exact hgoodEnd I4 q l cs _ f4 hg4 h159 he
  · rintro - I4 ⟨f4, hcase⟩
    have hst4 := mr_st_fr hst f4
    rcases hcase with ⟨f, he, hb4⟩ | ⟨hi12, q, l, cs, hg4, he⟩
    · have t1 := mx_takesN (t := t) (J := J) (D := D) (mr_b_ne hst4 hb4) 159
      repeat (first | (first | (with_reducible refine ss_ret ?_) | (with_reducible refine ss_bret ?_) | ((with_reducible apply ss_rc); (· first | (with_reducible assumption) | exact rfl)) | ((with_reducible apply ss_pt); (· first | (with_reducible assumption) | exact rfl); (· exact rfl)) | ((with_reducible apply ss_gR); (· first | (with_reducible assumption) | exact rfl); (· (with_reducible assumption))) | ((with_reducible apply ss_gI); (· first | (with_reducible assumption) | exact rfl); (· ((repeat (first | (with_reducible apply zr_e) | ((with_reducible apply zr_a); (· first | decide | omega)) | ((with_reducible apply zr_k); (· omega)) | (with_reducible apply zr_1e) | ((with_reducible apply zr_1a); (· first | decide | omega)))); (first | (with_reducible assumption) | exact rfl)))) | ((with_reducible apply ss_pI); (· first | (with_reducible assumption) | exact rfl)) | ((with_reducible apply ss_aI); (· first | (with_reducible assumption) | exact rfl); (· (repeat (first | (with_reducible assumption) | (with_reducible exact rfl) | (with_reducible apply zn_add) | (with_reducible apply zn_mul) | (with_reducible exact zi_lit2 _)))); (· first | omega | decide); (· decide); (· ((repeat (first | (with_reducible apply zr_e) | ((with_reducible apply zr_a); (· first | decide | omega)) | ((with_reducible apply zr_k); (· omega)) | (with_reducible apply zr_1e) | ((with_reducible apply zr_1a); (· first | decide | omega)))); (first | (with_reducible assumption) | exact rfl)))) | ((with_reducible apply ss_sI); (· first | (with_reducible assumption) | exact rfl); (· (repeat (first | (with_reducible assumption) | (with_reducible exact rfl) | (with_reducible apply zn_add) | (with_reducible apply zn_mul) | (with_reducible exact zi_lit2 _)))); (· first | omega | decide); (· decide)) | ((with_reducible apply ss_len); (· first | (with_reducible assumption) | exact rfl); (· decide)) | (with_reducible refine ss_as ?_) | (with_reducible refine ss_bor ?_) | (with_reducible refine ss_or ?_) | (with_reducible refine ss_bcl ?_) | (with_reducible refine ss_bcr ?_) | (with_reducible refine ss_cl ?_) | (with_reducible refine ss_cr ?_) | (first | ((with_reducible refine ss_biT ?_ ?_); (· first | (with_reducible assumption) | decide)) | ((with_reducible refine ss_biF ?_ ?_); (· first | (with_reducible assumption) | decide)) | ((with_reducible refine ss_iT ?_ ?_); (· first | (with_reducible assumption) | decide)) | ((with_reducible refine ss_iF ?_ ?_); (· first | (with_reducible assumption) | decide))) | ((with_reducible apply ss_pZ); (· first | (with_reducible assumption) | exact rfl); (· first | (with_reducible assumption) | exact Or.inl rfl | exact Or.inr rfl)) | ((with_reducible apply ss_dvL); (· first | (with_reducible assumption) | decide)) | ((with_reducible apply ss_rmL); (· first | (with_reducible assumption) | decide)) | ((with_reducible apply ss_rmI); (· first | (with_reducible assumption) | decide)) | ((with_reducible apply ss_rz1); (· first | (with_reducible assumption) | exact Or.inl rfl | exact Or.inr rfl))) | (with_reducible refine ss_pure s59 ?_) | (with_reducible refine ss_call t1 ?_))
      refine ⟨_, rfl, ?_⟩
      exact hbadEnd I4 f f4 he hb4
    · omega
def zk_ra (a k : Nat) : Bool := zk_rs a k || (a == 112 && (k == 8 || k == 9 || k == 10))
set_option maxRecDepth 20000 in
theorem mx_readsAs (hT : ∀ i, i < n → I 119 i = sf_nw 2 (T i)) (hb : ∀ i, i < n → 0 ≤ T i ∧ T i ≤ 255) (hw : zr_wb I) (hn : n ≤ 400) (h13 : I 112 13 = Int32.ofNat n) : zp_wp (jx_Mo_readsAs (some 112) (zb ord)) (fun x τ => ∃ I', τ = zp_Z t I' J D ∧ zf zk_ra I I' ∧ I' 112 13 = 0 ∧ zr_sp I' T n ∧ match tx_text (tkC T n) (tkV T n) ord (tk_n T n) 12 0 0 with
    | .inl f => x = 0 ∧ I' 112 14 = Int32.ofNat (tkS T n f) ∧ f ≤ tk_n T n
    | .inr _ => x = 1 ∧ I' 112 14 = -1) (zp_Z t I J D) := by
  have ho := zb_01 ord
  have hrs : ∀ a b : Int32, (a = if ord = true then 13 else 7) → (b = if ord = true then 19 else 13) → zp_wp (sf_bnd (jx_Mo_reads (some 112)) fun x5 => sf_bnd (sf_rz x5) fun x6 => sf_ret x6) (fun x τ => ∃ I', τ = zp_Z t I' J D ∧ zf zk_ra I I' ∧ I' 112 13 = 0 ∧ zr_sp I' T n ∧ match tx_text (tkC T n) (tkV T n) ord (tk_n T n) 12 0 0 with
    | .inl f => x = 0 ∧ I' 112 14 = Int32.ofNat (tkS T n f) ∧ f ≤ tk_n T n
    | .inr _ => x = 1 ∧ I' 112 14 = -1) (zp_Z t (sf_u2 (sf_u2 (sf_u2 I 112 10 (zb ord)) 112 8 a) 112 9 b) J D) := by
    intro a b ha hb'
    refine zp_wp_call (mx_reads (I := sf_u2 (sf_u2 (sf_u2 I 112 10 (zb ord)) 112 8 a) 112 9 b) (T := T) (ord := ord) (fun i hi => by rw [zu_a (by decide), zu_a (by decide), zu_a (by decide)]; exact hT i hi) hb (fun k hk => by rw [zu_a (by decide), zu_a (by decide), zu_a (by decide)]; exact hw k hk) hn ?_ ?_ ?_ ?_) ?_
    · rw [zu_k (by decide), zu_k (by decide), zu_k (by decide)]; exact h13
    · rw [zu_k (by decide), zu_eq]; exact ha
    · rw [zu_eq]; exact hb'
    · rw [zu_k (by decide), zu_k (by decide), zu_eq]
    · rintro x τ ⟨I2, rfl, f2, h2, h3, h4⟩
      have h01 : x = 0 ∨ x = 1 := by
        cases htx : tx_text (tkC T n) (tkV T n) ord (tk_n T n) 12 0 0 with
        | inl q => rw [htx] at h4; exact Or.inl h4.1
        | inr r => rw [htx] at h4; exact Or.inr h4.1
      refine ss_rz1 h01 ?_
      (repeat (first | (with_reducible refine ss_ret ?_) | (with_reducible refine ss_bret ?_) | ((with_reducible apply ss_rc); (· first | (with_reducible assumption) | exact rfl)) | ((with_reducible apply ss_pt); (· first | (with_reducible assumption) | exact rfl); (· exact rfl)) | ((with_reducible apply ss_gR); (· first | (with_reducible assumption) | exact rfl); (· (with_reducible assumption))) | ((with_reducible apply ss_gI); (· first | (with_reducible assumption) | exact rfl); (· ((repeat (first | (with_reducible apply zr_e) | ((with_reducible apply zr_a); (· first | decide | omega)) | ((with_reducible apply zr_k); (· omega)) | (with_reducible apply zr_1e) | ((with_reducible apply zr_1a); (· first | decide | omega)))); (first | (with_reducible assumption) | exact rfl)))) | ((with_reducible apply ss_pI); (· first | (with_reducible assumption) | exact rfl)) | ((with_reducible apply ss_aI); (· first | (with_reducible assumption) | exact rfl); (· (repeat (first | (with_reducible assumption) | (with_reducible exact rfl) | (with_reducible apply zn_add) | (with_reducible apply zn_mul) | (with_reducible exact zi_lit2 _)))); (· first | omega | decide); (· decide); (· ((repeat (first | (with_reducible apply zr_e) | ((with_reducible apply zr_a); (· first | decide | omega)) | ((with_reducible apply zr_k); (· omega)) | (with_reducible apply zr_1e) | ((with_reducible apply zr_1a); (· first | decide | omega)))); (first | (with_reducible assumption) | exact rfl)))) | ((with_reducible apply ss_sI); (· first | (with_reducible assumption) | exact rfl); (· (repeat (first | (with_reducible assumption) | (with_reducible exact rfl) | (with_reducible apply zn_add) | (with_reducible apply zn_mul) | (with_reducible exact zi_lit2 _)))); (· first | omega | decide); (· decide)) | ((with_reducible apply ss_len); (· first | (with_reducible assumption) | exact rfl); (· decide)) | (with_reducible refine ss_as ?_) | (with_reducible refine ss_bor ?_) | (with_reducible refine ss_or ?_) | (with_reducible refine ss_bcl ?_) | (with_reducible refine ss_bcr ?_) | (with_reducible refine ss_cl ?_) | (with_reducible refine ss_cr ?_) | (first | ((with_reducible refine ss_biT ?_ ?_); (· first | (with_reducible assumption) | decide)) | ((with_reducible refine ss_biF ?_ ?_); (· first | (with_reducible assumption) | decide)) | ((with_reducible refine ss_iT ?_ ?_); (· first | (with_reducible assumption) | decide)) | ((with_reducible refine ss_iF ?_ ?_); (· first | (with_reducible assumption) | decide))) | ((with_reducible apply ss_pZ); (· first | (with_reducible assumption) | exact rfl); (· first | (with_reducible assumption) | exact Or.inl rfl | exact Or.inr rfl)) | ((with_reducible apply ss_dvL); (· first | (with_reducible assumption) | decide)) | ((with_reducible apply ss_rmL); (· first | (with_reducible assumption) | decide)) | ((with_reducible apply ss_rmI); (· first | (with_reducible assumption) | decide)) | ((with_reducible apply ss_rz1); (· first | (with_reducible assumption) | exact Or.inl rfl | exact Or.inr rfl))))
      exact ⟨I2, rfl, zf_trans (zf_u2 (zf_u2 (zf_u2 (zf_refl _ _) rfl) rfl) rfl) (zf_mono f2 (fun a k e => by unfold zk_ra; rw [e]; rfl)), h2, h3, h4⟩
  unfold jx_Mo_readsAs
  cases ord with
  | false =>
    have hz : zb false = 0 := rfl
    (repeat (first | (with_reducible refine ss_ret ?_) | (with_reducible refine ss_bret ?_) | ((with_reducible apply ss_rc); (· first | (with_reducible assumption) | exact rfl)) | ((with_reducible apply ss_pt); (· first | (with_reducible assumption) | exact rfl); (· exact rfl)) | ((with_reducible apply ss_gR); (· first | (with_reducible assumption) | exact rfl); (· (with_reducible assumption))) | ((with_reducible apply ss_gI); (· first | (with_reducible assumption) | exact rfl); (· ((repeat (first | (with_reducible apply zr_e) | ((with_reducible apply zr_a); (· first | decide | omega)) | ((with_reducible apply zr_k); (· omega)) | (with_reducible apply zr_1e) | ((with_reducible apply zr_1a); (· first | decide | omega)))); (first | (with_reducible assumption) | exact rfl)))) | ((with_reducible apply ss_pI); (· first | (with_reducible assumption) | exact rfl)) | ((with_reducible apply ss_aI); (· first | (with_reducible assumption) | exact rfl); (· (repeat (first | (with_reducible assumption) | (with_reducible exact rfl) | (with_reducible apply zn_add) | (with_reducible apply zn_mul) | (with_reducible exact zi_lit2 _)))); (· first | omega | decide); (· decide); (· ((repeat (first | (with_reducible apply zr_e) | ((with_reducible apply zr_a); (· first | decide | omega)) | ((with_reducible apply zr_k); (· omega)) | (with_reducible apply zr_1e) | ((with_reducible apply zr_1a); (· first | decide | omega)))); (first | (with_reducible assumption) | exact rfl)))) | ((with_reducible apply ss_sI); (· first | (with_reducible assumption) | exact rfl); (· (repeat (first | (with_reducible assumption) | (with_reducible exact rfl) | (with_reducible apply zn_add) | (with_reducible apply zn_mul) | (with_reducible exact zi_lit2 _)))); (· first | omega | decide); (· decide)) | ((with_reducible apply ss_len); (· first | (with_reducible assumption) | exact rfl); (· decide)) | (with_reducible refine ss_as ?_) | (with_reducible refine ss_bor ?_) | (with_reducible refine ss_or ?_) | (with_reducible refine ss_bcl ?_) | (with_reducible refine ss_bcr ?_) | (with_reducible refine ss_cl ?_) | (with_reducible refine ss_cr ?_) | (first | ((with_reducible refine ss_biT ?_ ?_); (· first | (with_reducible assumption) | decide)) | ((with_reducible refine ss_biF ?_ ?_); (· first | (with_reducible assumption) | decide)) | ((with_reducible refine ss_iT ?_ ?_); (· first | (with_reducible assumption) | decide)) | ((with_reducible refine ss_iF ?_ ?_); (· first | (with_reducible assumption) | decide))) | ((with_reducible apply ss_pZ); (· first | (with_reducible assumption) | exact rfl); (· first | (with_reducible assumption) | exact Or.inl rfl | exact Or.inr rfl)) | ((with_reducible apply ss_dvL); (· first | (with_reducible assumption) | decide)) | ((with_reducible apply ss_rmL); (· first | (with_reducible assumption) | decide)) | ((with_reducible apply ss_rmI); (· first | (with_reducible assumption) | decide)) | ((with_reducible apply ss_rz1); (· first | (with_reducible assumption) | exact Or.inl rfl | exact Or.inr rfl))))
    exact hrs 7 13 rfl rfl
  | true =>
    have hz : ¬ zb true = 0 := by decide
    (repeat (first | (with_reducible refine ss_ret ?_) | (with_reducible refine ss_bret ?_) | ((with_reducible apply ss_rc); (· first | (with_reducible assumption) | exact rfl)) | ((with_reducible apply ss_pt); (· first | (with_reducible assumption) | exact rfl); (· exact rfl)) | ((with_reducible apply ss_gR); (· first | (with_reducible assumption) | exact rfl); (· (with_reducible assumption))) | ((with_reducible apply ss_gI); (· first | (with_reducible assumption) | exact rfl); (· ((repeat (first | (with_reducible apply zr_e) | ((with_reducible apply zr_a); (· first | decide | omega)) | ((with_reducible apply zr_k); (· omega)) | (with_reducible apply zr_1e) | ((with_reducible apply zr_1a); (· first | decide | omega)))); (first | (with_reducible assumption) | exact rfl)))) | ((with_reducible apply ss_pI); (· first | (with_reducible assumption) | exact rfl)) | ((with_reducible apply ss_aI); (· first | (with_reducible assumption) | exact rfl); (· (repeat (first | (with_reducible assumption) | (with_reducible exact rfl) | (with_reducible apply zn_add) | (with_reducible apply zn_mul) | (with_reducible exact zi_lit2 _)))); (· first | omega | decide); (· decide); (· ((repeat (first | (with_reducible apply zr_e) | ((with_reducible apply zr_a); (· first | decide | omega)) | ((with_reducible apply zr_k); (· omega)) | (with_reducible apply zr_1e) | ((with_reducible apply zr_1a); (· first | decide | omega)))); (first | (with_reducible assumption) | exact rfl)))) | ((with_reducible apply ss_sI); (· first | (with_reducible assumption) | exact rfl); (· (repeat (first | (with_reducible assumption) | (with_reducible exact rfl) | (with_reducible apply zn_add) | (with_reducible apply zn_mul) | (with_reducible exact zi_lit2 _)))); (· first | omega | decide); (· decide)) | ((with_reducible apply ss_len); (· first | (with_reducible assumption) | exact rfl); (· decide)) | (with_reducible refine ss_as ?_) | (with_reducible refine ss_bor ?_) | (with_reducible refine ss_or ?_) | (with_reducible refine ss_bcl ?_) | (with_reducible refine ss_bcr ?_) | (with_reducible refine ss_cl ?_) | (with_reducible refine ss_cr ?_) | (first | ((with_reducible refine ss_biT ?_ ?_); (· first | (with_reducible assumption) | decide)) | ((with_reducible refine ss_biF ?_ ?_); (· first | (with_reducible assumption) | decide)) | ((with_reducible refine ss_iT ?_ ?_); (· first | (with_reducible assumption) | decide)) | ((with_reducible refine ss_iF ?_ ?_); (· first | (with_reducible assumption) | decide))) | ((with_reducible apply ss_pZ); (· first | (with_reducible assumption) | exact rfl); (· first | (with_reducible assumption) | exact Or.inl rfl | exact Or.inr rfl)) | ((with_reducible apply ss_dvL); (· first | (with_reducible assumption) | decide)) | ((with_reducible apply ss_rmL); (· first | (with_reducible assumption) | decide)) | ((with_reducible apply ss_rmI); (· first | (with_reducible assumption) | decide)) | ((with_reducible apply ss_rz1); (· first | (with_reducible assumption) | exact Or.inl rfl | exact Or.inr rfl))))
    exact hrs 13 19 rfl rfl
end
