/-! The first of the best WAYS: the model. -/
noncomputable def sp_B (L : Nat → Nat → Option Nat) (q : Nat) : Nat → Option Nat := fun s => sp_min (wy L q 7 s)
set_option maxRecDepth 20000 in
theorem zn_nx_congr {L : Nat → Nat → Option Nat} {B B' : Nat → Option Nat} {q s : Nat} (hs : s < 8) (hq : q < 8) (h : ∀ s, s < 8 → B s = B' s) : zn_nx L B q s = zn_nx L B' q s := by
  have hfd : ∀ k d, d + k ≤ zd s q + 1 → fd (fun d => okB L B s (sd s q d)) k d = fd (fun d => okB L B' s (sd s q d)) k d := by
    intro k
    induction k with
    | zero => intro d _; rfl
    | succ k ih =>
      intro d hd
      have e : okB L B s (sd s q d) = okB L B' s (sd s q d) := by
        unfold okB; rw [h _ (sd_lt hs hq (by omega)), h s hs]
      show (if okB L B s (sd s q d) = true then some d else fd _ k (d + 1)) = (if okB L B' s (sd s q d) = true then some d else fd _ k (d + 1))
      rw [e, ih (d + 1) (by omega)]
  unfold zn_nx
  rw [hfd (zd s q) 1 (by omega)]
set_option maxRecDepth 20000 in
theorem zc_congr {L : Nat → Nat → Option Nat} {B B' : Nat → Option Nat} {q : Nat} (hq : q < 8) (h : ∀ s, s < 8 → B s = B' s) : ∀ k s, s < 8 → zc L B q k s = zc L B' q k s
  | 0, s, hs => zn_nx_congr hs hq h
  | k + 1, s, hs => by
    unfold zc
    rw [zn_nx_congr hs hq h]
    cases hn : zn_nx L B' q s with
    | none => rfl
    | some s' => exact zc_congr hq h k s' (zn_nx_lt hs hq hn).1
set_option maxRecDepth 20000 in
theorem zd_pos {p q d e : Nat} (hde : d ≤ e) (he : e ≤ zd p q) : zd (sd p q d) q = zd p q - d ∧ sd (sd p q d) q (e - d) = sd p q e := by
  by_cases hlt : p ≤ q
  · have h1 : ∀ d, sd p q d = p + d := fun d => by unfold sd; rw [if_pos hlt]
    have h2 : zd p q = q - p := by unfold zd; rw [if_pos hlt]
    rw [h2] at he
    rw [h1, h1, h2]
    unfold zd sd
    rw [if_pos (by omega), if_pos (by omega)]; omega
  · have h1 : ∀ d, sd p q d = p - d := fun d => by unfold sd; rw [if_neg hlt]
    have h2 : zd p q = p - q := by unfold zd; rw [if_neg hlt]
    rw [h2] at he
    rw [h1, h1, h2]
    unfold zd sd
    by_cases e0 : p - d ≤ q
    · rw [if_pos e0, if_pos e0]; omega
    · rw [if_neg e0, if_neg e0]; omega
section
variable {t : List (Nat × Nat)} {I : Nat → Nat → Int32} {J : Nat → Nat → Int64} {D : Nat → Nat → Option Nat} {L : Nat → Nat → Option Nat} {stop : Nat → Bool} {p q m : Nat} {ln F : Nat → Nat}
set_option maxRecDepth 20000 in
theorem mx_nextOf (hp8 : p < 8) (hq8 : q < 8) (hd : zl_dir L stop p q) (h : zr_laid I L stop p q m ln F) {i : Nat} (hi : i < m - 1) (hF : F i < 100000000) : ∃ j, i < j ∧ j < m ∧ F j < 100000000 ∧ jx_Mo_nextOf (some 112) (Int32.ofNat i) (zp_Z t I J D) = some (Int32.ofNat j, zp_Z t I J D) ∧ zn_nx L (sp_B L q) q (ln i) = some (ln j) := by
  obtain ⟨hl, hok, e0, eq, hm2, hleg, hleft⟩ := h
  have hm8 := hl.2.1
  have h8 : ∀ j, j < m → ln j < 8 := fun j hj => (hl.2.2 j hj).2
  have hne : p ≠ q := fun e => by
    have := hok.2.1 0 (m - 1) (by omega) (by omega)
    rw [e0, eq, e] at this; omega
  have hB : ∀ j, j < m → sp_B L q (ln j) = dec (F j) := fun j hj => sp_min_eq (hleft j hj).2.2
  have hok' : ∀ j, i < j → j < m → ((enF (L (ln i) (ln j)) + Int32.ofNat (F j) = Int32.ofNat (F i)) ↔ okB L (sp_B L q) (ln i) (ln j) = true) := by
    intro j hij hj
    have hFj := (hleft j hj).2.1
    have hdi : dec (F i) = some (F i) := by unfold dec; rw [if_pos hF]
    unfold okB
    rw [hB j hj, hB i (by omega), hdi]
    cases hla : L (ln i) (ln j) with
    | none =>
      rw [show enF none + Int32.ofNat (F j) = Int32.ofNat (100000000 + F j) from zi_add 100000000 (F j), zi_eq (by omega) (by omega)]
      constructor
      · intro e; omega
      · intro e; cases e
    | some a =>
      have ha := (hd _ _ _ hla).1
      rw [show enF (some a) + Int32.ofNat (F j) = Int32.ofNat (a + F j) from zi_add a (F j), zi_eq (by omega) (by omega)]
      by_cases hfj : F j < 100000000
      · have : dec (F j) = some (F j) := by unfold dec; rw [if_pos hfj]
        rw [this]; exact (decide_eq_true_iff).symm
      · have : dec (F j) = none := by unfold dec; rw [if_neg hfj]
        rw [this]
        constructor
        · intro e; omega
        · intro e; cases e
  have hiq : ln i ≠ q := fun e => by
    have h1 := hok.2.1 i (m - 1) hi (by omega)
    rw [eq, e] at h1; omega
  have hex : ∃ j, i < j ∧ j < m ∧ okB L (sp_B L q) (ln i) (ln j) = true := by
    have hdi : dec (F i) = some (F i) := by unfold dec; rw [if_pos hF]
    have hmin := (hleft i (by omega)).2.2
    rw [hdi] at hmin
    obtain ⟨j, a, b, h1, h2, h3, h4, h5⟩ := (wy_line7 hd hne hok hq8 (by omega) h8 hiq (F i)).mpr (hmin.2 _ rfl)
    refine ⟨j, h1, h2, ?_⟩
    have hminj := (hleft j h2).2.2
    obtain ⟨b', e, hb'⟩ := hminj.1 b h4
    have hw := hminj.2 b' e
    obtain ⟨v, ev, hv⟩ := hmin.1 (a + b') ((wy_line7 hd hne hok hq8 (by omega) h8 hiq (a + b')).mp ⟨j, a, b', h1, h2, h3, hw, rfl⟩)
    cases ev
    unfold okB
    rw [h3, hB j h2, hB i (by omega), hdi, e]
    exact decide_eq_true (by omega)
  have hfin : (zp_wp (jx_Mo_nextOf (some 112) (Int32.ofNat i)) (fun r τ => ∃ j, r = Int32.ofNat j ∧ τ = zp_Z t I J D ∧ i < j ∧ j < m ∧ okB L (sp_B L q) (ln i) (ln j) = true ∧ ∀ j', i < j' → j' < j → ¬ okB L (sp_B L q) (ln i) (ln j') = true) (zp_Z t I J D)) → ∃ j, i < j ∧ j < m ∧ F j < 100000000 ∧ jx_Mo_nextOf (some 112) (Int32.ofNat i) (zp_Z t I J D) = some (Int32.ofNat j, zp_Z t I J D) ∧ zn_nx L (sp_B L q) q (ln i) = some (ln j) := by
    rintro ⟨r, τ, h1, j, rfl, rfl, hij, hj, hokj, hno⟩
    refine ⟨j, hij, hj, ?_, h1, ?_⟩
    · by_cases hfj : F j < 100000000
      · exact hfj
      · exfalso
        have : dec (F j) = none := by unfold dec; rw [if_neg hfj]
        unfold okB at hokj
        rw [hB j hj, this] at hokj
        cases hx : L (ln i) (ln j) <;> rw [hx] at hokj <;> cases hokj
    · obtain ⟨di, hdi, edi, -⟩ := hok.1 i (by omega)
      obtain ⟨dj, hdj, edj, -⟩ := hok.1 j hj
      have hlt := hok.2.1 i j hij hj
      have hzi : zd p (ln i) = di := by rw [edi, zd_sd (by omega)]
      have hzj : zd p (ln j) = dj := by rw [edj, zd_sd (by omega)]
      rw [hzi, hzj] at hlt
      have hzd := (zd_pos (p := p) (q := q) (d := di) (e := di) (Nat.le_refl _) (by omega)).1
      have hst : ∀ e, di ≤ e → e ≤ zd p q → sd (ln i) q (e - di) = sd p q e := fun e h1 h2 => by rw [edi]; exact (zd_pos h1 h2).2
      unfold zn_nx
      rw [if_neg hiq, edi, hzd, ← edi]
      have hsplit : zd p q - di = (dj - di - 1) + (zd p q - dj + 1) := by omega
      have hskip := fd_skip (fun d => okB L (sp_B L q) (ln i) (sd (ln i) q d)) (dj - di - 1) (zd p q - dj + 1) 1 (fun e h1 h2 => by
        show okB L (sp_B L q) (ln i) (sd (ln i) q e) = false
        have hse := hst (di + e) (by omega) (by omega)
        rw [Nat.add_sub_cancel_left] at hse
        rw [hse]
        cases hb : okB L (sp_B L q) (ln i) (sd p q (di + e)) with
        | false => rfl
        | true =>
          exfalso
          have hstop : stop (sd p q (di + e)) = true := by
            unfold okB at hb
            cases hx : L (ln i) (sd p q (di + e)) with
            | none => rw [hx] at hb; cases hb
            | some a => exact (hd _ _ _ hx).2.2.2.1
          obtain ⟨j', hj', ej'⟩ := hok.2.2.1 (di + e) (by omega) hstop
          have hzj' : zd p (ln j') = di + e := by rw [ej', zd_sd (by omega)]
          have hij' : i < j' := by
            rcases Nat.lt_or_ge i j' with h | h
            · exact h
            · rcases Nat.lt_or_ge j' i with h' | h'
              · have := hok.2.1 j' i h' (by omega); omega
              · have : i = j' := by omega
                rw [this] at hzi; omega
          have hj'j : j' < j := by
            rcases Nat.lt_or_ge j' j with h | h
            · exact h
            · rcases Nat.lt_or_ge j j' with h' | h'
              · have := hok.2.1 j j' h' hj'; omega
              · have : j' = j := by omega
                rw [this] at hzj'; omega
          exact hno j' hij' hj'j (by rw [ej']; exact hb))
      rw [hsplit, hskip, show 1 + (dj - di - 1) = dj - di by omega]
      have hsj : sd (ln i) q (dj - di) = ln j := by rw [hst dj (by omega) (by omega), edj]
      show Option.map (sd (ln i) q) (if okB L (sp_B L q) (ln i) (sd (ln i) q (dj - di)) = true then some (dj - di) else _) = some (ln j)
      rw [hsj, if_pos hokj]
      show some (sd (ln i) q (dj - di)) = _
      rw [hsj]
  refine hfin ?_
  unfold jx_Mo_nextOf
  (repeat (first | (with_reducible refine ss_ret ?_) | (with_reducible refine ss_bret ?_) | ((with_reducible apply ss_rc); (· first | (with_reducible assumption) | exact rfl)) | ((with_reducible apply ss_pt); (· first | (with_reducible assumption) | exact rfl); (· exact rfl)) | ((with_reducible apply ss_gR); (· first | (with_reducible assumption) | exact rfl); (· (with_reducible assumption))) | ((with_reducible apply ss_gI); (· first | (with_reducible assumption) | exact rfl); (· ((repeat (first | (with_reducible apply zr_e) | ((with_reducible apply zr_a); (· first | decide | omega)) | ((with_reducible apply zr_k); (· omega)) | (with_reducible apply zr_1e) | ((with_reducible apply zr_1a); (· first | decide | omega)))); (first | (with_reducible assumption) | exact rfl)))) | ((with_reducible apply ss_pI); (· first | (with_reducible assumption) | exact rfl)) | ((with_reducible apply ss_aI); (· first | (with_reducible assumption) | exact rfl); (· (repeat (first | (with_reducible assumption) | (with_reducible exact rfl) | (with_reducible apply zn_add) | (with_reducible apply zn_mul) | (with_reducible exact zi_lit2 _)))); (· first | omega | decide); (· decide); (· ((repeat (first | (with_reducible apply zr_e) | ((with_reducible apply zr_a); (· first | decide | omega)) | ((with_reducible apply zr_k); (· omega)) | (with_reducible apply zr_1e) | ((with_reducible apply zr_1a); (· first | decide | omega)))); (first | (with_reducible assumption) | exact rfl)))) | ((with_reducible apply ss_sI); (· first | (with_reducible assumption) | exact rfl); (· (repeat (first | (with_reducible assumption) | (with_reducible exact rfl) | (with_reducible apply zn_add) | (with_reducible apply zn_mul) | (with_reducible exact zi_lit2 _)))); (· first | omega | decide); (· decide)) | ((with_reducible apply ss_len); (· first | (with_reducible assumption) | exact rfl); (· decide)) | (with_reducible refine ss_as ?_) | (with_reducible refine ss_bor ?_) | (with_reducible refine ss_or ?_) | (with_reducible refine ss_bcl ?_) | (with_reducible refine ss_bcr ?_) | (with_reducible refine ss_cl ?_) | (with_reducible refine ss_cr ?_) | (first | ((with_reducible refine ss_biT ?_ ?_); (· first | (with_reducible assumption) | decide)) | ((with_reducible refine ss_biF ?_ ?_); (· first | (with_reducible assumption) | decide)) | ((with_reducible refine ss_iT ?_ ?_); (· first | (with_reducible assumption) | decide)) | ((with_reducible refine ss_iF ?_ ?_); (· first | (with_reducible assumption) | decide))) | ((with_reducible apply ss_pZ); (· first | (with_reducible assumption) | exact rfl); (· first | (with_reducible assumption) | exact Or.inl rfl | exact Or.inr rfl)) | ((with_reducible apply ss_dvL); (· first | (with_reducible assumption) | decide)) | ((with_reducible apply ss_rmL); (· first | (with_reducible assumption) | decide)) | ((with_reducible apply ss_rmI); (· first | (with_reducible assumption) | decide)) | ((with_reducible apply ss_rz1); (· first | (with_reducible assumption) | exact Or.inl rfl | exact Or.inr rfl))))
  rw [zi_s]
  refine zl_g (fun j (_ : Unit) => Int32.ofNat j) (i + 1) m (s0 := ()) rfl (by omega) (by omega) (fun x _ I2 => I2 = I ∧ ∀ j', i < j' → j' < x → ¬ okB L (sp_B L q) (ln i) (ln j') = true) ⟨rfl, fun j' h1 h2 => by omega⟩ ?_ ?_
  · rintro x - I2 hx1 hx ⟨rfl, hno⟩
    have hlg := hleg i x (by omega) hx
    obtain ⟨g1, g2, -⟩ := hleft x hx
    obtain ⟨k1, -, -⟩ := hleft i (by omega)
    have hpa : jx_Mo_pairAt (Int32.ofNat i) (Int32.ofNat x) = sf_ret (8 * Int32.ofNat i + Int32.ofNat x) := rfl
    by_cases hb : okB L (sp_B L q) (ln i) (ln x) = true
    · have hc := (hok' x (by omega) hx).mpr hb
      repeat (first | (first | (with_reducible refine ss_ret ?_) | (with_reducible refine ss_bret ?_) | ((with_reducible apply ss_rc); (· first | (with_reducible assumption) | exact rfl)) | ((with_reducible apply ss_pt); (· first | (with_reducible assumption) | exact rfl); (· exact rfl)) | ((with_reducible apply ss_gR); (· first | (with_reducible assumption) | exact rfl); (· (with_reducible assumption))) | ((with_reducible apply ss_gI); (· first | (with_reducible assumption) | exact rfl); (· ((repeat (first | (with_reducible apply zr_e) | ((with_reducible apply zr_a); (· first | decide | omega)) | ((with_reducible apply zr_k); (· omega)) | (with_reducible apply zr_1e) | ((with_reducible apply zr_1a); (· first | decide | omega)))); (first | (with_reducible assumption) | exact rfl)))) | ((with_reducible apply ss_pI); (· first | (with_reducible assumption) | exact rfl)) | ((with_reducible apply ss_aI); (· first | (with_reducible assumption) | exact rfl); (· (repeat (first | (with_reducible assumption) | (with_reducible exact rfl) | (with_reducible apply zn_add) | (with_reducible apply zn_mul) | (with_reducible exact zi_lit2 _)))); (· first | omega | decide); (· decide); (· ((repeat (first | (with_reducible apply zr_e) | ((with_reducible apply zr_a); (· first | decide | omega)) | ((with_reducible apply zr_k); (· omega)) | (with_reducible apply zr_1e) | ((with_reducible apply zr_1a); (· first | decide | omega)))); (first | (with_reducible assumption) | exact rfl)))) | ((with_reducible apply ss_sI); (· first | (with_reducible assumption) | exact rfl); (· (repeat (first | (with_reducible assumption) | (with_reducible exact rfl) | (with_reducible apply zn_add) | (with_reducible apply zn_mul) | (with_reducible exact zi_lit2 _)))); (· first | omega | decide); (· decide)) | ((with_reducible apply ss_len); (· first | (with_reducible assumption) | exact rfl); (· decide)) | (with_reducible refine ss_as ?_) | (with_reducible refine ss_bor ?_) | (with_reducible refine ss_or ?_) | (with_reducible refine ss_bcl ?_) | (with_reducible refine ss_bcr ?_) | (with_reducible refine ss_cl ?_) | (with_reducible refine ss_cr ?_) | (first | ((with_reducible refine ss_biT ?_ ?_); (· first | (with_reducible assumption) | decide)) | ((with_reducible refine ss_biF ?_ ?_); (· first | (with_reducible assumption) | decide)) | ((with_reducible refine ss_iT ?_ ?_); (· first | (with_reducible assumption) | decide)) | ((with_reducible refine ss_iF ?_ ?_); (· first | (with_reducible assumption) | decide))) | ((with_reducible apply ss_pZ); (· first | (with_reducible assumption) | exact rfl); (· first | (with_reducible assumption) | exact Or.inl rfl | exact Or.inr rfl)) | ((with_reducible apply ss_dvL); (· first | (with_reducible assumption) | decide)) | ((with_reducible apply ss_rmL); (· first | (with_reducible assumption) | decide)) | ((with_reducible apply ss_rmI); (· first | (with_reducible assumption) | decide)) | ((with_reducible apply ss_rz1); (· first | (with_reducible assumption) | exact Or.inl rfl | exact Or.inr rfl))) | (with_reducible refine ss_pure hpa ?_))
      refine Or.inr ⟨_, rfl, ?_⟩
      (repeat (first | (with_reducible refine ss_ret ?_) | (with_reducible refine ss_bret ?_) | ((with_reducible apply ss_rc); (· first | (with_reducible assumption) | exact rfl)) | ((with_reducible apply ss_pt); (· first | (with_reducible assumption) | exact rfl); (· exact rfl)) | ((with_reducible apply ss_gR); (· first | (with_reducible assumption) | exact rfl); (· (with_reducible assumption))) | ((with_reducible apply ss_gI); (· first | (with_reducible assumption) | exact rfl); (· ((repeat (first | (with_reducible apply zr_e) | ((with_reducible apply zr_a); (· first | decide | omega)) | ((with_reducible apply zr_k); (· omega)) | (with_reducible apply zr_1e) | ((with_reducible apply zr_1a); (· first | decide | omega)))); (first | (with_reducible assumption) | exact rfl)))) | ((with_reducible apply ss_pI); (· first | (with_reducible assumption) | exact rfl)) | ((with_reducible apply ss_aI); (· first | (with_reducible assumption) | exact rfl); (· (repeat (first | (with_reducible assumption) | (with_reducible exact rfl) | (with_reducible apply zn_add) | (with_reducible apply zn_mul) | (with_reducible exact zi_lit2 _)))); (· first | omega | decide); (· decide); (· ((repeat (first | (with_reducible apply zr_e) | ((with_reducible apply zr_a); (· first | decide | omega)) | ((with_reducible apply zr_k); (· omega)) | (with_reducible apply zr_1e) | ((with_reducible apply zr_1a); (· first | decide | omega)))); (first | (with_reducible assumption) | exact rfl)))) | ((with_reducible apply ss_sI); (· first | (with_reducible assumption) | exact rfl); (· (repeat (first | (with_reducible assumption) | (with_reducible exact rfl) | (with_reducible apply zn_add) | (with_reducible apply zn_mul) | (with_reducible exact zi_lit2 _)))); (· first | omega | decide); (· decide)) | ((with_reducible apply ss_len); (· first | (with_reducible assumption) | exact rfl); (· decide)) | (with_reducible refine ss_as ?_) | (with_reducible refine ss_bor ?_) | (with_reducible refine ss_or ?_) | (with_reducible refine ss_bcl ?_) | (with_reducible refine ss_bcr ?_) | (with_reducible refine ss_cl ?_) | (with_reducible refine ss_cr ?_) | (first | ((with_reducible refine ss_biT ?_ ?_); (· first | (with_reducible assumption) | decide)) | ((with_reducible refine ss_biF ?_ ?_); (· first | (with_reducible assumption) | decide)) | ((with_reducible refine ss_iT ?_ ?_); (· first | (with_reducible assumption) | decide)) | ((with_reducible refine ss_iF ?_ ?_); (· first | (with_reducible assumption) | decide))) | ((with_reducible apply ss_pZ); (· first | (with_reducible assumption) | exact rfl); (· first | (with_reducible assumption) | exact Or.inl rfl | exact Or.inr rfl)) | ((with_reducible apply ss_dvL); (· first | (with_reducible assumption) | decide)) | ((with_reducible apply ss_rmL); (· first | (with_reducible assumption) | decide)) | ((with_reducible apply ss_rmI); (· first | (with_reducible assumption) | decide)) | ((with_reducible apply ss_rz1); (· first | (with_reducible assumption) | exact Or.inl rfl | exact Or.inr rfl))))
      exact ⟨x, rfl, rfl, by omega, hx, hb, hno⟩
    · have hc : ¬ (enF (L (ln i) (ln x)) + Int32.ofNat (F x) = Int32.ofNat (F i)) := fun e => hb ((hok' x (by omega) hx).mp e)
      repeat (first | (first | (with_reducible refine ss_ret ?_) | (with_reducible refine ss_bret ?_) | ((with_reducible apply ss_rc); (· first | (with_reducible assumption) | exact rfl)) | ((with_reducible apply ss_pt); (· first | (with_reducible assumption) | exact rfl); (· exact rfl)) | ((with_reducible apply ss_gR); (· first | (with_reducible assumption) | exact rfl); (· (with_reducible assumption))) | ((with_reducible apply ss_gI); (· first | (with_reducible assumption) | exact rfl); (· ((repeat (first | (with_reducible apply zr_e) | ((with_reducible apply zr_a); (· first | decide | omega)) | ((with_reducible apply zr_k); (· omega)) | (with_reducible apply zr_1e) | ((with_reducible apply zr_1a); (· first | decide | omega)))); (first | (with_reducible assumption) | exact rfl)))) | ((with_reducible apply ss_pI); (· first | (with_reducible assumption) | exact rfl)) | ((with_reducible apply ss_aI); (· first | (with_reducible assumption) | exact rfl); (· (repeat (first | (with_reducible assumption) | (with_reducible exact rfl) | (with_reducible apply zn_add) | (with_reducible apply zn_mul) | (with_reducible exact zi_lit2 _)))); (· first | omega | decide); (· decide); (· ((repeat (first | (with_reducible apply zr_e) | ((with_reducible apply zr_a); (· first | decide | omega)) | ((with_reducible apply zr_k); (· omega)) | (with_reducible apply zr_1e) | ((with_reducible apply zr_1a); (· first | decide | omega)))); (first | (with_reducible assumption) | exact rfl)))) | ((with_reducible apply ss_sI); (· first | (with_reducible assumption) | exact rfl); (· (repeat (first | (with_reducible assumption) | (with_reducible exact rfl) | (with_reducible apply zn_add) | (with_reducible apply zn_mul) | (with_reducible exact zi_lit2 _)))); (· first | omega | decide); (· decide)) | ((with_reducible apply ss_len); (· first | (with_reducible assumption) | exact rfl); (· decide)) | (with_reducible refine ss_as ?_) | (with_reducible refine ss_bor ?_) | (with_reducible refine ss_or ?_) | (with_reducible refine ss_bcl ?_) | (with_reducible refine ss_bcr ?_) | (with_reducible refine ss_cl ?_) | (with_reducible refine ss_cr ?_) | (first | ((with_reducible refine ss_biT ?_ ?_); (· first | (with_reducible assumption) | decide)) | ((with_reducible refine ss_biF ?_ ?_); (· first | (with_reducible assumption) | decide)) | ((with_reducible refine ss_iT ?_ ?_); (· first | (with_reducible assumption) | decide)) | ((with_reducible refine ss_iF ?_ ?_); (· first | (with_reducible assumption) | decide))) | ((with_reducible apply ss_pZ); (· first | (with_reducible assumption) | exact rfl); (· first | (with_reducible assumption) | exact Or.inl rfl | exact Or.inr rfl)) | ((with_reducible apply ss_dvL); (· first | (with_reducible assumption) | decide)) | ((with_reducible apply ss_rmL); (· first | (with_reducible assumption) | decide)) | ((with_reducible apply ss_rmI); (· first | (with_reducible assumption) | decide)) | ((with_reducible apply ss_rz1); (· first | (with_reducible assumption) | exact Or.inl rfl | exact Or.inr rfl))) | (with_reducible refine ss_pure hpa ?_))
      refine Or.inl ⟨(), _, by rw [zi_s], rfl, rfl, fun j' h1 h2 => ?_⟩
      by_cases e : j' = x
      · rw [e]; exact hb
      · exact hno j' h1 (by omega)
  · rintro - I2 ⟨rfl, hno⟩
    exfalso
    obtain ⟨j, h1, h2, h3⟩ := hex
    exact hno j h1 h2 h3
set_option maxRecDepth 20000 in
theorem mx_endOf (hp8 : p < 8) (hq8 : q < 8) (hd : zl_dir L stop p q) (h : zr_laid I L stop p q m ln F) (hF : F 0 < 100000000) {i : Int32} (h0 : 0 ≤ i) : jx_Mo_endOf (some 112) i (zp_Z t I J D) = some (en (zc L (sp_B L q) q (sf_ix i) p), zp_Z t I J D) := by
  have h' := h
  obtain ⟨hl, hok, e0, eq, hm2, hleg, hleft⟩ := h
  have hm8 := hl.2.1
  have h30 := hl.1
  have hi2 : i.toInt.toNat < 2147483648 := by have := Int32.toInt_lt i; omega
  have hi : i = Int32.ofNat (sf_ix i) := by
    rw [← Int32.toInt_inj, show (Int32.ofNat (sf_ix i)).toInt = _ from zi_ofNat hi2]
    rw [Int32.le_iff_toInt_le] at h0
    simp only [Int32.reduceToInt] at h0
    show i.toInt = ((i.toInt.toNat : Nat) : Int)
    omega
  generalize hk : sf_ix i = k at hi
  have hk2 : k < 2147483648 := by rw [← hk]; exact hi2
  subst hi
  have hnq : ∀ j, j < m → j ≠ m - 1 → j < m - 1 := fun j h1 h2 => by omega
  apply zp_wp_eq
  unfold jx_Mo_endOf
  refine ss_or ?_
  refine zp_loop_b (fun f b σ => ∃ j n, f = m - j ∧ j < m ∧ n ≤ k + 1 ∧ n ≤ j ∧ b = (Int32.ofNat j, Int32.ofNat n) ∧ σ = zp_Z t I J D ∧ F j < 100000000 ∧ (n ≤ k → zc L (sp_B L q) q k p = zc L (sp_B L q) q (k - n) (ln j)) ∧ (n = k + 1 → zc L (sp_B L q) q k p = some (ln j))) m (by unfold sf_fuel; omega) ⟨0, 0, rfl, by omega, by omega, by omega, rfl, rfl, hF, fun _ => by rw [e0, Nat.sub_zero], fun h => by omega⟩ ?_
  rintro f b σ ⟨j, n, rfl, hj, hn, hnj, rfl, rfl, hFj, hz1, hz2⟩
  have hmm : Int32.ofNat m - 1 = Int32.ofNat (m - 1) := by rw [show m = m - 1 + 1 by omega, zi_p]; rfl
  obtain ⟨elj, hlj8⟩ := hl.2.2 j hj
  by_cases hkn : n = k + 1
  · have c1 : Int32.ofNat k < Int32.ofNat n := zi_ltL (by omega) (by omega)
    (repeat (first | (with_reducible refine ss_ret ?_) | (with_reducible refine ss_bret ?_) | ((with_reducible apply ss_rc); (· first | (with_reducible assumption) | exact rfl)) | ((with_reducible apply ss_pt); (· first | (with_reducible assumption) | exact rfl); (· exact rfl)) | ((with_reducible apply ss_gR); (· first | (with_reducible assumption) | exact rfl); (· (with_reducible assumption))) | ((with_reducible apply ss_gI); (· first | (with_reducible assumption) | exact rfl); (· ((repeat (first | (with_reducible apply zr_e) | ((with_reducible apply zr_a); (· first | decide | omega)) | ((with_reducible apply zr_k); (· omega)) | (with_reducible apply zr_1e) | ((with_reducible apply zr_1a); (· first | decide | omega)))); (first | (with_reducible assumption) | exact rfl)))) | ((with_reducible apply ss_pI); (· first | (with_reducible assumption) | exact rfl)) | ((with_reducible apply ss_aI); (· first | (with_reducible assumption) | exact rfl); (· (repeat (first | (with_reducible assumption) | (with_reducible exact rfl) | (with_reducible apply zn_add) | (with_reducible apply zn_mul) | (with_reducible exact zi_lit2 _)))); (· first | omega | decide); (· decide); (· ((repeat (first | (with_reducible apply zr_e) | ((with_reducible apply zr_a); (· first | decide | omega)) | ((with_reducible apply zr_k); (· omega)) | (with_reducible apply zr_1e) | ((with_reducible apply zr_1a); (· first | decide | omega)))); (first | (with_reducible assumption) | exact rfl)))) | ((with_reducible apply ss_sI); (· first | (with_reducible assumption) | exact rfl); (· (repeat (first | (with_reducible assumption) | (with_reducible exact rfl) | (with_reducible apply zn_add) | (with_reducible apply zn_mul) | (with_reducible exact zi_lit2 _)))); (· first | omega | decide); (· decide)) | ((with_reducible apply ss_len); (· first | (with_reducible assumption) | exact rfl); (· decide)) | (with_reducible refine ss_as ?_) | (with_reducible refine ss_bor ?_) | (with_reducible refine ss_or ?_) | (with_reducible refine ss_bcl ?_) | (with_reducible refine ss_bcr ?_) | (with_reducible refine ss_cl ?_) | (with_reducible refine ss_cr ?_) | (first | ((with_reducible refine ss_biT ?_ ?_); (· first | (with_reducible assumption) | decide)) | ((with_reducible refine ss_biF ?_ ?_); (· first | (with_reducible assumption) | decide)) | ((with_reducible refine ss_iT ?_ ?_); (· first | (with_reducible assumption) | decide)) | ((with_reducible refine ss_iF ?_ ?_); (· first | (with_reducible assumption) | decide))) | ((with_reducible apply ss_pZ); (· first | (with_reducible assumption) | exact rfl); (· first | (with_reducible assumption) | exact Or.inl rfl | exact Or.inr rfl)) | ((with_reducible apply ss_dvL); (· first | (with_reducible assumption) | decide)) | ((with_reducible apply ss_rmL); (· first | (with_reducible assumption) | decide)) | ((with_reducible apply ss_rmI); (· first | (with_reducible assumption) | decide)) | ((with_reducible apply ss_rz1); (· first | (with_reducible assumption) | exact Or.inl rfl | exact Or.inr rfl))))
    exact ⟨by rw [hz2 hkn]; rfl, rfl⟩
  · have c1 : ¬ Int32.ofNat k < Int32.ofNat n := zi_nlt (by omega) (by omega)
    have hz := hz1 (by omega)
    by_cases hjm : j = m - 1
    · have c2 : Int32.ofNat j = Int32.ofNat m - 1 := by rw [hmm, hjm]
      (repeat (first | (with_reducible refine ss_ret ?_) | (with_reducible refine ss_bret ?_) | ((with_reducible apply ss_rc); (· first | (with_reducible assumption) | exact rfl)) | ((with_reducible apply ss_pt); (· first | (with_reducible assumption) | exact rfl); (· exact rfl)) | ((with_reducible apply ss_gR); (· first | (with_reducible assumption) | exact rfl); (· (with_reducible assumption))) | ((with_reducible apply ss_gI); (· first | (with_reducible assumption) | exact rfl); (· ((repeat (first | (with_reducible apply zr_e) | ((with_reducible apply zr_a); (· first | decide | omega)) | ((with_reducible apply zr_k); (· omega)) | (with_reducible apply zr_1e) | ((with_reducible apply zr_1a); (· first | decide | omega)))); (first | (with_reducible assumption) | exact rfl)))) | ((with_reducible apply ss_pI); (· first | (with_reducible assumption) | exact rfl)) | ((with_reducible apply ss_aI); (· first | (with_reducible assumption) | exact rfl); (· (repeat (first | (with_reducible assumption) | (with_reducible exact rfl) | (with_reducible apply zn_add) | (with_reducible apply zn_mul) | (with_reducible exact zi_lit2 _)))); (· first | omega | decide); (· decide); (· ((repeat (first | (with_reducible apply zr_e) | ((with_reducible apply zr_a); (· first | decide | omega)) | ((with_reducible apply zr_k); (· omega)) | (with_reducible apply zr_1e) | ((with_reducible apply zr_1a); (· first | decide | omega)))); (first | (with_reducible assumption) | exact rfl)))) | ((with_reducible apply ss_sI); (· first | (with_reducible assumption) | exact rfl); (· (repeat (first | (with_reducible assumption) | (with_reducible exact rfl) | (with_reducible apply zn_add) | (with_reducible apply zn_mul) | (with_reducible exact zi_lit2 _)))); (· first | omega | decide); (· decide)) | ((with_reducible apply ss_len); (· first | (with_reducible assumption) | exact rfl); (· decide)) | (with_reducible refine ss_as ?_) | (with_reducible refine ss_bor ?_) | (with_reducible refine ss_or ?_) | (with_reducible refine ss_bcl ?_) | (with_reducible refine ss_bcr ?_) | (with_reducible refine ss_cl ?_) | (with_reducible refine ss_cr ?_) | (first | ((with_reducible refine ss_biT ?_ ?_); (· first | (with_reducible assumption) | decide)) | ((with_reducible refine ss_biF ?_ ?_); (· first | (with_reducible assumption) | decide)) | ((with_reducible refine ss_iT ?_ ?_); (· first | (with_reducible assumption) | decide)) | ((with_reducible refine ss_iF ?_ ?_); (· first | (with_reducible assumption) | decide))) | ((with_reducible apply ss_pZ); (· first | (with_reducible assumption) | exact rfl); (· first | (with_reducible assumption) | exact Or.inl rfl | exact Or.inr rfl)) | ((with_reducible apply ss_dvL); (· first | (with_reducible assumption) | decide)) | ((with_reducible apply ss_rmL); (· first | (with_reducible assumption) | decide)) | ((with_reducible apply ss_rmI); (· first | (with_reducible assumption) | decide)) | ((with_reducible apply ss_rz1); (· first | (with_reducible assumption) | exact Or.inl rfl | exact Or.inr rfl))))
      refine ⟨?_, rfl⟩
      rw [hz, hjm, eq, zc_none hq8 (k - n) q hq8 (by unfold zd; rw [if_pos (Nat.le_refl _)]; omega)]; rfl
    · have c2 : ¬ Int32.ofNat j = Int32.ofNat m - 1 := by rw [hmm]; exact zi_ne hjm (by omega) (by omega)
      obtain ⟨j', h1, h2, h3, h4, h5⟩ := mx_nextOf (t := t) (J := J) (D := D) hp8 hq8 hd h' (hnq j hj hjm) hFj
      repeat (first | (first | (with_reducible refine ss_ret ?_) | (with_reducible refine ss_bret ?_) | ((with_reducible apply ss_rc); (· first | (with_reducible assumption) | exact rfl)) | ((with_reducible apply ss_pt); (· first | (with_reducible assumption) | exact rfl); (· exact rfl)) | ((with_reducible apply ss_gR); (· first | (with_reducible assumption) | exact rfl); (· (with_reducible assumption))) | ((with_reducible apply ss_gI); (· first | (with_reducible assumption) | exact rfl); (· ((repeat (first | (with_reducible apply zr_e) | ((with_reducible apply zr_a); (· first | decide | omega)) | ((with_reducible apply zr_k); (· omega)) | (with_reducible apply zr_1e) | ((with_reducible apply zr_1a); (· first | decide | omega)))); (first | (with_reducible assumption) | exact rfl)))) | ((with_reducible apply ss_pI); (· first | (with_reducible assumption) | exact rfl)) | ((with_reducible apply ss_aI); (· first | (with_reducible assumption) | exact rfl); (· (repeat (first | (with_reducible assumption) | (with_reducible exact rfl) | (with_reducible apply zn_add) | (with_reducible apply zn_mul) | (with_reducible exact zi_lit2 _)))); (· first | omega | decide); (· decide); (· ((repeat (first | (with_reducible apply zr_e) | ((with_reducible apply zr_a); (· first | decide | omega)) | ((with_reducible apply zr_k); (· omega)) | (with_reducible apply zr_1e) | ((with_reducible apply zr_1a); (· first | decide | omega)))); (first | (with_reducible assumption) | exact rfl)))) | ((with_reducible apply ss_sI); (· first | (with_reducible assumption) | exact rfl); (· (repeat (first | (with_reducible assumption) | (with_reducible exact rfl) | (with_reducible apply zn_add) | (with_reducible apply zn_mul) | (with_reducible exact zi_lit2 _)))); (· first | omega | decide); (· decide)) | ((with_reducible apply ss_len); (· first | (with_reducible assumption) | exact rfl); (· decide)) | (with_reducible refine ss_as ?_) | (with_reducible refine ss_bor ?_) | (with_reducible refine ss_or ?_) | (with_reducible refine ss_bcl ?_) | (with_reducible refine ss_bcr ?_) | (with_reducible refine ss_cl ?_) | (with_reducible refine ss_cr ?_) | (first | ((with_reducible refine ss_biT ?_ ?_); (· first | (with_reducible assumption) | decide)) | ((with_reducible refine ss_biF ?_ ?_); (· first | (with_reducible assumption) | decide)) | ((with_reducible refine ss_iT ?_ ?_); (· first | (with_reducible assumption) | decide)) | ((with_reducible refine ss_iF ?_ ?_); (· first | (with_reducible assumption) | decide))) | ((with_reducible apply ss_pZ); (· first | (with_reducible assumption) | exact rfl); (· first | (with_reducible assumption) | exact Or.inl rfl | exact Or.inr rfl)) | ((with_reducible apply ss_dvL); (· first | (with_reducible assumption) | decide)) | ((with_reducible apply ss_rmL); (· first | (with_reducible assumption) | decide)) | ((with_reducible apply ss_rmI); (· first | (with_reducible assumption) | decide)) | ((with_reducible apply ss_rz1); (· first | (with_reducible assumption) | exact Or.inl rfl | exact Or.inr rfl))) | (with_reducible refine ss_call h4 ?_))
      refine ⟨m - j', by omega, j', n + 1, rfl, h2, by omega, by omega, by rw [zi_s], rfl, h3, fun hle => ?_, fun he => ?_⟩
      · rw [hz, show k - n = (k - (n + 1)) + 1 by omega]
        show (zn_nx L (sp_B L q) q (ln j)).bind _ = _
        rw [h5]; rfl
      · rw [hz, show k - n = 0 by omega]
        exact h5
end
