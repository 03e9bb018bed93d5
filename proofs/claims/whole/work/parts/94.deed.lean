/-! Deeds: what a call leaves. -/
/-- the row K with one cell set -/
def kS (K : Nat → Int32) (k : Nat) (v : Int32) : Nat → Int32 := fun i => if i = k then v else K i
set_option maxRecDepth 20000 in
theorem kS_e {K : Nat → Int32} {k : Nat} {v : Int32} : kS K k v k = v := if_pos rfl
set_option maxRecDepth 20000 in
theorem kS_n {K : Nat → Int32} {k i : Nat} {v : Int32} (h : i ≠ k) : kS K k v i = K i := if_neg h
set_option maxRecDepth 20000 in
theorem kS_u {I : Nat → Nat → Int32} {a k : Nat} {v : Int32} {K : Nat → Int32} (h : I a = K) : sf_u2 I a k v a = kS K k v := by
  funext i; unfold kS
  by_cases e : i = k
  · rw [if_pos e, e, zu_eq]
  · rw [if_neg e, zu_k e, h]
section
variable {K K' : Nat → Int32} {n : Nat} {o : Bool}
set_option maxRecDepth 20000 in
theorem kz_w (h : ∀ k, 231 ≤ k → K' k = K k) : kz K' n = kz K n := by unfold kz; rw [h _ (by omega)]
set_option maxRecDepth 20000 in
theorem kc_w (h : ∀ k, 231 ≤ k → K' k = K k) : kc K' n = kc K n := by funext k; unfold kc; rw [kz_w h, h _ (by omega)]
set_option maxRecDepth 20000 in
theorem kv_w (h : ∀ k, 231 ≤ k → K' k = K k) : kv K' n = kv K n := by funext k; unfold kv; rw [kz_w h, h _ (by omega)]
set_option maxRecDepth 20000 in
theorem ks_w (h : ∀ k, 231 ≤ k → K' k = K k) : ks K' n o = ks K n o := by unfold ks; rw [kc_w h, kv_w h, kz_w h]
set_option maxRecDepth 20000 in
theorem zr_txt_w (h : ∀ k, 231 ≤ k → K' k = K k) (ht : zr_txt K n o) : zr_txt K' n o := by
  unfold zr_txt at *; rw [ks_w h, kc_w h, kv_w h, kz_w h, h _ (by omega)]; exact ht
set_option maxRecDepth 20000 in
theorem zr_cl_w {t : List (Nat × Nat)} {I I' : Nat → Nat → Int32} {D : Nat → Nat → Option Nat} (h : zr_cl t I D K) (hk : ∀ k, 231 ≤ k → K' k = K k) (h9 : K' 229 = K 229) (hf : ∀ a, 138 < a → I' a = I a) (hO : zr_off I' 2 K') (hv : zv K') : zr_cl t I' D K' := by
  refine ⟨hO, hv, fun n hn => ?_⟩
  rw [h9] at hn
  obtain ⟨p, h1, h2, h3, h4, h5⟩ := h.2.2 n hn
  refine ⟨p, h1, zr_law_fr hf ⟨h2, h3, zr_txt_w hk h4, ?_⟩⟩
  rw [ks_w hk]; exact h5
set_option maxRecDepth 20000 in
theorem zr_ml_w (h : zr_ml K) (hk : ∀ k, 231 ≤ k → K' k = K k) (h9 : K' 229 = K 229) (hv : zv K') : zr_ml K' := ⟨hv, fun n hn => zr_txt_w hk (h.2 n (by rw [h9] at hn; exact hn))⟩
end
/-- how a call was answered: kept in the cells (o, f), and counted in c -/
def an_at (o f c : Nat) (I I' : Nat → Nat → Int32) (r : Int32) : Prop := (0 ≤ r → I' o f = 0 ∧ ∀ k, k < 7 → I' c k = I c k) ∧ ∀ j, 0 < j → j < 7 → r = -Int32.ofNat j → I' o f = r ∧ ∀ k, k < 7 → I' c k = if k = j then I c k + 1 else I c k
def ar_ok (r : Int32) : Prop := 0 ≤ r ∨ ∃ j, 0 < j ∧ j < 7 ∧ r = -Int32.ofNat j
section
variable {t : List (Nat × Nat)} {I : Nat → Nat → Int32} {J : Nat → Nat → Int64} {D : Nat → Nat → Option Nat} {K : Nat → Int32}
set_option maxRecDepth 20000 in
theorem cx_accepted (v : Int32) : jx_SF_accepted (some 0) v (zp_Z t I J D) = some (v, zp_Z t (sf_u2 I 0 12 0) J D) := by
  refine zp_wp_eq ?_
  unfold jx_SF_accepted
  (repeat (first | (with_reducible refine ss_ret ?_) | (with_reducible refine ss_bret ?_) | ((with_reducible apply ss_rc); (· first | (with_reducible assumption) | exact rfl)) | ((with_reducible apply ss_pt); (· first | (with_reducible assumption) | exact rfl); (· exact rfl)) | ((with_reducible apply ss_gR); (· first | (with_reducible assumption) | exact rfl); (· (with_reducible assumption))) | ((with_reducible apply ss_gI); (· first | (with_reducible assumption) | exact rfl); (· ((repeat (first | (with_reducible apply zr_e) | ((with_reducible apply zr_a); (· first | decide | omega)) | ((with_reducible apply zr_k); (· omega)) | (with_reducible apply zr_1e) | ((with_reducible apply zr_1a); (· first | decide | omega)))); (first | (with_reducible assumption) | exact rfl)))) | ((with_reducible apply ss_pI); (· first | (with_reducible assumption) | exact rfl)) | ((with_reducible apply ss_aI); (· first | (with_reducible assumption) | exact rfl); (· (repeat (first | (with_reducible assumption) | (with_reducible exact rfl) | (with_reducible apply zn_add) | (with_reducible apply zn_mul) | (with_reducible exact zi_lit2 _)))); (· first | omega | decide); (· decide); (· ((repeat (first | (with_reducible apply zr_e) | ((with_reducible apply zr_a); (· first | decide | omega)) | ((with_reducible apply zr_k); (· omega)) | (with_reducible apply zr_1e) | ((with_reducible apply zr_1a); (· first | decide | omega)))); (first | (with_reducible assumption) | exact rfl)))) | ((with_reducible apply ss_sI); (· first | (with_reducible assumption) | exact rfl); (· (repeat (first | (with_reducible assumption) | (with_reducible exact rfl) | (with_reducible apply zn_add) | (with_reducible apply zn_mul) | (with_reducible exact zi_lit2 _)))); (· first | omega | decide); (· decide)) | ((with_reducible apply ss_len); (· first | (with_reducible assumption) | exact rfl); (· decide)) | (with_reducible refine ss_as ?_) | (with_reducible refine ss_bor ?_) | (with_reducible refine ss_or ?_) | (with_reducible refine ss_bcl ?_) | (with_reducible refine ss_bcr ?_) | (with_reducible refine ss_cl ?_) | (with_reducible refine ss_cr ?_) | (first | ((with_reducible refine ss_biT ?_ ?_); (· first | (with_reducible assumption) | decide)) | ((with_reducible refine ss_biF ?_ ?_); (· first | (with_reducible assumption) | decide)) | ((with_reducible refine ss_iT ?_ ?_); (· first | (with_reducible assumption) | decide)) | ((with_reducible refine ss_iF ?_ ?_); (· first | (with_reducible assumption) | decide))) | ((with_reducible apply ss_pZ); (· first | (with_reducible assumption) | exact rfl); (· first | (with_reducible assumption) | exact Or.inl rfl | exact Or.inr rfl)) | ((with_reducible apply ss_dvL); (· first | (with_reducible assumption) | decide)) | ((with_reducible apply ss_rmL); (· first | (with_reducible assumption) | decide)) | ((with_reducible apply ss_rmI); (· first | (with_reducible assumption) | decide)) | ((with_reducible apply ss_rz1); (· first | (with_reducible assumption) | exact Or.inl rfl | exact Or.inr rfl))))
  exact ⟨rfl, rfl⟩
set_option maxRecDepth 20000 in
theorem mx_good (v : Int32) : jx_Mo_good (some 112) v (zp_Z t I J D) = some (v, zp_Z t (sf_u2 I 112 0 0) J D) := by
  refine zp_wp_eq ?_
  unfold jx_Mo_good
  (repeat (first | (with_reducible refine ss_ret ?_) | (with_reducible refine ss_bret ?_) | ((with_reducible apply ss_rc); (· first | (with_reducible assumption) | exact rfl)) | ((with_reducible apply ss_pt); (· first | (with_reducible assumption) | exact rfl); (· exact rfl)) | ((with_reducible apply ss_gR); (· first | (with_reducible assumption) | exact rfl); (· (with_reducible assumption))) | ((with_reducible apply ss_gI); (· first | (with_reducible assumption) | exact rfl); (· ((repeat (first | (with_reducible apply zr_e) | ((with_reducible apply zr_a); (· first | decide | omega)) | ((with_reducible apply zr_k); (· omega)) | (with_reducible apply zr_1e) | ((with_reducible apply zr_1a); (· first | decide | omega)))); (first | (with_reducible assumption) | exact rfl)))) | ((with_reducible apply ss_pI); (· first | (with_reducible assumption) | exact rfl)) | ((with_reducible apply ss_aI); (· first | (with_reducible assumption) | exact rfl); (· (repeat (first | (with_reducible assumption) | (with_reducible exact rfl) | (with_reducible apply zn_add) | (with_reducible apply zn_mul) | (with_reducible exact zi_lit2 _)))); (· first | omega | decide); (· decide); (· ((repeat (first | (with_reducible apply zr_e) | ((with_reducible apply zr_a); (· first | decide | omega)) | ((with_reducible apply zr_k); (· omega)) | (with_reducible apply zr_1e) | ((with_reducible apply zr_1a); (· first | decide | omega)))); (first | (with_reducible assumption) | exact rfl)))) | ((with_reducible apply ss_sI); (· first | (with_reducible assumption) | exact rfl); (· (repeat (first | (with_reducible assumption) | (with_reducible exact rfl) | (with_reducible apply zn_add) | (with_reducible apply zn_mul) | (with_reducible exact zi_lit2 _)))); (· first | omega | decide); (· decide)) | ((with_reducible apply ss_len); (· first | (with_reducible assumption) | exact rfl); (· decide)) | (with_reducible refine ss_as ?_) | (with_reducible refine ss_bor ?_) | (with_reducible refine ss_or ?_) | (with_reducible refine ss_bcl ?_) | (with_reducible refine ss_bcr ?_) | (with_reducible refine ss_cl ?_) | (with_reducible refine ss_cr ?_) | (first | ((with_reducible refine ss_biT ?_ ?_); (· first | (with_reducible assumption) | decide)) | ((with_reducible refine ss_biF ?_ ?_); (· first | (with_reducible assumption) | decide)) | ((with_reducible refine ss_iT ?_ ?_); (· first | (with_reducible assumption) | decide)) | ((with_reducible refine ss_iF ?_ ?_); (· first | (with_reducible assumption) | decide))) | ((with_reducible apply ss_pZ); (· first | (with_reducible assumption) | exact rfl); (· first | (with_reducible assumption) | exact Or.inl rfl | exact Or.inr rfl)) | ((with_reducible apply ss_dvL); (· first | (with_reducible assumption) | decide)) | ((with_reducible apply ss_rmL); (· first | (with_reducible assumption) | decide)) | ((with_reducible apply ss_rmI); (· first | (with_reducible assumption) | decide)) | ((with_reducible apply ss_rz1); (· first | (with_reducible assumption) | exact Or.inl rfl | exact Or.inr rfl))))
  exact ⟨rfl, rfl⟩
set_option maxRecDepth 20000 in
theorem zi_ngL {j : Nat} (h : 0 < j) (hj : j < 2147483648) : ¬ (0 : Int32) ≤ -Int32.ofNat j := by
  intro h'
  have e : (Int32.ofNat j).toInt = j := by rw [Int32.toInt_ofNat_of_lt (by omega)]
  rw [Int32.le_iff_toInt_le, Int32.toInt_neg, e] at h'
  have : (0 : Int32).toInt = 0 := rfl
  have hb : (-(j : Int)).bmod (2 ^ 32) = -(j : Int) := by
    rw [Int.bmod_eq_of_le (by omega) (by omega)]
  rw [hb] at h'; omega
set_option maxRecDepth 20000 in
theorem cx_refused {j : Nat} (h0 : 0 < j) (hj : j < 7) : jx_SF_refused (some 0) (-Int32.ofNat j) (zp_Z t I J D) = some (-Int32.ofNat j, zp_Z t (sf_u2 (sf_u2 I 0 12 (-Int32.ofNat j)) 108 j (I 108 j + 1)) J D) := by
  have h1 : ¬ (0 : Int32) ≤ -Int32.ofNat j := zi_ngL h0 (by omega)
  have h2 : ¬ (-Int32.ofNat j) ≤ -(Int32.ofNat 7) := by
    have : ∀ j, j < 7 → ¬ (-Int32.ofNat j) ≤ -(Int32.ofNat 7) := by decide
    exact this j hj
  have h3 : -(-Int32.ofNat j) = Int32.ofNat j := Int32.neg_neg
  refine zp_wp_eq ?_
  unfold jx_SF_refused
  rw [h3]
  have hx : sf_u2 I 0 12 (-Int32.ofNat j) 108 j = I 108 j := zu_a (by decide)
  (repeat (first | (with_reducible refine ss_ret ?_) | (with_reducible refine ss_bret ?_) | ((with_reducible apply ss_rc); (· first | (with_reducible assumption) | exact rfl)) | ((with_reducible apply ss_pt); (· first | (with_reducible assumption) | exact rfl); (· exact rfl)) | ((with_reducible apply ss_gR); (· first | (with_reducible assumption) | exact rfl); (· (with_reducible assumption))) | ((with_reducible apply ss_gI); (· first | (with_reducible assumption) | exact rfl); (· ((repeat (first | (with_reducible apply zr_e) | ((with_reducible apply zr_a); (· first | decide | omega)) | ((with_reducible apply zr_k); (· omega)) | (with_reducible apply zr_1e) | ((with_reducible apply zr_1a); (· first | decide | omega)))); (first | (with_reducible assumption) | exact rfl)))) | ((with_reducible apply ss_pI); (· first | (with_reducible assumption) | exact rfl)) | ((with_reducible apply ss_aI); (· first | (with_reducible assumption) | exact rfl); (· (repeat (first | (with_reducible assumption) | (with_reducible exact rfl) | (with_reducible apply zn_add) | (with_reducible apply zn_mul) | (with_reducible exact zi_lit2 _)))); (· first | omega | decide); (· decide); (· ((repeat (first | (with_reducible apply zr_e) | ((with_reducible apply zr_a); (· first | decide | omega)) | ((with_reducible apply zr_k); (· omega)) | (with_reducible apply zr_1e) | ((with_reducible apply zr_1a); (· first | decide | omega)))); (first | (with_reducible assumption) | exact rfl)))) | ((with_reducible apply ss_sI); (· first | (with_reducible assumption) | exact rfl); (· (repeat (first | (with_reducible assumption) | (with_reducible exact rfl) | (with_reducible apply zn_add) | (with_reducible apply zn_mul) | (with_reducible exact zi_lit2 _)))); (· first | omega | decide); (· decide)) | ((with_reducible apply ss_len); (· first | (with_reducible assumption) | exact rfl); (· decide)) | (with_reducible refine ss_as ?_) | (with_reducible refine ss_bor ?_) | (with_reducible refine ss_or ?_) | (with_reducible refine ss_bcl ?_) | (with_reducible refine ss_bcr ?_) | (with_reducible refine ss_cl ?_) | (with_reducible refine ss_cr ?_) | (first | ((with_reducible refine ss_biT ?_ ?_); (· first | (with_reducible assumption) | decide)) | ((with_reducible refine ss_biF ?_ ?_); (· first | (with_reducible assumption) | decide)) | ((with_reducible refine ss_iT ?_ ?_); (· first | (with_reducible assumption) | decide)) | ((with_reducible refine ss_iF ?_ ?_); (· first | (with_reducible assumption) | decide))) | ((with_reducible apply ss_pZ); (· first | (with_reducible assumption) | exact rfl); (· first | (with_reducible assumption) | exact Or.inl rfl | exact Or.inr rfl)) | ((with_reducible apply ss_dvL); (· first | (with_reducible assumption) | decide)) | ((with_reducible apply ss_rmL); (· first | (with_reducible assumption) | decide)) | ((with_reducible apply ss_rmI); (· first | (with_reducible assumption) | decide)) | ((with_reducible apply ss_rz1); (· first | (with_reducible assumption) | exact Or.inl rfl | exact Or.inr rfl))))
  exact ⟨rfl, rfl⟩
set_option maxRecDepth 20000 in
theorem mx_refuses {j : Nat} (h0 : 0 < j) (hj : j < 7) : jx_Mo_refuses (some 112) (-Int32.ofNat j) (zp_Z t I J D) = some (-Int32.ofNat j, zp_Z t (sf_u2 (sf_u2 I 112 0 (-Int32.ofNat j)) 113 j (I 113 j + 1)) J D) := by
  have h3 : -(-Int32.ofNat j) = Int32.ofNat j := Int32.neg_neg
  refine zp_wp_eq ?_
  unfold jx_Mo_refuses
  rw [h3]
  have hx : sf_u2 I 112 0 (-Int32.ofNat j) 113 j = I 113 j := zu_a (by decide)
  (repeat (first | (with_reducible refine ss_ret ?_) | (with_reducible refine ss_bret ?_) | ((with_reducible apply ss_rc); (· first | (with_reducible assumption) | exact rfl)) | ((with_reducible apply ss_pt); (· first | (with_reducible assumption) | exact rfl); (· exact rfl)) | ((with_reducible apply ss_gR); (· first | (with_reducible assumption) | exact rfl); (· (with_reducible assumption))) | ((with_reducible apply ss_gI); (· first | (with_reducible assumption) | exact rfl); (· ((repeat (first | (with_reducible apply zr_e) | ((with_reducible apply zr_a); (· first | decide | omega)) | ((with_reducible apply zr_k); (· omega)) | (with_reducible apply zr_1e) | ((with_reducible apply zr_1a); (· first | decide | omega)))); (first | (with_reducible assumption) | exact rfl)))) | ((with_reducible apply ss_pI); (· first | (with_reducible assumption) | exact rfl)) | ((with_reducible apply ss_aI); (· first | (with_reducible assumption) | exact rfl); (· (repeat (first | (with_reducible assumption) | (with_reducible exact rfl) | (with_reducible apply zn_add) | (with_reducible apply zn_mul) | (with_reducible exact zi_lit2 _)))); (· first | omega | decide); (· decide); (· ((repeat (first | (with_reducible apply zr_e) | ((with_reducible apply zr_a); (· first | decide | omega)) | ((with_reducible apply zr_k); (· omega)) | (with_reducible apply zr_1e) | ((with_reducible apply zr_1a); (· first | decide | omega)))); (first | (with_reducible assumption) | exact rfl)))) | ((with_reducible apply ss_sI); (· first | (with_reducible assumption) | exact rfl); (· (repeat (first | (with_reducible assumption) | (with_reducible exact rfl) | (with_reducible apply zn_add) | (with_reducible apply zn_mul) | (with_reducible exact zi_lit2 _)))); (· first | omega | decide); (· decide)) | ((with_reducible apply ss_len); (· first | (with_reducible assumption) | exact rfl); (· decide)) | (with_reducible refine ss_as ?_) | (with_reducible refine ss_bor ?_) | (with_reducible refine ss_or ?_) | (with_reducible refine ss_bcl ?_) | (with_reducible refine ss_bcr ?_) | (with_reducible refine ss_cl ?_) | (with_reducible refine ss_cr ?_) | (first | ((with_reducible refine ss_biT ?_ ?_); (· first | (with_reducible assumption) | decide)) | ((with_reducible refine ss_biF ?_ ?_); (· first | (with_reducible assumption) | decide)) | ((with_reducible refine ss_iT ?_ ?_); (· first | (with_reducible assumption) | decide)) | ((with_reducible refine ss_iF ?_ ?_); (· first | (with_reducible assumption) | decide))) | ((with_reducible apply ss_pZ); (· first | (with_reducible assumption) | exact rfl); (· first | (with_reducible assumption) | exact Or.inl rfl | exact Or.inr rfl)) | ((with_reducible apply ss_dvL); (· first | (with_reducible assumption) | decide)) | ((with_reducible apply ss_rmL); (· first | (with_reducible assumption) | decide)) | ((with_reducible apply ss_rmI); (· first | (with_reducible assumption) | decide)) | ((with_reducible apply ss_rz1); (· first | (with_reducible assumption) | exact Or.inl rfl | exact Or.inr rfl))))
  exact ⟨rfl, rfl⟩
set_option maxRecDepth 20000 in
theorem an_acc (o f c : Nat) (hoc : c ≠ o) {r : Int32} (hr : 0 ≤ r) : an_at o f c I (sf_u2 I o f 0) r := ⟨fun _ => ⟨zu_eq, fun k _ => zu_a hoc⟩, fun j h0 hj e => absurd (e ▸ hr) (zi_ngL h0 (by omega))⟩
set_option maxRecDepth 20000 in
theorem an_ref (o f c : Nat) (hoc : o ≠ c) {j : Nat} (h0 : 0 < j) (hj : j < 7) : an_at o f c I (sf_u2 (sf_u2 I o f (-Int32.ofNat j)) c j (I c j + 1)) (-Int32.ofNat j) := by
  refine ⟨fun h => absurd h (zi_ngL h0 (by omega)), fun i hi0 hi e => ?_⟩
  have : i = j := by
    have h := congrArg (fun x : Int32 => -x) e
    simp only [Int32.neg_neg] at h
    rw [zi_eq (by omega) (by omega)] at h
    exact h.symm
  subst this
  refine ⟨by rw [zu_a hoc, zu_eq], fun k _ => ?_⟩
  by_cases hk : k = i
  · rw [if_pos hk, hk, zu_eq]
  · rw [if_neg hk, zu_k hk, zu_a (Ne.symm hoc)]
def zk_st (a k : Nat) : Bool := (a == 0 && k == 12) || a == 108
def zk_sm0 (a k : Nat) : Bool := (a == 112 && k == 0) || a == 113
set_option maxRecDepth 20000 in
/-- the answer, whatever it is -/
theorem cx_answered {r : Int32} (hr : ar_ok r) : zp_wp (jx_SF_answered (some 0) r) (fun v τ => v = r ∧ ∃ I', τ = zp_Z t I' J D ∧ zf zk_st I I' ∧ an_at 0 12 108 I I' r) (zp_Z t I J D) := by
  unfold jx_SF_answered
  rcases hr with h | ⟨j, h0, hj, rfl⟩
  · have ha := cx_accepted (t := t) (I := I) (J := J) (D := D) r
    repeat (first | (first | (with_reducible refine ss_ret ?_) | (with_reducible refine ss_bret ?_) | ((with_reducible apply ss_rc); (· first | (with_reducible assumption) | exact rfl)) | ((with_reducible apply ss_pt); (· first | (with_reducible assumption) | exact rfl); (· exact rfl)) | ((with_reducible apply ss_gR); (· first | (with_reducible assumption) | exact rfl); (· (with_reducible assumption))) | ((with_reducible apply ss_gI); (· first | (with_reducible assumption) | exact rfl); (· ((repeat (first | (with_reducible apply zr_e) | ((with_reducible apply zr_a); (· first | decide | omega)) | ((with_reducible apply zr_k); (· omega)) | (with_reducible apply zr_1e) | ((with_reducible apply zr_1a); (· first | decide | omega)))); (first | (with_reducible assumption) | exact rfl)))) | ((with_reducible apply ss_pI); (· first | (with_reducible assumption) | exact rfl)) | ((with_reducible apply ss_aI); (· first | (with_reducible assumption) | exact rfl); (· (repeat (first | (with_reducible assumption) | (with_reducible exact rfl) | (with_reducible apply zn_add) | (with_reducible apply zn_mul) | (with_reducible exact zi_lit2 _)))); (· first | omega | decide); (· decide); (· ((repeat (first | (with_reducible apply zr_e) | ((with_reducible apply zr_a); (· first | decide | omega)) | ((with_reducible apply zr_k); (· omega)) | (with_reducible apply zr_1e) | ((with_reducible apply zr_1a); (· first | decide | omega)))); (first | (with_reducible assumption) | exact rfl)))) | ((with_reducible apply ss_sI); (· first | (with_reducible assumption) | exact rfl); (· (repeat (first | (with_reducible assumption) | (with_reducible exact rfl) | (with_reducible apply zn_add) | (with_reducible apply zn_mul) | (with_reducible exact zi_lit2 _)))); (· first | omega | decide); (· decide)) | ((with_reducible apply ss_len); (· first | (with_reducible assumption) | exact rfl); (· decide)) | (with_reducible refine ss_as ?_) | (with_reducible refine ss_bor ?_) | (with_reducible refine ss_or ?_) | (with_reducible refine ss_bcl ?_) | (with_reducible refine ss_bcr ?_) | (with_reducible refine ss_cl ?_) | (with_reducible refine ss_cr ?_) | (first | ((with_reducible refine ss_biT ?_ ?_); (· first | (with_reducible assumption) | decide)) | ((with_reducible refine ss_biF ?_ ?_); (· first | (with_reducible assumption) | decide)) | ((with_reducible refine ss_iT ?_ ?_); (· first | (with_reducible assumption) | decide)) | ((with_reducible refine ss_iF ?_ ?_); (· first | (with_reducible assumption) | decide))) | ((with_reducible apply ss_pZ); (· first | (with_reducible assumption) | exact rfl); (· first | (with_reducible assumption) | exact Or.inl rfl | exact Or.inr rfl)) | ((with_reducible apply ss_dvL); (· first | (with_reducible assumption) | decide)) | ((with_reducible apply ss_rmL); (· first | (with_reducible assumption) | decide)) | ((with_reducible apply ss_rmI); (· first | (with_reducible assumption) | decide)) | ((with_reducible apply ss_rz1); (· first | (with_reducible assumption) | exact Or.inl rfl | exact Or.inr rfl))) | (with_reducible refine ss_call ha ?_))
    exact ⟨rfl, _, rfl, zf_u2 (zf_refl _ _) rfl, an_acc 0 12 108 (by decide) h⟩
  · have hn : ¬ (0 : Int32) ≤ -Int32.ofNat j := zi_ngL h0 (by omega)
    have ha := cx_refused (t := t) (I := I) (J := J) (D := D) h0 hj
    repeat (first | (first | (with_reducible refine ss_ret ?_) | (with_reducible refine ss_bret ?_) | ((with_reducible apply ss_rc); (· first | (with_reducible assumption) | exact rfl)) | ((with_reducible apply ss_pt); (· first | (with_reducible assumption) | exact rfl); (· exact rfl)) | ((with_reducible apply ss_gR); (· first | (with_reducible assumption) | exact rfl); (· (with_reducible assumption))) | ((with_reducible apply ss_gI); (· first | (with_reducible assumption) | exact rfl); (· ((repeat (first | (with_reducible apply zr_e) | ((with_reducible apply zr_a); (· first | decide | omega)) | ((with_reducible apply zr_k); (· omega)) | (with_reducible apply zr_1e) | ((with_reducible apply zr_1a); (· first | decide | omega)))); (first | (with_reducible assumption) | exact rfl)))) | ((with_reducible apply ss_pI); (· first | (with_reducible assumption) | exact rfl)) | ((with_reducible apply ss_aI); (· first | (with_reducible assumption) | exact rfl); (· (repeat (first | (with_reducible assumption) | (with_reducible exact rfl) | (with_reducible apply zn_add) | (with_reducible apply zn_mul) | (with_reducible exact zi_lit2 _)))); (· first | omega | decide); (· decide); (· ((repeat (first | (with_reducible apply zr_e) | ((with_reducible apply zr_a); (· first | decide | omega)) | ((with_reducible apply zr_k); (· omega)) | (with_reducible apply zr_1e) | ((with_reducible apply zr_1a); (· first | decide | omega)))); (first | (with_reducible assumption) | exact rfl)))) | ((with_reducible apply ss_sI); (· first | (with_reducible assumption) | exact rfl); (· (repeat (first | (with_reducible assumption) | (with_reducible exact rfl) | (with_reducible apply zn_add) | (with_reducible apply zn_mul) | (with_reducible exact zi_lit2 _)))); (· first | omega | decide); (· decide)) | ((with_reducible apply ss_len); (· first | (with_reducible assumption) | exact rfl); (· decide)) | (with_reducible refine ss_as ?_) | (with_reducible refine ss_bor ?_) | (with_reducible refine ss_or ?_) | (with_reducible refine ss_bcl ?_) | (with_reducible refine ss_bcr ?_) | (with_reducible refine ss_cl ?_) | (with_reducible refine ss_cr ?_) | (first | ((with_reducible refine ss_biT ?_ ?_); (· first | (with_reducible assumption) | decide)) | ((with_reducible refine ss_biF ?_ ?_); (· first | (with_reducible assumption) | decide)) | ((with_reducible refine ss_iT ?_ ?_); (· first | (with_reducible assumption) | decide)) | ((with_reducible refine ss_iF ?_ ?_); (· first | (with_reducible assumption) | decide))) | ((with_reducible apply ss_pZ); (· first | (with_reducible assumption) | exact rfl); (· first | (with_reducible assumption) | exact Or.inl rfl | exact Or.inr rfl)) | ((with_reducible apply ss_dvL); (· first | (with_reducible assumption) | decide)) | ((with_reducible apply ss_rmL); (· first | (with_reducible assumption) | decide)) | ((with_reducible apply ss_rmI); (· first | (with_reducible assumption) | decide)) | ((with_reducible apply ss_rz1); (· first | (with_reducible assumption) | exact Or.inl rfl | exact Or.inr rfl))) | (with_reducible refine ss_call ha ?_))
    exact ⟨rfl, _, rfl, zf_u2 (zf_u2 (zf_refl _ _) rfl) rfl, an_ref 0 12 108 (by decide) h0 hj⟩
set_option maxRecDepth 20000 in
theorem mx_goodOr {r : Int32} (hr : ar_ok r) : zp_wp (jx_Mo_goodOr (some 112) r) (fun v τ => v = r ∧ ∃ I', τ = zp_Z t I' J D ∧ zf zk_sm0 I I' ∧ an_at 112 0 113 I I' r) (zp_Z t I J D) := by
  unfold jx_Mo_goodOr
  rcases hr with h | ⟨j, h0, hj, rfl⟩
  · have ha := mx_good (t := t) (I := I) (J := J) (D := D) r
    repeat (first | (first | (with_reducible refine ss_ret ?_) | (with_reducible refine ss_bret ?_) | ((with_reducible apply ss_rc); (· first | (with_reducible assumption) | exact rfl)) | ((with_reducible apply ss_pt); (· first | (with_reducible assumption) | exact rfl); (· exact rfl)) | ((with_reducible apply ss_gR); (· first | (with_reducible assumption) | exact rfl); (· (with_reducible assumption))) | ((with_reducible apply ss_gI); (· first | (with_reducible assumption) | exact rfl); (· ((repeat (first | (with_reducible apply zr_e) | ((with_reducible apply zr_a); (· first | decide | omega)) | ((with_reducible apply zr_k); (· omega)) | (with_reducible apply zr_1e) | ((with_reducible apply zr_1a); (· first | decide | omega)))); (first | (with_reducible assumption) | exact rfl)))) | ((with_reducible apply ss_pI); (· first | (with_reducible assumption) | exact rfl)) | ((with_reducible apply ss_aI); (· first | (with_reducible assumption) | exact rfl); (· (repeat (first | (with_reducible assumption) | (with_reducible exact rfl) | (with_reducible apply zn_add) | (with_reducible apply zn_mul) | (with_reducible exact zi_lit2 _)))); (· first | omega | decide); (· decide); (· ((repeat (first | (with_reducible apply zr_e) | ((with_reducible apply zr_a); (· first | decide | omega)) | ((with_reducible apply zr_k); (· omega)) | (with_reducible apply zr_1e) | ((with_reducible apply zr_1a); (· first | decide | omega)))); (first | (with_reducible assumption) | exact rfl)))) | ((with_reducible apply ss_sI); (· first | (with_reducible assumption) | exact rfl); (· (repeat (first | (with_reducible assumption) | (with_reducible exact rfl) | (with_reducible apply zn_add) | (with_reducible apply zn_mul) | (with_reducible exact zi_lit2 _)))); (· first | omega | decide); (· decide)) | ((with_reducible apply ss_len); (· first | (with_reducible assumption) | exact rfl); (· decide)) | (with_reducible refine ss_as ?_) | (with_reducible refine ss_bor ?_) | (with_reducible refine ss_or ?_) | (with_reducible refine ss_bcl ?_) | (with_reducible refine ss_bcr ?_) | (with_reducible refine ss_cl ?_) | (with_reducible refine ss_cr ?_) | (first | ((with_reducible refine ss_biT ?_ ?_); (· first | (with_reducible assumption) | decide)) | ((with_reducible refine ss_biF ?_ ?_); (· first | (with_reducible assumption) | decide)) | ((with_reducible refine ss_iT ?_ ?_); (· first | (with_reducible assumption) | decide)) | ((with_reducible refine ss_iF ?_ ?_); (· first | (with_reducible assumption) | decide))) | ((with_reducible apply ss_pZ); (· first | (with_reducible assumption) | exact rfl); (· first | (with_reducible assumption) | exact Or.inl rfl | exact Or.inr rfl)) | ((with_reducible apply ss_dvL); (· first | (with_reducible assumption) | decide)) | ((with_reducible apply ss_rmL); (· first | (with_reducible assumption) | decide)) | ((with_reducible apply ss_rmI); (· first | (with_reducible assumption) | decide)) | ((with_reducible apply ss_rz1); (· first | (with_reducible assumption) | exact Or.inl rfl | exact Or.inr rfl))) | (with_reducible refine ss_call ha ?_))
    exact ⟨rfl, _, rfl, zf_u2 (zf_refl _ _) rfl, an_acc 112 0 113 (by decide) h⟩
  · have hn : ¬ (0 : Int32) ≤ -Int32.ofNat j := zi_ngL h0 (by omega)
    have ha := mx_refuses (t := t) (I := I) (J := J) (D := D) h0 hj
    repeat (first | (first | (with_reducible refine ss_ret ?_) | (with_reducible refine ss_bret ?_) | ((with_reducible apply ss_rc); (· first | (with_reducible assumption) | exact rfl)) | ((with_reducible apply ss_pt); (· first | (with_reducible assumption) | exact rfl); (· exact rfl)) | ((with_reducible apply ss_gR); (· first | (with_reducible assumption) | exact rfl); (· (with_reducible assumption))) | ((with_reducible apply ss_gI); (· first | (with_reducible assumption) | exact rfl); (· ((repeat (first | (with_reducible apply zr_e) | ((with_reducible apply zr_a); (· first | decide | omega)) | ((with_reducible apply zr_k); (· omega)) | (with_reducible apply zr_1e) | ((with_reducible apply zr_1a); (· first | decide | omega)))); (first | (with_reducible assumption) | exact rfl)))) | ((with_reducible apply ss_pI); (· first | (with_reducible assumption) | exact rfl)) | ((with_reducible apply ss_aI); (· first | (with_reducible assumption) | exact rfl); (· (repeat (first | (with_reducible assumption) | (with_reducible exact rfl) | (with_reducible apply zn_add) | (with_reducible apply zn_mul) | (with_reducible exact zi_lit2 _)))); (· first | omega | decide); (· decide); (· ((repeat (first | (with_reducible apply zr_e) | ((with_reducible apply zr_a); (· first | decide | omega)) | ((with_reducible apply zr_k); (· omega)) | (with_reducible apply zr_1e) | ((with_reducible apply zr_1a); (· first | decide | omega)))); (first | (with_reducible assumption) | exact rfl)))) | ((with_reducible apply ss_sI); (· first | (with_reducible assumption) | exact rfl); (· (repeat (first | (with_reducible assumption) | (with_reducible exact rfl) | (with_reducible apply zn_add) | (with_reducible apply zn_mul) | (with_reducible exact zi_lit2 _)))); (· first | omega | decide); (· decide)) | ((with_reducible apply ss_len); (· first | (with_reducible assumption) | exact rfl); (· decide)) | (with_reducible refine ss_as ?_) | (with_reducible refine ss_bor ?_) | (with_reducible refine ss_or ?_) | (with_reducible refine ss_bcl ?_) | (with_reducible refine ss_bcr ?_) | (with_reducible refine ss_cl ?_) | (with_reducible refine ss_cr ?_) | (first | ((with_reducible refine ss_biT ?_ ?_); (· first | (with_reducible assumption) | decide)) | ((with_reducible refine ss_biF ?_ ?_); (· first | (with_reducible assumption) | decide)) | ((with_reducible refine ss_iT ?_ ?_); (· first | (with_reducible assumption) | decide)) | ((with_reducible refine ss_iF ?_ ?_); (· first | (with_reducible assumption) | decide))) | ((with_reducible apply ss_pZ); (· first | (with_reducible assumption) | exact rfl); (· first | (with_reducible assumption) | exact Or.inl rfl | exact Or.inr rfl)) | ((with_reducible apply ss_dvL); (· first | (with_reducible assumption) | decide)) | ((with_reducible apply ss_rmL); (· first | (with_reducible assumption) | decide)) | ((with_reducible apply ss_rmI); (· first | (with_reducible assumption) | decide)) | ((with_reducible apply ss_rz1); (· first | (with_reducible assumption) | exact Or.inl rfl | exact Or.inr rfl))) | (with_reducible refine ss_call ha ?_))
    exact ⟨rfl, _, rfl, zf_u2 (zf_u2 (zf_refl _ _) rfl) rfl, an_ref 112 0 113 (by decide) h0 hj⟩
end
/-- what a deed of the class, of the model may change -/
def zk_dx (a k : Nat) : Bool := zk_sc a k || (1 < a && a < 11) || (19 < a && a < 55) || a == 108 || (a == 0 && (k == 12 || k == 9 || k == 10 || k == 11)) || (a == 95 && k == 1)
def zk_dm (a k : Nat) : Bool := zk_sc a k || a == 113 || a == 114 || a == 133 || (a == 112 && (k == 0 || k == 6 || k == 13 || k == 14 || k == 40 || k == 43))
section
variable {t : List (Nat × Nat)} {I I1 I2 : Nat → Nat → Int32} {J : Nat → Nat → Int64} {D : Nat → Nat → Option Nat} {K' : Nat → Int32} {L' : lg_L} {r : Int32}
set_option maxRecDepth 20000 in
theorem INV_mk (h : INV t I D) (f1 : zf zk_dx I I1) (c1 : zr_cl t I1 D K') (l1 : cx_lg 20 I1 L') (a1 : an_at 0 12 108 I I1 r) (f2 : zf zk_dm I1 I2) (e2 : I2 114 = K') (l2 : mx_lg I2 L') (a2 : an_at 112 0 113 I1 I2 r) (ok : lg_ok L') (hr : ar_ok r)
    (ht : ∃ n, n ≤ 400 ∧ I1 95 1 = Int32.ofNat n ∧ I2 112 13 = Int32.ofNat n) (s9 : I1 0 9 = I2 112 14) (s10 : I1 0 10 = I2 112 43) (s11 : I1 0 11 = I2 112 6) : INV t I2 D := by
  obtain ⟨h1, h2, h3, h4, ⟨g1, g2, g3, g4, g5, g6, g7⟩, h6, h7, h8, h9⟩ := h
  have row : ∀ a, (∀ k, zk_dx a k = false) → (∀ k, zk_dm a k = false) → I2 a = I a := fun a q1 q2 => (zf_row f2 q2).trans (zf_row f1 q1)
  have h138 : ∀ a, 138 < a → I2 a = I a := fun a ha => row a (fun k => by simp [zk_dx, zk_sc]; omega) (fun k => by simp [zk_dm, zk_sc]; omega)
  have h138' : ∀ a, 138 < a → I2 a = I1 a := fun a ha => zf_row f2 (fun k => by simp [zk_dm, zk_sc]; omega)
  refine ⟨?_, h2, ⟨L', ?_, l2, ok⟩, ?_, ?_, ?_, ?_, ?_, h9⟩
  · rw [e2]
    exact zr_cl_fr2 (fun a ha => ha.elim (fun ha => zf_row f2 (fun k => by simp [zk_dm, zk_sc]; omega)) (h138' a)) c1
  · exact cx_lg_fr (fun k hk => f2 20 k rfl) (fun a ha1 ha2 => zf_row f2 (fun k => by simp [zk_dm, zk_sc]; omega)) l1
  · refine ⟨?_, fun k hk => ?_⟩
    · obtain ⟨n, hn, n1, n2⟩ := ht
      exact ⟨n, hn, by rw [f2 95 1 rfl]; exact n1, n2⟩
    · rw [row 119 (fun k => rfl) (fun k => rfl), row 96 (fun k => rfl) (fun k => rfl)]; exact h4.2 k hk
  · have e12 : I2 0 12 = I1 0 12 := f2 0 12 rfl
    have e108 : ∀ k, I2 108 k = I1 108 k := fun k => f2 108 k rfl
    have e113 : ∀ k, I1 113 k = I 113 k := fun k => f1 113 k rfl
    have hst : I2 0 12 = I2 112 0 ∧ ∀ k, k < 7 → I2 108 k = I2 113 k := by
      rcases hr with q | ⟨j, j0, j7, q⟩
      · obtain ⟨p1, p2⟩ := a1.1 q
        obtain ⟨p3, p4⟩ := a2.1 q
        exact ⟨by rw [e12, p1, p3], fun k hk => by rw [e108, p2 k hk, p4 k hk, e113, g2 k hk]⟩
      · obtain ⟨p1, p2⟩ := a1.2 j j0 j7 q
        obtain ⟨p3, p4⟩ := a2.2 j j0 j7 q
        exact ⟨by rw [e12, p1, p3], fun k hk => by rw [e108, p2 k hk, p4 k hk, e113, g2 k hk]⟩
    refine ⟨hst.1, hst.2, ?_, ?_, ?_, ?_, fun k hk => ?_⟩
    · rw [f2 0 9 rfl]; exact s9
    · rw [f2 0 10 rfl]; exact s10
    · rw [f2 0 11 rfl]; exact s11
    · rw [f2 0 8 rfl, f1 0 8 rfl, f2 112 51 rfl, f1 112 51 rfl]; exact g6
    · rw [f2 110 k rfl, f1 110 k rfl, f2 138 k rfl, f1 138 k rfl]; exact g7 k hk
  · intro k hk; rw [f2 118 k rfl, f1 118 k rfl]; exact h6 k hk
  · exact im_fr (row 115 (fun k => rfl) (fun k => rfl)) (row 116 (fun k => rfl) (fun k => rfl)) h138 h7
  · exact im_fr (row 115 (fun k => rfl) (fun k => rfl)) (row 116 (fun k => rfl) (fun k => rfl)) h138 h8
end
/-- the masks of a deed that leaves tape, fault and the like alone -/
def zk_ex (a k : Nat) : Bool := zk_sc a k || (1 < a && a < 11) || (19 < a && a < 55) || a == 108 || (a == 0 && k == 12)
def zk_em (a k : Nat) : Bool := zk_sc a k || a == 113 || a == 114 || a == 133 || (a == 112 && (k == 0 || k == 40))
set_option maxRecDepth 20000 in
theorem zk_ex_dx (a k : Nat) (h : zk_ex a k = true) : zk_dx a k = true := by
  simp only [zk_ex, Bool.or_eq_true, Bool.and_eq_true, beq_iff_eq] at h
  simp only [zk_dx, Bool.or_eq_true, Bool.and_eq_true, beq_iff_eq]
  rcases h with (((h | h) | h) | h) | h <;> simp [h]
set_option maxRecDepth 20000 in
theorem zk_em_dm (a k : Nat) (h : zk_em a k = true) : zk_dm a k = true := by
  simp only [zk_em, Bool.or_eq_true, Bool.and_eq_true, beq_iff_eq] at h
  simp only [zk_dm, Bool.or_eq_true, Bool.and_eq_true, beq_iff_eq]
  rcases h with (((h | h) | h) | h) | ⟨h, h' | h'⟩ <;> simp [*]
set_option maxRecDepth 20000 in
theorem CL.deed {f g : sf_M Int32} (H : ∀ t I J D L, INV t I D → cx_lg 20 I L → mx_lg I L → lg_ok L → ∃ r K' L', ar_ok r ∧ lg_ok L' ∧
      zp_wp f (fun v τ => v = r ∧ ∃ I', τ = zp_Z t I' J D ∧ zf zk_ex I I' ∧ zr_cl t I' D K' ∧ cx_lg 20 I' L' ∧ an_at 0 12 108 I I' r) (zp_Z t I J D) ∧
      ∀ I1, I1 114 = I 114 → mx_lg I1 L → tp_ok I1 → zp_wp g (fun v τ => v = r ∧ ∃ I', τ = zp_Z t I' J D ∧ zf zk_em I1 I' ∧ I' 114 = K' ∧ mx_lg I' L' ∧ an_at 112 0 113 I1 I' r) (zp_Z t I1 J D)) : CL f g := by
  intro t I J D h
  obtain ⟨L, l1, l2, l3⟩ := h.2.2.1
  obtain ⟨r, K', L', hr, hok, hx, hm⟩ := H t I J D L h l1 l2 l3
  refine zp_wp_mono hx ?_
  rintro v τ ⟨rfl, I1, rfl, f1, c1, k1, a1⟩
  have tp1 : tp_ok I1 := tp_fr (f1 95 1 rfl) (f1 112 13 rfl) (zf_row f1 (fun k => rfl)) (zf_row f1 (fun k => rfl)) h.2.2.2.1
  refine zp_wp_mono (hm I1 (zf_row f1 (fun k => rfl)) (mx_lg_fr (f1 112 40 rfl) (zf_row f1 (fun k => rfl)) l2) tp1) ?_
  rintro w τ ⟨rfl, I2, rfl, f2, e2, k2, a2⟩
  obtain ⟨g1, g2, g3, g4, g5, g6, g7⟩ := h.ms
  obtain ⟨n, n1, n2, n3⟩ := h.2.2.2.1.1
  exact CL.fin (INV_mk h (zf_mono f1 zk_ex_dx) c1 k1 a1 (zf_mono f2 zk_em_dm) e2 k2 a2 hok hr ⟨n, n1, by rw [f1 95 1 rfl]; exact n2, by rw [f2 112 13 rfl, f1 112 13 rfl]; exact n3⟩ (by rw [f1 0 9 rfl, f2 112 14 rfl, f1 112 14 rfl]; exact g3) (by rw [f1 0 10 rfl, f2 112 43 rfl, f1 112 43 rfl]; exact g4) (by rw [f1 0 11 rfl, f2 112 6 rfl, f1 112 6 rfl]; exact g5)) rfl
