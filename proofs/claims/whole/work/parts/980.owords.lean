/-! orders: what is done, what words tell. -/
def ow (K : Nat → Int32) (d l : Int32) : Nat → Int32 := fun j => if j = 0 then K 194 else if j = 1 then d else if j = 2 then l else if j = 3 then K 192 else if j = 4 then K 193 else if j = 5 then hsm K 192 else if sp_has K (Int32.ofNat (j - 6)) = true then zs_pop (K (195 + (j - 6))) else -1
set_option maxRecDepth 20000 in
theorem ow_6 {K : Nat → Int32} {d l : Int32} {i : Nat} : ow K d l (6 + i) = if sp_has K (Int32.ofNat i) = true then zs_pop (K (195 + i)) else -1 := by
  unfold ow
  rw [if_neg (by omega), if_neg (by omega), if_neg (by omega), if_neg (by omega), if_neg (by omega), if_neg (by omega), show 6 + i - 6 = i by omega]
noncomputable def od_do (kind a b : Int32) : DSp := if kind = 0 then sp_buy 0 a b else if kind = 1 then sp_buy 1 a b else if kind = 2 then sp_ride a b else if kind = 3 then sp_save a else sp_pass
abbrev od_S : Type := (Nat → Int32) × lg_L × Int32 × Int32
noncomputable def od_one (cl : tx_C) (s : od_S) : Bool × od_S :=
  if tx_hold (ow s.1 s.2.2.1 s.2.2.2) cl = true then (match tx_dn (ow s.1 s.2.2.1 s.2.2.2) cl.2.2.1, tx_dn (ow s.1 s.2.2.1 s.2.2.2) cl.2.2.2.1 with
    | some a, some b => (decide (0 ≤ (od_do cl.1 a b s.1 s.2.1).1), (od_do cl.1 a b s.1 s.2.1).2.1, (od_do cl.1 a b s.1 s.2.1).2.2, (if 0 ≤ (od_do cl.1 a b s.1 s.2.1).1 then s.2.2.1 + 1 else s.2.2.1), if cl.1 = 2 ∧ 0 ≤ (od_do cl.1 a b s.1 s.2.1).1 then (od_do cl.1 a b s.1 s.2.1).1 else s.2.2.2)
    | _, _ => (false, s))
  else (true, s)
noncomputable def od_rep (cl : tx_C) : Nat → od_S → Bool × od_S
  | 0, s => (true, s)
  | n + 1, s => if (od_one cl s).1 = true then od_rep cl n (od_one cl s).2 else (false, (od_one cl s).2)
noncomputable def od_all : List tx_C → Nat → od_S → Option Nat × od_S
  | [], _, s => (none, s)
  | cl :: cs, i, s => if (od_rep cl (sf_ix cl.2.1) s).1 = true then od_all cs (i + 1) (od_rep cl (sf_ix cl.2.1) s).2 else (some i, (od_rep cl (sf_ix cl.2.1) s).2)
/-- what stands of a state while orders are run: the office that was, and bounds -/
def od_ok (K0 : Nat → Int32) (m : Nat) (s : od_S) : Prop := zv s.1 ∧ lg_ok s.2.1 ∧ (∀ i, 195 ≤ i → s.1 i = K0 i) ∧ (∃ n, n ≤ m ∧ s.2.2.1 = Int32.ofNat n) ∧ s.2.2.2 ≠ -2000000000
set_option maxRecDepth 20000 in
theorem DO_od (kind a b : Int32) : DO (od_do kind a b) := by
  unfold od_do
  split
  · exact DO_buy 0 a b
  split
  · exact DO_buy 1 a b
  split
  · exact DO_ride a b
  split
  · exact DO_save a
  · exact DO_pass
set_option maxRecDepth 20000 in
theorem od_one_ok {K0 : Nat → Int32} {m : Nat} {cl : tx_C} {s : od_S} (h : od_ok K0 m s) : od_ok K0 (m + 1) (od_one cl s).2 := by
  have hw : od_ok K0 (m + 1) s := by
    obtain ⟨h1, h2, h3, ⟨n, hn, h4⟩, h5⟩ := h
    exact ⟨h1, h2, h3, ⟨n, by omega, h4⟩, h5⟩
  unfold od_one
  split
  · split
    · next a b _ _ =>
      obtain ⟨h1, h2, h3, ⟨n, hn, h4⟩, h5⟩ := h
      obtain ⟨d1, d2, d3, d4⟩ := DO_od cl.1 a b s.1 s.2.1 h1
      refine ⟨d3, d2 h2, fun i hi => by rw [d4 i hi]; exact h3 i hi, ?_, ?_⟩
      · show ∃ n, n ≤ m + 1 ∧ (if 0 ≤ (od_do cl.1 a b s.1 s.2.1).1 then s.2.2.1 + 1 else s.2.2.1) = Int32.ofNat n
        split
        · exact ⟨n + 1, by omega, by rw [h4, zi_s]⟩
        · exact ⟨n, by omega, h4⟩
      · show (if cl.1 = 2 ∧ 0 ≤ (od_do cl.1 a b s.1 s.2.1).1 then (od_do cl.1 a b s.1 s.2.1).1 else s.2.2.2) ≠ -2000000000
        split
        · next hc =>
          intro e
          rw [e] at hc
          exact absurd hc.2 (by decide)
        · exact h5
    · exact hw
  · exact hw
set_option maxRecDepth 20000 in
theorem od_rep_ok {K0 : Nat → Int32} {cl : tx_C} : ∀ (n m : Nat) (s : od_S), od_ok K0 m s → od_ok K0 (m + n) (od_rep cl n s).2
  | 0, m, s, h => h
  | n + 1, m, s, h => by
    unfold od_rep
    have h1 := od_one_ok (cl := cl) h
    split
    · have := od_rep_ok (cl := cl) n (m + 1) _ h1
      rw [show m + (n + 1) = m + 1 + n by omega]; exact this
    · obtain ⟨h1, h2, h3, ⟨k, hk, h4⟩, h5⟩ := h1
      exact ⟨h1, h2, h3, ⟨k, by omega, h4⟩, h5⟩
set_option maxRecDepth 20000 in
theorem ow_nb {K : Nat → Int32} {d l : Int32} (hv : zv K) {m : Nat} (hm : m ≤ 1000) (hd : d = Int32.ofNat m) (hl : l ≠ -2000000000) : ∀ k, ow K d l k ≠ -2000000000 := by
  have pos : ∀ x : Int32, 0 ≤ x → x ≠ -2000000000 := fun x hx e => by rw [e] at hx; exact absurd hx (by decide)
  intro k
  unfold ow
  split
  · exact pos _ hv.2.2.2.1.1
  split
  · rw [hd]; exact pos _ (zi_leL (a := 0) (by omega) (by omega))
  split
  · exact hl
  split
  · exact pos _ hv.2.1.1
  split
  · exact pos _ hv.2.2.1.1
  split
  · obtain ⟨r, hr, e⟩ := hsm_rng (S := K) 192 (fun i hi => hv.1 i hi) (by omega)
    rw [e]; exact pos _ (zi_leL (a := 0) (by omega) (by omega))
  split
  · next h =>
    unfold sp_has at h
    simp only [Bool.and_eq_true, decide_eq_true_eq] at h
    obtain ⟨c, hc6, hc⟩ := zi_rng (n := 6) hv.2.2.2.2.2.2.2.2.1.1 hv.2.2.2.2.2.2.2.2.1.2 (by omega)
    have hk : ∃ n, n < 6 ∧ K (195 + (k - 6)) = K (195 + n) ∨ 6 ≤ k - 6 := by
      by_cases q : k - 6 < 6
      · exact ⟨k - 6, Or.inl ⟨q, rfl⟩⟩
      · exact ⟨0, Or.inr (by omega)⟩
    obtain ⟨n, ⟨hn, e⟩ | q⟩ := hk
    · rw [e]
      obtain ⟨b, hb, eb⟩ := zi_rng (n := 255) (hv.2.2.2.2.1 n hn).1 (hv.2.2.2.2.1 n hn).2 (by omega)
      rw [eb]; exact pos _ (zs_pop_le b (by omega)).1
    · intro e
      have hb : ∀ y : Int32, (y &&& 63) ≠ -2000000000 := by
        intro y hy
        have := congrArg (fun z : Int32 => z &&& (-64)) hy
        simp only [Int32.and_assoc] at this
        exact absurd this (by rw [show ((63 : Int32) &&& (-64)) = 0 by decide, Int32.and_zero]; decide)
      exact hb _ e
  · decide
section
variable {t : List (Nat × Nat)} {I : Nat → Nat → Int32} {J : Nat → Nat → Int64} {D : Nat → Nat → Option Nat} {K : Nat → Int32} {L : lg_L}
set_option maxRecDepth 20000 in
theorem cx_oWords (hC : zr_cl t I D K) {d l : Int32} (h6 : I 1 6 = d) (h7 : I 1 7 = l) : zp_wp (jx_Desk_tellWords (some 1)) (fun _ τ => ∃ I', τ = zp_Z t I' J D ∧ zf (fun a _ => a == 93) I I' ∧ ∀ j, j < 12 → I' 93 j = ow K d l j) (zp_Z t I J D) := by
  have k192 : I 3 2 = K 192 := hC.1.2.1
  have k193 : I 3 1 = K 193 := hC.1.2.2.1
  have k194 : I 3 3 = K 194 := hC.1.2.2.2.1
  unfold jx_Desk_tellWords
  (repeat (first | (with_reducible refine ss_ret ?_) | (with_reducible refine ss_bret ?_) | ((with_reducible apply ss_rc); (· first | (with_reducible assumption) | exact rfl)) | ((with_reducible apply ss_pt); (· first | (with_reducible assumption) | exact rfl); (· exact rfl)) | ((with_reducible apply ss_gR); (· first | (with_reducible assumption) | exact rfl); (· (with_reducible assumption))) | ((with_reducible apply ss_gI); (· first | (with_reducible assumption) | exact rfl); (· ((repeat (first | (with_reducible apply zr_e) | ((with_reducible apply zr_a); (· first | decide | omega)) | ((with_reducible apply zr_k); (· omega)) | (with_reducible apply zr_1e) | ((with_reducible apply zr_1a); (· first | decide | omega)))); (first | (with_reducible assumption) | exact rfl)))) | ((with_reducible apply ss_pI); (· first | (with_reducible assumption) | exact rfl)) | ((with_reducible apply ss_aI); (· first | (with_reducible assumption) | exact rfl); (· (repeat (first | (with_reducible assumption) | (with_reducible exact rfl) | (with_reducible apply zn_add) | (with_reducible apply zn_mul) | (with_reducible exact zi_lit2 _)))); (· first | omega | decide); (· decide); (· ((repeat (first | (with_reducible apply zr_e) | ((with_reducible apply zr_a); (· first | decide | omega)) | ((with_reducible apply zr_k); (· omega)) | (with_reducible apply zr_1e) | ((with_reducible apply zr_1a); (· first | decide | omega)))); (first | (with_reducible assumption) | exact rfl)))) | ((with_reducible apply ss_sI); (· first | (with_reducible assumption) | exact rfl); (· (repeat (first | (with_reducible assumption) | (with_reducible exact rfl) | (with_reducible apply zn_add) | (with_reducible apply zn_mul) | (with_reducible exact zi_lit2 _)))); (· first | omega | decide); (· decide)) | ((with_reducible apply ss_len); (· first | (with_reducible assumption) | exact rfl); (· decide)) | (with_reducible refine ss_as ?_) | (with_reducible refine ss_bor ?_) | (with_reducible refine ss_or ?_) | (with_reducible refine ss_bcl ?_) | (with_reducible refine ss_bcr ?_) | (with_reducible refine ss_cl ?_) | (with_reducible refine ss_cr ?_) | (first | ((with_reducible refine ss_biT ?_ ?_); (· first | (with_reducible assumption) | decide)) | ((with_reducible refine ss_biF ?_ ?_); (· first | (with_reducible assumption) | decide)) | ((with_reducible refine ss_iT ?_ ?_); (· first | (with_reducible assumption) | decide)) | ((with_reducible refine ss_iF ?_ ?_); (· first | (with_reducible assumption) | decide))) | ((with_reducible apply ss_pZ); (· first | (with_reducible assumption) | exact rfl); (· first | (with_reducible assumption) | exact Or.inl rfl | exact Or.inr rfl)) | ((with_reducible apply ss_dvL); (· first | (with_reducible assumption) | decide)) | ((with_reducible apply ss_rmL); (· first | (with_reducible assumption) | decide)) | ((with_reducible apply ss_rmI); (· first | (with_reducible assumption) | decide)) | ((with_reducible apply ss_rz1); (· first | (with_reducible assumption) | exact Or.inl rfl | exact Or.inr rfl))))
  generalize hI1 : sf_u2 (sf_u2 (sf_u2 (sf_u2 (sf_u2 I 93 0 (K 194)) 93 1 d) 93 2 l) 93 3 (K 192)) 93 4 (K 193) = I1
  have f1 : zf (fun a _ => a == 93) I I1 := by subst hI1; exact zf_u2 (zf_u2 (zf_u2 (zf_u2 (zf_u2 (zf_refl _ _) rfl) rfl) rfl) rfl) rfl
  have w1 : ∀ j, j < 5 → I1 93 j = ow K d l j := by
    intro j hj
    subst hI1
    have : j = 0 ∨ j = 1 ∨ j = 2 ∨ j = 3 ∨ j = 4 := by omega
    rcases this with rfl | rfl | rfl | rfl | rfl
    · rw [zu_k (by decide), zu_k (by decide), zu_k (by decide), zu_k (by decide), zu_eq]; rfl
    · rw [zu_k (by decide), zu_k (by decide), zu_k (by decide), zu_eq]; rfl
    · rw [zu_k (by decide), zu_k (by decide), zu_eq]; rfl
    · rw [zu_k (by decide), zu_eq]; rfl
    · rw [zu_eq]; rfl
  clear hI1
  have cl : ∀ I', zf (fun a _ => a == 93) I I' → zr_cl t I' D K := fun I' hf => zr_cl_fr2 (fun a ha => zf_row hf (fun k => by simp; omega)) hC
  have hh := cx_heldInAll (t := t) (J := J) (D := D) (cl I1 f1).1
  refine ss_call hh ?_
  refine ss_sI (m := 5) rfl rfl (by decide) (by decide) ?_
  refine zl_g (fun i (_ : Unit) => Int32.ofNat i) 0 6 (s0 := ()) rfl (by omega) (by omega) (fun i _ I' => zf (fun a _ => a == 93) I I' ∧ ∀ j, j < 6 + i → I' 93 j = ow K d l j) ⟨zf_u2 f1 rfl, fun j hj => ?_⟩ ?step ?fin
  · by_cases e : j = 5
    · subst e; rw [zu_eq]; rfl
    · rw [zu_k e]; exact w1 j (by omega)
  case step =>
    rintro i s I' - hi ⟨f2, w2⟩
    have n1 : ¬ (6 : Int32) ≤ Int32.ofNat i := zi_nle (a := 6) hi (by omega)
    have hC2 := cl I' f2
    have hx := cx_hasX (J := J) hC2 (Int32.ofNat i)
    have hst : I' 5 i = K (195 + i) := hC2.1.2.2.2.2.1 i hi
    have e6 : (6 : Int32) + Int32.ofNat i = Int32.ofNat (6 + i) := zi_add 6 i
    refine ss_iF n1 ?_
    refine ss_pt rfl rfl ?_
    refine ss_rc rfl ?_
    refine ss_call hx ?_
    have key : ∀ v, v = ow K d l (6 + i) → zp_wp (sf_bnd (sf_sI 0 (some 93) ((6 : Int32) + Int32.ofNat i) v) fun _ => sf_bnd (sf_ret (Int32.ofNat i + (1 : Int32))) fun y27 => sf_ret (.inl y27 : Int32 ⊕ Unit)) (fun r τ => (∃ s' : Unit, ∃ I2, r = .inl (Int32.ofNat (i + 1)) ∧ τ = zp_Z t I2 J D ∧ zf (fun a _ => a == 93) I I2 ∧ ∀ j, j < 6 + (i + 1) → I2 93 j = ow K d l j) ∨ (∃ g, r = .inr g ∧ zp_wp ((fun _ => sf_ret ()) g) (fun _ τ => ∃ I', τ = zp_Z t I' J D ∧ zf (fun a _ => a == 93) I I' ∧ ∀ j, j < 12 → I' 93 j = ow K d l j) τ)) (zp_Z t I' J D) := by
      intro v hv
      refine ss_sI (m := 6 + i) rfl e6 (by omega) (by decide) ?_
      refine ss_bret ?_
      refine ss_ret (Or.inl ⟨(), _, by rw [zi_s], rfl, zf_u2 f2 rfl, fun j hj => ?_⟩)
      by_cases e : j = 6 + i
      · subst e; rw [zu_eq]; exact hv
      · rw [zu_k e]; exact w2 j (by omega)
    cases hb : sp_has K (Int32.ofNat i) with
    | false =>
      refine ss_biT rfl (ss_bret (key _ ?_))
      rw [ow_6, if_neg (by rw [hb]; decide)]
    | true =>
      refine ss_biF (by decide) ?_
      refine ss_as ?_
      refine ss_pt rfl rfl ?_
      refine ss_as ?_
      refine ss_pt rfl rfl ?_
      refine ss_as ?_
      refine ss_aI rfl rfl hi (by decide) hst ?_
      refine ss_as ?_
      refine ss_pure (ze_bitCount _) ?_
      refine ss_bret (key _ ?_)
      rw [ow_6, if_pos hb]
  case fin =>
    rintro s I' ⟨f2, w2⟩
    have n1 : (6 : Int32) ≤ Int32.ofNat 6 := by decide
    refine ss_iT n1 ?_
    refine ss_ret ⟨_, rfl, ?_⟩
    exact ss_ret ⟨I', rfl, f2, fun j hj => w2 j (by omega)⟩
end
