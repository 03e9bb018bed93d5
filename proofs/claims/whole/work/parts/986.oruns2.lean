/-! orders: the model runs a clause, so many times. -/
section
variable {t : List (Nat × Nat)} {I : Nat → Nat → Int32} {J : Nat → Nat → Int64} {D : Nat → Nat → Option Nat} {K : Nat → Int32} {L : lg_L}
def zk_om (a k : Nat) : Bool := zk_dj a k || (a == 112 && ((21 < k && k < 26) || k == 27 || k == 28 || (43 < k && k < 49)))
set_option maxRecDepth 20000 in
theorem zk_ga_om (a k : Nat) (h : zk_ga a k = true) : zk_om a k = true := by
  simp only [zk_ga, Bool.or_eq_true, Bool.and_eq_true, beq_iff_eq, decide_eq_true_eq] at h
  have : (zk_dj a k || (a == 112 && ((decide (21 < k) && decide (k < 26)) || k == 27 || k == 28 || (decide (43 < k) && decide (k < 49))))) = true := by
    simp only [Bool.or_eq_true, Bool.and_eq_true, beq_iff_eq, decide_eq_true_eq]
    omega
  exact this
set_option maxRecDepth 20000 in
theorem zk_ob_om (a k : Nat) (h : zk_ob a k = true) : zk_om a k = true := by
  unfold zk_ob at h
  simp only [Bool.or_eq_true, Bool.and_eq_true, beq_iff_eq] at h
  unfold zk_om
  rcases h with h | ⟨rfl, rfl⟩
  · rw [h]; rfl
  · rfl
set_option maxRecDepth 20000 in
theorem od_ml {K0 : Nat → Int32} {m : Nat} {s : od_S} (hM : zr_ml K0) (h : od_ok K0 m s) : zr_ml s.1 := zr_ml_w hM (fun k hk => h.2.2.1 k (by omega)) (h.2.2.1 229 (by omega)) h.1
set_option maxRecDepth 20000 in
theorem od_tx {K0 : Nat → Int32} {m : Nat} {s : od_S} (hT : zr_txt K0 6 true) (h : od_ok K0 m s) : zr_txt s.1 6 true ∧ kz s.1 6 = kz K0 6 ∧ kc s.1 6 = kc K0 6 ∧ kv s.1 6 = kv K0 6 := by
  have w : ∀ k, 231 ≤ k → s.1 k = K0 k := fun k hk => h.2.2.1 k (by omega)
  exact ⟨zr_txt_w w hT, kz_w w, kc_w w, kv_w w⟩
set_option maxRecDepth 20000 in
theorem mx_runs {s : od_S} {K0 : Nat → Int32} {m p l0 q l2 : Nat} {cl : tx_C} (hK : I 114 = s.1) (hM : zr_ml K0) (hT : zr_txt K0 6 true) (hs : od_ok K0 m s) (hL : mx_lg I s.2.1) (h27 : I 112 27 = s.2.2.1) (h28 : I 112 28 = s.2.2.2) (h44 : I 112 44 = Int32.ofNat (400 * 6 + p)) (hp : p ≤ kz K0 6) (hl : l0 ≤ 50) (hcl : tx_ordC (kc K0 6) (kv K0 6) true p l0 = .inr (q, l2, cl)) : zp_wp (jx_Mo_runs (some 112) (Int32.ofNat (400 * 6 + kz K0 6))) (fun r τ => ∃ k n, k ≤ 4 ∧ cl.1 = Int32.ofNat k ∧ n ≤ 20 ∧ cl.2.1 = Int32.ofNat n ∧ q ≤ kz K0 6 ∧ l2 ≤ 50 ∧ p ≤ q ∧ r = zb (od_rep cl n s).1 ∧ ∃ I' J', τ = zp_Z t I' J' D ∧ zf zk_om I I' ∧ I' 114 = (od_rep cl n s).2.1 ∧ mx_lg I' (od_rep cl n s).2.2.1 ∧ I' 112 27 = (od_rep cl n s).2.2.2.1 ∧ I' 112 28 = (od_rep cl n s).2.2.2.2 ∧ ((od_rep cl n s).1 = true → I' 112 44 = Int32.ofNat (400 * 6 + (q + 1)))) (zp_Z t I J D) := by
  have along : ∀ (s' : od_S) (m' : Nat) (I1 : Nat → Nat → Int32) (J1 : Nat → Nat → Int64) (live : Int32), od_ok K0 m' s' → I1 114 = s'.1 → I1 112 27 = s'.2.2.1 → I1 112 28 = s'.2.2.2 → I1 112 44 = Int32.ofNat (400 * 6 + p) → ev_b live → zp_wp (jx_Mo_goesAlong (some 112) (Int32.ofNat (400 * 6 + kz K0 6)) live) (fun _ τ => ∃ k n I2 J2, k ≤ 4 ∧ cl.1 = Int32.ofNat k ∧ kc K0 6 p = od_code k ∧ n ≤ 20 ∧ cl.2.1 = Int32.ofNat n ∧ q ≤ kz K0 6 ∧ l2 ≤ 50 ∧ p ≤ q ∧ τ = zp_Z t I2 J2 D ∧ zf zk_ga I1 I2 ∧ I2 112 22 = Int32.ofNat (400 * 6 + (q + 1)) ∧ I2 112 45 = cl.2.1 ∧ I2 112 46 = od_code k ∧ (live = 1 → I2 112 48 = zb (tx_hold (ow s'.1 s'.2.2.1 s'.2.2.2) cl) ∧ (I2 112 47 = if tx_dn (ow s'.1 s'.2.2.1 s'.2.2.2) cl.2.2.1 ≠ none ∧ tx_dn (ow s'.1 s'.2.2.1 s'.2.2.2) cl.2.2.2.1 ≠ none then 1 else 0) ∧ (k ≤ 3 → ∀ a, tx_dn (ow s'.1 s'.2.2.1 s'.2.2.2) cl.2.2.1 = some a → J2 137 0 = a.toInt64) ∧ (k ≤ 2 → ∀ b, tx_dn (ow s'.1 s'.2.2.1 s'.2.2.2) cl.2.2.2.1 = some b → J2 137 1 = b.toInt64))) (zp_Z t I1 J1 D) := by
    intro s' m' I1 J1 live ho e1 e2 e3 e4 hlv
    obtain ⟨t1, t2, t3, t4⟩ := od_tx hT ho
    have := mx_along (t := t) (I := I1) (J := J1) (D := D) ho.1 t1 e1 e2 e3 (p := p) (l0 := l0) (q := q) (l2 := l2) (cl := cl) (by rw [t2]; exact hp) hl e4 (by rw [t3, t4]; exact hcl) hlv
    rw [t2, t3] at this
    exact this
  unfold jx_Mo_runs
  refine ss_rc rfl ?_
  refine zp_wp_call (along s m I J 0 hs hK h27 h28 h44 (Or.inl rfl)) ?_
  rintro _ τ ⟨k, n, I1, J1, hk, ek, ecd, hn, en, q1, q2, q3, rfl, f1, g22, g45, g46, -⟩
  rw [en] at g45
  refine ss_gI rfl g45 ?_
  refine ss_gI rfl g22 ?_
  refine ss_or ?_
  have row : ∀ I2, zf zk_ga I I2 → ∀ a, a ≠ 112 → I2 a = I a := fun I2 hf a ha => zf_row hf (fun k => by simp [zk_ga, ha])
  refine zl_gA (fun j (_ : od_S) => Int32.ofNat j) 0 n (s0 := s) rfl (by omega) (by omega) (fun j s' I' J' => od_rep cl n s = od_rep cl (n - j) s' ∧ od_ok K0 (m + j) s' ∧ zf zk_om I I' ∧ I' 114 = s'.1 ∧ mx_lg I' s'.2.1 ∧ I' 112 27 = s'.2.2.1 ∧ I' 112 28 = s'.2.2.2 ∧ I' 112 44 = Int32.ofNat (400 * 6 + p)) ⟨rfl, hs, zf_mono f1 zk_ga_om, by rw [row I1 f1 114 (by decide)]; exact hK, mx_lg_fr (f1 112 40 rfl) (row I1 f1 133 (by decide)) hL, by rw [f1 112 27 rfl]; exact h27, by rw [f1 112 28 rfl]; exact h28, by rw [f1 112 44 rfl]; exact h44⟩ ?step ?fin
  case fin =>
    rintro s' I' J' ⟨g1, g2, g3, g4, g5, g6, g7, g8⟩
    have n1 : Int32.ofNat n ≤ Int32.ofNat n := zi_leL (by omega) (by omega)
    refine ss_iT n1 ?_
    refine ss_ret ⟨_, rfl, ?_⟩
    refine ss_cr ?_
    rw [Nat.sub_self] at g1
    refine ss_pI rfl ?_
    refine ss_ret ⟨k, n, hk, ek, hn, en, q1, q2, q3, by rw [g1]; rfl, _, J', rfl, zf_u2 g3 rfl, ?_, ?_, ?_, ?_, fun _ => zu_eq⟩
    · rw [zu_r (by decide), g1]; exact g4
    · rw [g1]; exact mx_lg_fr (zu_k (by decide)) (zu_r (by decide)) g5
    · rw [zu_k (by decide), g1]; exact g6
    · rw [zu_k (by decide), g1]; exact g7
  case step =>
    rintro j s' I' J' - hj ⟨g1, g2, g3, g4, g5, g6, g7, g8⟩
    have n1 : ¬ Int32.ofNat n ≤ Int32.ofNat j := zi_nle hj (by omega)
    obtain ⟨u, hu⟩ : ∃ u, n - j = u + 1 := ⟨n - j - 1, by omega⟩
    rw [hu, od_rep_S] at g1
    have hu2 : n - (j + 1) = u := by omega
    have ok1 := od_one_ok (cl := cl) g2
    refine ss_iF n1 ?_
    refine ss_rc rfl ?_
    refine zp_wp_call (along s' (m + j) I' J' 1 g2 g4 g6 g7 g8 (Or.inr rfl)) ?_
    rintro _ τ ⟨k', n', I2, J2, hk', ek', ecd', hn', en', -, -, -, rfl, f2, -, -, g46', hlive⟩
    have hkk : k' = k := by
      rw [ek, zi_eq (by omega) (by omega)] at ek'; exact ek'.symm
    subst hkk
    obtain ⟨h48, h47, hJ0, hJ1⟩ := hlive rfl
    have row2 : ∀ a, a ≠ 112 → I2 a = I' a := fun a ha => zf_row f2 (fun k => by simp [zk_ga, ha])
    have F2 : zf zk_om I I2 := zf_trans g3 (zf_mono f2 zk_ga_om)
    have a4 : I2 114 = s'.1 := (row2 114 (by decide)).trans g4
    have a5 : mx_lg I2 s'.2.1 := mx_lg_fr (f2 112 40 rfl) (row2 133 (by decide)) g5
    have a6 : I2 112 27 = s'.2.2.1 := (f2 112 27 rfl).trans g6
    have a7 : I2 112 28 = s'.2.2.2 := (f2 112 28 rfl).trans g7
    have a8 : I2 112 44 = Int32.ofNat (400 * 6 + p) := (f2 112 44 rfl).trans g8
    have next : ∀ I3 J3, (od_one cl s').1 = true → zf zk_om I I3 → I3 114 = (od_one cl s').2.1 → mx_lg I3 (od_one cl s').2.2.1 → I3 112 27 = (od_one cl s').2.2.2.1 → I3 112 28 = (od_one cl s').2.2.2.2 → I3 112 44 = Int32.ofNat (400 * 6 + p) → ∃ s2 I4 J4, (Sum.inl (Int32.ofNat j + 1) : Int32 ⊕ (Int32 ⊕ Unit)) = .inl (Int32.ofNat (j + 1)) ∧ zp_Z t I3 J3 D = zp_Z t I4 J4 D ∧ od_rep cl n s = od_rep cl (n - (j + 1)) s2 ∧ od_ok K0 (m + (j + 1)) s2 ∧ zf zk_om I I4 ∧ I4 114 = s2.1 ∧ mx_lg I4 s2.2.1 ∧ I4 112 27 = s2.2.2.1 ∧ I4 112 28 = s2.2.2.2 ∧ I4 112 44 = Int32.ofNat (400 * 6 + p) := by
      intro I3 J3 h1 h2 h3 h4 h5 h6 h7
      exact ⟨(od_one cl s').2, I3, J3, by rw [zi_s], rfl, by rw [g1, if_pos h1, hu2], ok1, h2, h3, h4, h5, h6, h7⟩
    have last : ∀ I3 J3, (od_one cl s').1 = false → zf zk_om I I3 → I3 114 = (od_one cl s').2.1 → mx_lg I3 (od_one cl s').2.2.1 → I3 112 27 = (od_one cl s').2.2.2.1 → I3 112 28 = (od_one cl s').2.2.2.2 → ∃ g, (Sum.inr (Sum.inl 0) : Int32 ⊕ (Int32 ⊕ Unit)) = .inr g ∧ zp_wp (sf_cs (fun _ => sf_bnd (sf_pI 11 44 (some 112) (Int32.ofNat (400 * 6 + (q + 1)))) fun _ => sf_ret (1 : Int32)) g) (fun r τ => ∃ k n, k ≤ 4 ∧ cl.1 = Int32.ofNat k ∧ n ≤ 20 ∧ cl.2.1 = Int32.ofNat n ∧ q ≤ kz K0 6 ∧ l2 ≤ 50 ∧ p ≤ q ∧ r = zb (od_rep cl n s).1 ∧ ∃ I' J', τ = zp_Z t I' J' D ∧ zf zk_om I I' ∧ I' 114 = (od_rep cl n s).2.1 ∧ mx_lg I' (od_rep cl n s).2.2.1 ∧ I' 112 27 = (od_rep cl n s).2.2.2.1 ∧ I' 112 28 = (od_rep cl n s).2.2.2.2 ∧ ((od_rep cl n s).1 = true → I' 112 44 = Int32.ofNat (400 * 6 + (q + 1)))) (zp_Z t I3 J3 D) := by
      intro I3 J3 h1 h2 h3 h4 h5 h6
      refine ⟨_, rfl, ss_cl ⟨k', n, hk, ek, hn, en, q1, q2, q3, ?_⟩⟩
      rw [g1, if_neg (by rw [h1]; decide)]
      exact ⟨rfl, I3, J3, rfl, h2, h3, h4, h5, h6, fun h => by cases h⟩
    refine ss_gI rfl h48 ?_
    by_cases hh : tx_hold (ow s'.1 s'.2.2.1 s'.2.2.2) cl = true
    · rw [hh]
      refine ss_iF (by decide) ?_
      refine ss_gI rfl h47 ?_
      cases hA : tx_dn (ow s'.1 s'.2.2.1 s'.2.2.2) cl.2.2.1 with
      | none =>
        have o1 := od_one_brk hh (Or.inl hA)
        refine ss_iT (if_neg (fun h => h.1 rfl)) ?_
        refine ss_ret (Or.inr (last I2 J2 ?_ F2 ?_ ?_ ?_ ?_)) <;> rw [o1] <;> assumption
      | some a =>
        cases hB : tx_dn (ow s'.1 s'.2.2.1 s'.2.2.2) cl.2.2.2.1 with
        | none =>
          have o1 := od_one_brk hh (Or.inr hB)
          refine ss_iT (if_neg (fun h => h.2 rfl)) ?_
          refine ss_ret (Or.inr (last I2 J2 ?_ F2 ?_ ?_ ?_ ?_)) <;> rw [o1] <;> assumption
        | some b =>
          have o1 := od_one_do hh hA hB
          refine ss_iF (by rw [if_pos ⟨by simp, by simp⟩]; decide) ?_
          refine ss_rc rfl ?_
          refine zp_wp_call (mx_obeys a4 (od_ml hM g2) a5 hk g46' (fun h => hJ0 h a hA) (fun h => hJ1 h b hB) a7) ?_
          rintro r τ ⟨hr, I5, rfl, f5, c5, l5, r28⟩
          rw [← ek] at hr c5 l5 r28
          have F5 : zf zk_om I I5 := zf_trans F2 (zf_mono f5 zk_ob_om)
          have b6 : I5 112 27 = s'.2.2.1 := (f5 112 27 rfl).trans a6
          have b8 : I5 112 44 = Int32.ofNat (400 * 6 + p) := (f5 112 44 rfl).trans a8
          have hk2 : (cl.1 = 2) = (k' = 2) := by
            rw [ek]; exact propext ⟨fun e => by rw [show (2 : Int32) = Int32.ofNat 2 from rfl, zi_eq (by omega) (by omega)] at e; exact e, fun e => by rw [e]; rfl⟩
          by_cases hr0 : 0 ≤ r
          · have hr1 : 0 ≤ (od_do cl.1 a b s'.1 s'.2.1).1 := by rw [← hr]; exact hr0
            refine ss_iT hr0 ?_
            refine ss_gI rfl b6 ?_
            refine ss_pI rfl ?_
            refine ss_bret ?_
            refine ss_ret (Or.inl (next _ J2 ?_ (zf_u2 F5 rfl) ?_ ?_ ?_ ?_ ?_))
            · rw [o1]; exact decide_eq_true hr1
            · rw [o1, zu_r (by decide)]; exact c5
            · rw [o1]; exact mx_lg_fr (zu_k (by decide)) (zu_r (by decide)) l5
            · rw [o1, zu_eq]; exact (if_pos hr1).symm
            · rw [o1, zu_k (by decide), r28]
              show (if _ then _ else _) = if cl.1 = 2 ∧ _ then _ else _
              simp only [hk2]
            · rw [zu_k (by decide)]; exact b8
          · have hr1 : ¬ 0 ≤ (od_do cl.1 a b s'.1 s'.2.1).1 := by rw [← hr]; exact hr0
            refine ss_iF hr0 ?_
            refine ss_ret (Or.inr (last I5 J2 ?_ F5 ?_ ?_ ?_ ?_))
            · rw [o1]; exact decide_eq_false hr1
            · rw [o1]; exact c5
            · rw [o1]; exact l5
            · rw [o1]; show I5 112 27 = if _ then _ else _
              rw [if_neg hr1]; exact b6
            · rw [o1, r28]
              show (if _ then _ else _) = if cl.1 = 2 ∧ _ then _ else _
              simp only [hk2]
    · have hf : tx_hold (ow s'.1 s'.2.2.1 s'.2.2.2) cl = false := by rw [← Bool.not_eq_true]; exact hh
      have o1 := od_one_no hh
      rw [hf]
      refine ss_iT rfl ?_
      refine ss_bret ?_
      refine ss_ret (Or.inl (next I2 J2 ?_ F2 ?_ ?_ ?_ ?_ a8))
      · rw [o1]
      · rw [o1]; exact a4
      · rw [o1]; exact a5
      · rw [o1]; exact a6
      · rw [o1]; exact a7
end
