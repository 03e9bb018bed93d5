/-! orders: the class. -/
section
variable {c v : Nat → Int32} {ord : Bool}
set_option maxRecDepth 20000 in
theorem tx_if_kt {kind times : Int32} {xs ys : tx_L} {p l : Nat} {r : Nat × Nat × tx_C} (h : tx_if c v ord kind times xs ys p l = .inr r) : r.2.2.1 = kind ∧ r.2.2.2.1 = times := by
  unfold tx_if at h
  split at h
  · split at h
    · cases h
    · cases h; exact ⟨rfl, rfl⟩
  · cases h; exact ⟨rfl, rfl⟩
set_option maxRecDepth 20000 in
theorem tx_times_kt {kind : Int32} {xs ys : tx_L} {p l : Nat} {r : Nat × Nat × tx_C} (h : tx_times c v ord kind xs ys p l = .inr r) : r.2.2.1 = kind ∧ ∃ n, n ≤ 20 ∧ r.2.2.2.1 = Int32.ofNat n := by
  unfold tx_times at h
  split at h
  · split at h
    · next hc =>
      obtain ⟨h1, h2⟩ := tx_if_kt h
      obtain ⟨n, hn, en⟩ := zi_rng (x := v (p + 1)) (n := 20) (by have := hc.2.1; (simp only [Int32.le_iff_toInt_le, Int32.lt_iff_toInt_lt, ← Int32.toInt_inj, Int32.toInt_ofNat', Int32.reduceToInt, zi_ix, Int32.toInt_add, Int32.toInt_sub, Int32.toInt_mul, Int32.toInt_neg, zi_bm, zi_bms, zp_in] at *; omega)) hc.2.2 (by omega)
      exact ⟨h1, n, hn, by rw [h2, en]⟩
    · cases h
  · obtain ⟨h1, h2⟩ := tx_if_kt h
    exact ⟨h1, 1, by omega, h2⟩
set_option maxRecDepth 20000 in
theorem tx_two_kt {kind : Int32} {p l : Nat} {r : Nat × Nat × tx_C} (h : tx_two c v ord kind p l = .inr r) : r.2.2.1 = kind ∧ ∃ n, n ≤ 20 ∧ r.2.2.2.1 = Int32.ofNat n := by
  unfold tx_two at h
  split at h
  · cases h
  · split at h
    · split at h
      · cases h
      · exact tx_times_kt h
    · cases h
def od_kt (cl : tx_C) : Prop := ∃ k n, k ≤ 4 ∧ cl.1 = Int32.ofNat k ∧ n ≤ 20 ∧ cl.2.1 = Int32.ofNat n
set_option maxRecDepth 20000 in
theorem tx_ord_kt {p l : Nat} {r : Nat × Nat × tx_C} (h : tx_ordC c v ord p l = .inr r) : od_kt r.2.2 := by
  have fin : ∀ k, k ≤ 4 → (r.2.2.1 = Int32.ofNat k ∧ ∃ n, n ≤ 20 ∧ r.2.2.2.1 = Int32.ofNat n) → od_kt r.2.2 := by
    rintro k hk ⟨h1, n, hn, h2⟩
    exact ⟨k, n, hk, h1, hn, h2⟩
  unfold tx_ordC at h
  split at h
  · exact fin 0 (by omega) (tx_two_kt h)
  split at h
  · exact fin 1 (by omega) (tx_two_kt h)
  split at h
  · exact fin 2 (by omega) (tx_two_kt h)
  split at h
  · split at h
    · cases h
    · exact fin 3 (by omega) (tx_times_kt h)
  split at h
  · exact fin 4 (by omega) (tx_times_kt h)
  · cases h
set_option maxRecDepth 20000 in
theorem tx_text_kt {size : Nat} : ∀ (n p l : Nat) (cs : List tx_C), tx_text c v true size n p l = .inr cs → ∀ cl, cl ∈ cs → od_kt cl
  | 0, p, l, cs, h => by cases h
  | n + 1, p, l, cs, h => by
    unfold tx_text at h
    cases hc : tx_cl c v true p l with
    | inl f => rw [hc] at h; cases h
    | inr r =>
      have hk := tx_ord_kt (show tx_ordC c v true p l = .inr r from hc)
      rw [hc] at h
      simp only at h
      split at h
      · cases h
        intro cl hcl
        rw [List.mem_singleton] at hcl; subst hcl; exact hk
      · split at h
        · split at h
          · cases h
          · next cs2 h2 =>
            cases h
            intro cl hcl
            rcases List.mem_cons.mp hcl with rfl | hcl
            · exact hk
            · exact tx_text_kt n _ _ _ h2 cl hcl
        · cases h
end
set_option maxRecDepth 20000 in
theorem od_all_ok {K0 : Nat → Int32} : ∀ (cs : List tx_C) (i m : Nat) (s : od_S), (∀ cl, cl ∈ cs → od_kt cl) → od_ok K0 m s → od_ok K0 (m + 20 * cs.length) (od_all cs i s).2
  | [], i, m, s, _, h => h
  | cl :: cs, i, m, s, hk, h => by
    obtain ⟨k, n, hk4, ek, hn, en⟩ := hk cl List.mem_cons_self
    have h1 := od_rep_ok (cl := cl) n m s h
    have hix : sf_ix cl.2.1 = n := by rw [en]; exact zi_ixn (by omega)
    unfold od_all
    rw [hix]
    split
    · have := od_all_ok cs (i + 1) (m + n) _ (fun c hc => hk c (List.mem_cons_of_mem _ hc)) h1
      obtain ⟨q1, q2, q3, ⟨r, hr, q4⟩, q5⟩ := this
      exact ⟨q1, q2, q3, ⟨r, by rw [List.length_cons]; omega, q4⟩, q5⟩
    · obtain ⟨q1, q2, q3, ⟨r, hr, q4⟩, q5⟩ := h1
      exact ⟨q1, q2, q3, ⟨r, by rw [List.length_cons]; omega, q4⟩, q5⟩
section
variable {t : List (Nat × Nat)} {I : Nat → Nat → Int32} {J : Nat → Nat → Int64} {D : Nat → Nat → Option Nat} {K : Nat → Int32} {T : Nat → Int32} {l n : Nat} {L : lg_L}
/-- what the class does with orders that are read -/
def zk_ox (a k : Nat) : Bool := zk_dk a k || (54 < a && a < 95) || (95 < a && a < 107) || a == 108 || (a == 1 && (k == 6 || k == 7)) || (a == 95 && k == 1) || (a == 0 && (k == 9 || k == 10 || k == 12))
def zk_o3 (a k : Nat) : Bool := zk_oc a k || (a == 0 && k == 10)
set_option maxRecDepth 20000 in
theorem zk_dk_ox (a k : Nat) (h : zk_dk a k = true) : zk_ox a k = true := by unfold zk_ox; rw [h]; rfl
set_option maxRecDepth 20000 in
theorem zk_oc_ox (a k : Nat) (h : zk_oc a k = true) : zk_ox a k = true := by
  simp only [zk_oc, Bool.or_eq_true, Bool.and_eq_true, beq_iff_eq] at h
  simp only [zk_ox, Bool.or_eq_true, Bool.and_eq_true, beq_iff_eq, decide_eq_true_eq]
  rcases h with ((h | h) | h) | h
  · simp [h]
  · omega
  · omega
  · omega
set_option maxRecDepth 20000 in
theorem zk_rt_ox (a k : Nat) (h : zk_rt a k = true) : zk_ox a k = true := by
  have := zk_rt_sc a k h
  simp only [zk_ox, Bool.or_eq_true, Bool.and_eq_true, beq_iff_eq, decide_eq_true_eq]
  omega
set_option maxRecDepth 20000 in
theorem cx_orders_bad (hT : ∀ i, i < l → I 96 i = T i) (hb : ∀ i, i < l → 0 ≤ T i ∧ T i ≤ 255) (hl : l ≤ 400) (h95 : I 95 1 = Int32.ofNat l) {f : Nat} (ht : tx_text (tkC T l) (tkV T l) true (tk_n T l) 12 0 0 = .inl f) : zp_wp (jx_SF_orders (some 0)) (fun r τ => r = -Int32.ofNat 6 ∧ ∃ I', τ = zp_Z t I' J D ∧ zf zk_ox I I' ∧ (∀ a, a < 96 → a ≠ 95 → a ≠ 0 → I' a = I a) ∧ I' 96 = I 96 ∧ I' 95 1 = 0 ∧ I' 0 9 = Int32.ofNat (tkS T l f) ∧ I' 0 10 = -1 ∧ an_at 0 12 108 I I' (-Int32.ofNat 6)) (zp_Z t I J D) := by
  unfold jx_SF_orders
  refine ss_pI rfl ?_
  refine ss_pt rfl rfl ?_
  refine ss_pt rfl rfl ?_
  refine ss_rc rfl ?_
  refine zp_wp_call (cx_readText (ord := true) (n := l) (T := T) (fun i hi => by rw [zu_a (by decide)]; exact hT i hi) (by rw [zu_a (by decide)]; exact h95) hl (tk_cv hb) tkV_0) ?_
  rintro x τ ⟨I1, rfl, f1, hm⟩
  rw [ht] at hm
  obtain ⟨rfl, hf, h5, htk⟩ := hm
  refine ss_rc rfl ?_
  refine ss_call (cx_settle0 htk hf h5) ?_
  refine ss_iT rfl ?_
  refine ss_rc rfl ?_
  refine ss_call (cx_refused (j := 6) (by decide) (by decide)) ?_
  have hz : ∀ a k, a < 96 ∨ 106 < a → I1 a k = sf_u2 I 0 10 (-1) a k := fun a k ha => f1 a k (by
    cases h : zk_rt a k with
    | false => rfl
    | true => have := zk_rt_sc a k h; omega)
  refine ss_ret ⟨rfl, _, rfl, zf_u2 (zf_u2 (zf_u2 (zf_u2 (zf_trans (zf_u2 (zf_refl _ _) rfl) (zf_mono f1 zk_rt_ox)) rfl) rfl) rfl) rfl, fun a h1 h2 h3 => ?_, ?_, ?_, ?_, ?_, an_l (I := sf_u2 (sf_u2 I1 0 9 (Int32.ofNat (tkS T l f))) 95 1 0) (fun k => ?_) (an_ref 0 12 108 (by decide) (by decide) (by decide))⟩
  · rw [zu_r (by omega), zu_r (by omega), zu_r (by omega), zu_r (by omega)]
    funext k
    rw [hz a k (by omega), zu_a h3]
  · rw [zu_r (by decide), zu_r (by decide), zu_r (by decide), zu_r (by decide), zf_row f1 zk_rt_95, zu_r (by decide)]
  · rw [zu_a (by decide), zu_a (by decide), zu_eq]
  · rw [zu_a (by decide), zu_k (by decide), zu_a (by decide), zu_eq]
  · rw [zu_a (by decide), zu_k (by decide), zu_a (by decide), zu_k (by decide), hz 0 10 (by omega), zu_eq]
  · rw [zu_a (by decide), zu_a (by decide), hz 108 k (by omega), zu_a (by decide)]
set_option maxRecDepth 20000 in
theorem cx_orders_good (hC : zr_cl t I D K) (hL : cx_lg 20 I L) (hok : lg_ok L) (hT : ∀ i, i < l → I 96 i = T i) (hb : ∀ i, i < l → 0 ≤ T i ∧ T i ≤ 255) (hl : l ≤ 400) (h95 : I 95 1 = Int32.ofNat l) {cs : List tx_C} (ht : tx_text (tkC T l) (tkV T l) true (tk_n T l) 12 0 0 = .inr cs) : zp_wp (jx_SF_orders (some 0)) (fun r τ => ∃ I', τ = zp_Z t I' J D ∧ zf zk_ox I I' ∧ I' 96 = I 96 ∧ I' 95 1 = 0 ∧ I' 0 9 = -1 ∧ ((od_all cs 0 (K, L, 0, -1)).1 = none → r = (od_all cs 0 (K, L, 0, -1)).2.2.2.1 ∧ I' 0 10 = -1 ∧ zr_cl t I' D (od_all cs 0 (K, L, 0, -1)).2.1 ∧ cx_lg 20 I' (od_all cs 0 (K, L, 0, -1)).2.2.1 ∧ an_at 0 12 108 I I' r) ∧ ∀ i, (od_all cs 0 (K, L, 0, -1)).1 = some i → r = -Int32.ofNat 3 ∧ I' 0 10 = Int32.ofNat i ∧ zr_cl t I' D K ∧ cx_lg 20 I' L ∧ an_at 0 12 108 I I' r) (zp_Z t I J D) := by
  have hkt := tx_text_kt _ _ _ _ ht
  have h4 : tk_n T l ≤ 400 := by have := tk_n_le (T := T) l; omega
  have hcok := tx_text_cok (ord := true) (size := tk_n T l) tkV_0 (fun k hk => by unfold tkC; rw [if_neg (by omega)]) h4 12 0 0 (Nat.zero_le _) (by omega) cs ht
  have hzv := hC.2.1
  unfold jx_SF_orders
  refine ss_pI rfl ?_
  refine ss_pt rfl rfl ?_
  refine ss_pt rfl rfl ?_
  refine ss_rc rfl ?_
  refine zp_wp_call (cx_readText (ord := true) (n := l) (T := T) (fun i hi => by rw [zu_a (by decide)]; exact hT i hi) (by rw [zu_a (by decide)]; exact h95) hl (tk_cv hb) tkV_0) ?_
  rintro x τ ⟨I1, rfl, f1, hm⟩
  rw [ht] at hm
  obtain ⟨rfl, hpr⟩ := hm
  have hz : ∀ a k, a < 96 ∨ 106 < a → I1 a k = sf_u2 I 0 10 (-1) a k := fun a k ha => f1 a k (by
    cases h : zk_rt a k with
    | false => rfl
    | true => have := zk_rt_sc a k h; omega)
  refine ss_rc rfl ?_
  refine ss_call cx_settle1 ?_
  refine ss_iF (by decide) ?_
  generalize hI2 : sf_u2 (sf_u2 I1 0 9 (-1)) 95 1 0 = I2
  have f2 : zf zk_ox I I2 := by
    subst hI2
    exact zf_u2 (zf_u2 (zf_trans (zf_u2 (zf_refl _ _) rfl) (zf_mono f1 zk_rt_ox)) rfl) rfl
  have r2 : ∀ a, a ≠ 0 → a ≠ 95 → (a < 96 ∨ 106 < a) → I2 a = I a := fun a q1 q2 q3 => by
    subst hI2
    rw [zu_r q2, zu_r q1]
    funext k
    rw [hz a k q3, zu_a q1]
  have e96 : I2 96 = I 96 := by subst hI2; rw [zu_r (by decide), zu_r (by decide), zf_row f1 zk_rt_95, zu_r (by decide)]
  have e95 : I2 95 1 = 0 := by subst hI2; rw [zu_eq]
  have e9 : I2 0 9 = -1 := by subst hI2; rw [zu_a (by decide), zu_eq]
  have e10 : I2 0 10 = -1 := by subst hI2; rw [zu_a (by decide), zu_k (by decide), hz 0 10 (by omega), zu_eq]
  have hp2 : zr_prog I2 98 cs := by
    have e : ∀ x, 97 < x → x < 102 → I2 x = I1 x := fun x q1 q2 => by
      subst hI2; rw [zu_r (by omega), zu_r (by omega)]
    unfold zr_prog zr_cls at hpr ⊢
    rw [e 98 (by omega) (by omega), e (98 + 1) (by omega) (by omega), e (98 + 2) (by omega) (by omega), e (98 + 3) (by omega) (by omega)]
    exact hpr
  clear hI2 hpr hz f1
  have hC2 : zr_cl t I2 D K := zr_cl_fr2 (fun a ha => r2 a (by omega) (by omega) (by omega)) hC
  have hL2 : cx_lg 20 I2 L := cx_lg_fr (fun k _ => by rw [r2 20 (by decide) (by decide) (by decide)]) (fun a q1 q2 => r2 a (by omega) (by omega) (by omega)) hL
  refine ss_pt rfl rfl ?_
  refine ss_pt rfl rfl ?_
  refine ss_pt rfl rfl ?_
  refine ss_rc rfl ?_
  refine zp_wp_call (cx_begin (pk_at_of hC2.1) hL2) ?_
  rintro _ τ ⟨I3, rfl, f3, p90, l55, b6, b7⟩
  have hl12 := hp2.2.1
  have r3 : ∀ a, a ≠ 1 → (a < 55 ∨ 91 < a) → I3 a = I2 a := fun a q1 q2 => zf_row f3 (fun k => by simp [q1]; omega)
  have F3 : zf zk_ox I I3 := zf_trans f2 (zf_mono f3 (fun a k e => by
    simp only [Bool.or_eq_true, Bool.and_eq_true, beq_iff_eq, decide_eq_true_eq] at e
    simp only [zk_ox, Bool.or_eq_true, Bool.and_eq_true, beq_iff_eq, decide_eq_true_eq]
    omega))
  have hC3 : zr_cl t I3 D K := zr_cl_fr2 (fun a ha => r3 a (by omega) (by omega)) hC2
  have hL3 : cx_lg 20 I3 L := cx_lg_fr (fun k _ => by rw [r3 20 (by decide) (by decide)]) (fun a q1 q2 => r3 a (by omega) (by omega)) hL2
  have hp3 : zr_prog I3 98 cs := by
    unfold zr_prog zr_cls at hp2 ⊢
    rw [r3 98 (by omega) (by omega), r3 (98 + 1) (by omega) (by omega), r3 (98 + 2) (by omega) (by omega), r3 (98 + 3) (by omega) (by omega)]
    exact hp2
  obtain ⟨s0, hs0⟩ : ∃ s0 : od_S, s0 = (K, L, 0, -1) := ⟨_, rfl⟩
  have ok0 : od_ok K 0 s0 := by subst hs0; exact ⟨hzv, hok, fun _ _ => rfl, ⟨0, by omega, rfl⟩, show (-1 : Int32) ≠ -2000000000 by decide⟩
  have k1 : s0.1 = K := by rw [hs0]
  have k2 : s0.2.1 = L := by rw [hs0]
  have k3 : s0.2.2.1 = 0 := by rw [hs0]
  have k4 : s0.2.2.2 = -1 := by rw [hs0]
  rw [← hs0]
  have okf := od_all_ok cs 0 0 s0 hkt ok0
  have r3o : ∀ I', zf zk_o3 I3 I' → ∀ a, a ≠ 0 → a ≠ 1 → a ≠ 3 → a ≠ 4 → a ≠ 93 → a ≠ 94 → (a < 12 ∨ 54 < a) → I' a = I3 a := fun I' hf a q0 q1 q2 q3 q4 q5 q6 => zf_row hf (fun k => by simp [zk_o3, zk_oc, zk_dk]; omega)
  have F3o : ∀ I', zf zk_o3 I3 I' → zf zk_ox I I' := fun I' hf => zf_trans F3 (zf_mono hf (fun a k e => by
    simp only [zk_o3, Bool.or_eq_true, Bool.and_eq_true, beq_iff_eq] at e
    rcases e with e | e
    · exact zk_oc_ox a k e
    · simp [zk_ox, e]))
  have e3 : ∀ k, k ≠ 10 → ∀ I', zf zk_o3 I3 I' → I' 0 k = I2 0 k := fun k hk I' hf => by
    rw [hf 0 k (by simp [zk_o3, zk_oc, zk_dk, hk]), r3 0 (by decide) (by omega)]
  have done : ∀ (s' : od_S) I', zf zk_o3 I3 I' → zr_cl t I' D s'.1 → cx_lg 20 I' s'.2.1 → I' 1 6 = s'.2.2.1 → od_ok K 300 s' → ((I' 0 10 = -1 ∧ od_all cs 0 s0 = (none, s')) ∨ ∃ i, i < 12 ∧ I' 0 10 = Int32.ofNat i ∧ od_all cs 0 s0 = (some i, s')) → zp_wp (sf_bnd (sf_gI 0 10 (some 0)) fun x22 =>
      if x22 = (-1 : Int32) then (
      sf_bnd (sf_gR 0 0 (some 0)) fun x24 =>
      sf_bnd (sf_gI 1 6 x24) fun x25 =>
      sf_bnd (sf_rc 0 (some 0) (jx_SF_accepted (some 0) x25)) fun x26 =>
      sf_ret x26
      ) else (
      sf_bnd (sf_gR 0 0 (some 0)) fun x27 =>
      sf_bnd (sf_rc 1 x27 (jx_Desk_takeBack x27)) fun _ =>
      sf_bnd (sf_rc 0 (some 0) (jx_SF_refused (some 0) (-3 : Int32))) fun x29 =>
      sf_ret x29
      )) (fun r τ => ∃ I', τ = zp_Z t I' J D ∧ zf zk_ox I I' ∧ I' 96 = I 96 ∧ I' 95 1 = 0 ∧ I' 0 9 = -1 ∧ ((od_all cs 0 s0).1 = none → r = (od_all cs 0 s0).2.2.2.1 ∧ I' 0 10 = -1 ∧ zr_cl t I' D (od_all cs 0 s0).2.1 ∧ cx_lg 20 I' (od_all cs 0 s0).2.2.1 ∧ an_at 0 12 108 I I' r) ∧ ∀ i, (od_all cs 0 s0).1 = some i → r = -Int32.ofNat 3 ∧ I' 0 10 = Int32.ofNat i ∧ zr_cl t I' D K ∧ cx_lg 20 I' L ∧ an_at 0 12 108 I I' r) (zp_Z t I' J D) := by
    intro s' I' hf hC' hL' h6 hok' hd
    have e108 : ∀ k, I' 108 k = I 108 k := fun k => by
      rw [r3o I' hf 108 (by decide) (by decide) (by decide) (by decide) (by decide) (by decide) (by omega), r3 108 (by decide) (by omega), r2 108 (by decide) (by decide) (by omega)]
    have e96' : I' 96 = I 96 := by
      rw [r3o I' hf 96 (by decide) (by decide) (by decide) (by decide) (by decide) (by decide) (by omega), r3 96 (by decide) (by omega)]; exact e96
    have e95' : I' 95 1 = 0 := by
      rw [r3o I' hf 95 (by decide) (by decide) (by decide) (by decide) (by decide) (by decide) (by omega), r3 95 (by decide) (by omega)]; exact e95
    have e9' : I' 0 9 = -1 := by rw [e3 9 (by decide) I' hf]; exact e9
    rcases hd with ⟨h10, hall⟩ | ⟨i, hi, h10, hall⟩
    · rw [hall]
      obtain ⟨-, -, -, ⟨nn, hnn, ed⟩, -⟩ := hok'
      refine ss_gI rfl h10 ?_
      refine ss_iT rfl ?_
      refine ss_pt rfl rfl ?_
      refine ss_gI rfl h6 ?_
      refine ss_rc rfl ?_
      refine ss_call (cx_accepted _) ?_
      refine ss_ret ⟨_, rfl, zf_u2 (F3o I' hf) rfl, by rw [zu_r (by decide)]; exact e96', by rw [zu_a (by decide)]; exact e95', by rw [zu_k (by decide)]; exact e9', fun _ => ⟨rfl, by rw [zu_k (by decide)]; exact h10, zr_cl_fr2 (fun a ha => zu_r (by omega)) hC', cx_lg_fr (fun k _ => zu_a (by decide)) (fun a q1 q2 => zu_r (by omega)) hL', ?_⟩, fun i h => by cases h⟩
      exact an_l (I := I') (fun k => (e108 k).symm) (an_acc 0 12 108 (by decide) (by rw [ed]; exact zi_leL (a := 0) (by omega) (by omega)))
    · rw [hall]
      obtain ⟨z1, z2, z3, z4, z5⟩ := hok'
      have hne : ¬ Int32.ofNat i = -1 := ofNat_ne_m1 (by omega)
      have hkW : kW s'.1 K = K := by
        funext a; unfold kW
        split
        · rfl
        · next h => exact z3 a (by omega)
      have p90' : pk_at I' 90 K := pk_fr (r3o I' hf 90 (by decide) (by decide) (by decide) (by decide) (by decide) (by decide) (by omega)) (r3o I' hf 91 (by decide) (by decide) (by decide) (by decide) (by decide) (by decide) (by omega)) p90
      have l55' : cx_lg 55 I' L := cx_lg_fr (fun k _ => by rw [r3o I' hf 55 (by decide) (by decide) (by decide) (by decide) (by decide) (by decide) (by omega)]) (fun a q1 q2 => r3o I' hf a (by omega) (by omega) (by omega) (by omega) (by omega) (by omega) (by omega)) l55
      refine ss_gI rfl h10 ?_
      refine ss_iF hne ?_
      refine ss_pt rfl rfl ?_
      refine ss_rc rfl ?_
      refine zp_wp_call (cx_takeBack hC' (pk_ok_of hzv) p90' l55') ?_
      rintro _ τ ⟨I4, rfl, f4, c4, l4⟩
      rw [hkW] at c4
      refine ss_rc rfl ?_
      refine ss_call (cx_refused (j := 3) (by decide) (by decide)) ?_
      have F4 : zf zk_ox I I4 := zf_trans (F3o I' hf) (zf_mono f4 (fun a k e => by
        simp only [Bool.or_eq_true, Bool.and_eq_true, beq_iff_eq, decide_eq_true_eq] at e
        simp only [zk_ox, zk_dk, Bool.or_eq_true, Bool.and_eq_true, beq_iff_eq, decide_eq_true_eq]
        omega))
      have r4 : ∀ a, a ≠ 3 → a ≠ 4 → (a < 20 ∨ 54 < a) → I4 a = I' a := fun a q1 q2 q3 => zf_row f4 (fun k => by simp [q1, q2]; omega)
      refine ss_ret ⟨_, rfl, zf_u2 (zf_u2 F4 rfl) rfl, ?_, ?_, ?_, (fun h => absurd h (by simp)), fun j hj => ?_⟩
      · rw [zu_r (by decide), zu_r (by decide), r4 96 (by decide) (by decide) (by omega)]; exact e96'
      · rw [zu_a (by decide), zu_a (by decide), r4 95 (by decide) (by decide) (by omega)]; exact e95'
      · rw [zu_a (by decide), zu_k (by decide), r4 0 (by decide) (by decide) (by omega)]; exact e9'
      · cases hj
        refine ⟨rfl, ?_, zr_cl_fr2 (fun a ha => by rw [zu_r (by omega), zu_r (by omega)]) c4, cx_lg_fr (fun k _ => by rw [zu_a (by decide), zu_a (by decide)]) (fun a q1 q2 => by rw [zu_r (by omega), zu_r (by omega)]) l4, an_l (I := I4) (fun k => ?_) (an_ref 0 12 108 (by decide) (by decide) (by decide))⟩
        · rw [zu_a (by decide), zu_k (by decide), r4 0 (by decide) (by decide) (by omega)]; exact h10
        · rw [r4 108 (by decide) (by decide) (by omega)]; exact (e108 k).symm
  -- the turns
  refine zl_g (fun j (_ : od_S) => Int32.ofNat j) 0 cs.length (s0 := s0) rfl (by omega) (by omega) (fun j s' I' => zf zk_o3 I3 I' ∧ zr_cl t I' D s'.1 ∧ cx_lg 20 I' s'.2.1 ∧ I' 1 6 = s'.2.2.1 ∧ I' 1 7 = s'.2.2.2 ∧ od_ok K (20 * j) s' ∧ ((I' 0 10 = -1 ∧ od_all cs 0 s0 = od_all (cs.drop j) j s') ∨ ∃ i, i < 12 ∧ I' 0 10 = Int32.ofNat i ∧ od_all cs 0 s0 = (some i, s'))) ⟨zf_refl _ _, by rw [k1]; exact hC3, by rw [k2]; exact hL3, by rw [k3]; exact b6, by rw [k4]; exact b7, ok0, Or.inl ⟨by rw [r3 0 (by decide) (by omega)]; exact e10, rfl⟩⟩ ?step ?fin
  case fin =>
    rintro s' I' ⟨g1, g2, g3, g4, g5, g6, g7⟩
    have p4 : I' 98 4 = Int32.ofNat cs.length := by
      rw [r3o I' g1 98 (by decide) (by decide) (by decide) (by decide) (by decide) (by decide) (by omega)]; exact hp3.1
    refine ss_gI rfl p4 ?_
    refine ss_iT (zi_leL (by omega) (by omega)) ?_
    refine ss_ret ⟨_, rfl, done s' I' g1 g2 g3 g4 ?_ ?_⟩
    · obtain ⟨z1, z2, z3, ⟨n, hn, z4⟩, z5⟩ := g6
      exact ⟨z1, z2, z3, ⟨n, by omega, z4⟩, z5⟩
    · rcases g7 with ⟨h1, h2⟩ | h
      · refine Or.inl ⟨h1, ?_⟩
        rw [h2, List.drop_length]; rfl
      · exact Or.inr h
  case step =>
    rintro j s' I' - hj ⟨g1, g2, g3, g4, g5, g6, g7⟩
    have p4 : I' 98 4 = Int32.ofNat cs.length := by
      rw [r3o I' g1 98 (by decide) (by decide) (by decide) (by decide) (by decide) (by decide) (by omega)]; exact hp3.1
    refine ss_gI rfl p4 ?_
    refine ss_iF (zi_nle hj (by omega)) ?_
    rcases g7 with ⟨h10, hall⟩ | ⟨i, hi, h10, hall⟩
    · obtain ⟨cl, hcl⟩ : ∃ cl, cs[j]? = some cl := ⟨cs[j], List.getElem?_eq_getElem hj⟩
      have hmem : cl ∈ cs := List.mem_of_getElem? hcl
      obtain ⟨k, n, hk4, ek, hn, en⟩ := hkt cl hmem
      have hix : sf_ix cl.2.1 = n := by rw [en]; exact zi_ixn (by omega)
      have hdrop : cs.drop j = cl :: cs.drop (j + 1) := by
        rw [List.drop_eq_getElem_cons hj]
        congr 1
        rw [List.getElem?_eq_getElem hj] at hcl
        exact Option.some.inj hcl
      have hall2 : od_all cs 0 s0 = if (od_rep cl n s').1 = true then od_all (cs.drop (j + 1)) (j + 1) (od_rep cl n s').2 else (some j, (od_rep cl n s').2) := by
        rw [hall, hdrop]
        show (if (od_rep cl (sf_ix cl.2.1) s').1 = true then _ else _) = _
        rw [hix]
      have hpp : zr_prog I' 98 cs := by
        have e : ∀ x, 97 < x → x < 102 → I' x = I3 x := fun x q1 q2 => r3o I' g1 x (by omega) (by omega) (by omega) (by omega) (by omega) (by omega) (by omega)
        unfold zr_prog zr_cls at hp3 ⊢
        rw [e 98 (by omega) (by omega), e (98 + 1) (by omega) (by omega), e (98 + 2) (by omega) (by omega), e (98 + 3) (by omega) (by omega)]
        exact hp3
      have ok1 := od_rep_ok (cl := cl) n (20 * j) s' g6
      have ok2 : od_ok K (20 * (j + 1)) (od_rep cl n s').2 := by
        obtain ⟨z1, z2, z3, ⟨nn, hnn, z4⟩, z5⟩ := ok1
        exact ⟨z1, z2, z3, ⟨nn, by omega, z4⟩, z5⟩
      refine ss_gI rfl h10 ?_
      refine ss_iT rfl ?_
      refine ss_pt rfl rfl ?_
      refine ss_rc rfl ?_
      refine zp_wp_call (cx_runClause g2 g3 g4 g5 hpp hcl (hcok cl hmem) en hn ek hk4 g6 (by omega)) ?_
      rintro r τ ⟨hr, I4, rfl, f4, c4, l4, b6', b7'⟩
      have F4 : zf zk_o3 I3 I4 := zf_trans g1 (zf_mono f4 (fun a k e => by unfold zk_o3; rw [e]; rfl))
      cases hb : (od_rep cl n s').1 with
      | true =>
        rw [hb] at hr hall2
        refine ss_iF (by rw [hr]; decide) ?_
        refine ss_bret ?_
        refine ss_ret (Or.inl ⟨(od_rep cl n s').2, I4, by rw [zi_s], rfl, F4, c4, l4, b6', b7', ok2, Or.inl ⟨?_, by rw [hall2, if_pos rfl]⟩⟩)
        rw [f4 0 10 rfl]; exact h10
      | false =>
        rw [hb] at hr hall2
        refine ss_iT hr ?_
        refine ss_pI rfl ?_
        refine ss_bret ?_
        refine ss_ret (Or.inl ⟨(od_rep cl n s').2, _, by rw [zi_s], rfl, zf_u2 F4 rfl, zr_cl_fr2 (fun a ha => zu_r (by omega)) c4, cx_lg_fr (fun k _ => zu_a (by decide)) (fun a q1 q2 => zu_r (by omega)) l4, by rw [zu_a (by decide)]; exact b6', by rw [zu_a (by decide)]; exact b7', ok2, Or.inr ⟨j, by omega, zu_eq, by rw [hall2, if_neg (by decide)]⟩⟩)
    · have hne : ¬ Int32.ofNat i = -1 := ofNat_ne_m1 (by omega)
      refine ss_gI rfl h10 ?_
      refine ss_iF hne ?_
      refine ss_ret (Or.inr ⟨_, rfl, done s' I' g1 g2 g3 g4 ?_ (Or.inr ⟨i, hi, h10, hall⟩)⟩)
      obtain ⟨z1, z2, z3, ⟨n, hn, z4⟩, z5⟩ := g6
      exact ⟨z1, z2, z3, ⟨n, by omega, z4⟩, z5⟩
end
