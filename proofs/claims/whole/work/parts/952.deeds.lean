/-! buy, save, pass: what the Desk does, what the model does. -/
abbrev DSp : Type := (Nat → Int32) → lg_L → Int32 × (Nat → Int32) × lg_L
def zk_dk (a _k : Nat) : Bool := (11 < a && a < 20) || a == 3 || a == 4 || (19 < a && a < 55)
def zk_dj (a k : Nat) : Bool := zk_m2 a k || a == 114 || a == 133 || (a == 112 && k == 40)
def DX (f : sf_M Int32) (d : DSp) : Prop := ∀ t I J D K L, zr_cl t I D K → cx_lg 20 I L → zp_wp f (fun r τ => r = (d K L).1 ∧ ∃ I', τ = zp_Z t I' J D ∧ zf zk_dk I I' ∧ zr_cl t I' D (d K L).2.1 ∧ cx_lg 20 I' (d K L).2.2) (zp_Z t I J D)
def DM (g : sf_M Int32) (d : DSp) : Prop := ∀ t I J D K L, I 114 = K → zr_ml K → mx_lg I L → zp_wp g (fun r τ => r = (d K L).1 ∧ ∃ I', τ = zp_Z t I' J D ∧ zf zk_dj I I' ∧ I' 114 = (d K L).2.1 ∧ mx_lg I' (d K L).2.2) (zp_Z t I J D)
def DO (d : DSp) : Prop := ∀ K L, zv K → ar_ok (d K L).1 ∧ (lg_ok L → lg_ok (d K L).2.2) ∧ zv (d K L).2.1 ∧ ∀ i, 195 ≤ i → (d K L).2.1 i = K i
set_option maxRecDepth 20000 in
theorem pk_ok_of {K : Nat → Int32} (h : zv K) : pk_ok K := ⟨h.1, h.2.1, h.2.2.1, h.2.2.2.1⟩
set_option maxRecDepth 20000 in
theorem zv_pk {K K' : Nat → Int32} (h : zv K) (hp : pk_ok K') (hk : ∀ i, 195 ≤ i → K' i = K i) : zv K' := by
  have e : kW K K' = K' := by
    funext i; unfold kW
    by_cases hi : i < 195
    · rw [if_pos hi]
    · rw [if_neg hi, hk i (by omega)]
  rw [← e]; exact zv_kW h hp
section
variable {t : List (Nat × Nat)} {I : Nat → Nat → Int32} {J : Nat → Nat → Int64} {D : Nat → Nat → Option Nat} {K K' : Nat → Int32} {L : lg_L}
set_option maxRecDepth 20000 in
theorem pk_at_of (hO : zr_off I 2 K) : pk_at I 3 K := ⟨hO.1, hO.2.1, hO.2.2.1, hO.2.2.2.1⟩
set_option maxRecDepth 20000 in
theorem zr_cl_pk {I' : Nat → Nat → Int32} (hC : zr_cl t I D K) (hk : ∀ i, 195 ≤ i → K' i = K i) (hA : pk_ok K') (hp : pk_at I' 3 K') (hf : ∀ a, a = 2 ∨ (4 < a ∧ a < 11) ∨ 138 < a → I' a = I a) : zr_cl t I' D K' := by
  have e : kW K K' = K' := by
    funext i; unfold kW
    by_cases hi : i < 195
    · rw [if_pos hi]
    · rw [if_neg hi, hk i (by omega)]
  rw [← e]; exact zr_cl_kW hC hA hp hf
set_option maxRecDepth 20000 in
/-- the log's change leaves the office alone -/
theorem zr_cl_lgf {I' : Nat → Nat → Int32} (hC : zr_cl t I D K) (hf : zf zk_lg I I') : zr_cl t I' D K := zr_cl_fr2 (fun a ha => zf_row hf (fun k => by simp [zk_lg]; omega)) hC
set_option maxRecDepth 20000 in
theorem zk_lg_dk (a k : Nat) (h : zk_lg a k = true) : zk_dk a k = true := by
  simp only [zk_lg, Bool.or_eq_true, Bool.and_eq_true, beq_iff_eq, decide_eq_true_eq] at h
  simp [zk_dk]; omega
set_option maxRecDepth 20000 in
theorem zk_ml_dj (a k : Nat) (h : zk_ml a k = true) : zk_dj a k = true := by
  simp only [zk_ml, Bool.or_eq_true, Bool.and_eq_true, beq_iff_eq] at h
  rcases h with h | ⟨h, h'⟩ <;> simp [zk_dj, h, *]
set_option maxRecDepth 20000 in
theorem zk_x1_dk (a k : Nat) (h : zk_x1 a k = true) : zk_dk a k = true := by
  simp only [zk_x1, Bool.or_eq_true, beq_iff_eq] at h
  simp [zk_dk]; omega
set_option maxRecDepth 20000 in
theorem zk_m1_dj (a k : Nat) (h : zk_m1 a k = true) : zk_dj a k = true := by
  unfold zk_dj zk_m2; rw [h]; rfl
/-! save -/
def sp_save (n : Int32) : DSp := fun K L => if zs_in 1 n 9999 = true then ((if K 193 + n < 99999 then K 193 + n else 99999), kS K 193 (if K 193 + n < 99999 then K 193 + n else 99999), lg_push L (2, K)) else (-1, K, L)
set_option maxRecDepth 20000 in
theorem save_rng (hv : zv K) {n : Int32} (hn : zs_in 1 n 9999 = true) : 0 ≤ (if K 193 + n < 99999 then K 193 + n else 99999) ∧ (if K 193 + n < 99999 then K 193 + n else 99999) ≤ 99999 := by
  obtain ⟨h1, h2⟩ := hv.2.2.1
  rw [zs_inT] at hn
  obtain ⟨h3, h4⟩ := hn
  split
  · constructor <;> (simp only [Int32.le_iff_toInt_le, Int32.lt_iff_toInt_lt, ← Int32.toInt_inj, Int32.toInt_ofNat', Int32.reduceToInt, zi_ix, Int32.toInt_add, Int32.toInt_sub, Int32.toInt_mul, Int32.toInt_neg, zi_bm, zi_bms, zp_in] at *; omega)
  · decide
set_option maxRecDepth 20000 in
theorem pk_193 (h : pk_ok K) {v : Int32} (hv : 0 ≤ v ∧ v ≤ 99999) : pk_ok (kS K 193 v) := ⟨fun i hi => by rw [kS_n (by omega)]; exact h.1 i hi, by rw [kS_n (by omega)]; exact h.2.1, by rw [kS_e]; exact hv, by rw [kS_n (by omega)]; exact h.2.2.2⟩
set_option maxRecDepth 20000 in
theorem DO_save (n : Int32) : DO (sp_save n) := by
  intro K L hv
  unfold sp_save
  split
  · next h =>
    have hr := save_rng hv h
    refine ⟨Or.inl hr.1, fun hl => lg_push_ok hl ⟨⟨2, by decide, rfl⟩, pk_ok_of hv⟩, zv_pk hv (pk_193 (pk_ok_of hv) hr) (fun i hi => kS_n (by omega)), fun i hi => kS_n (by omega)⟩
  · exact ⟨ar_neg 1 (by decide) (by decide), fun hl => hl, hv, fun i hi => rfl⟩
set_option maxRecDepth 20000 in
theorem DX_save (n : Int32) : DX (jx_Desk_savePence (some 1) n) (sp_save n) := by
  intro t I J D K L hC hL
  unfold jx_Desk_savePence sp_save
  by_cases c1 : n < 1
  · have hb : ¬ zs_in 1 n 9999 = true := by rw [zs_inF.mpr (Or.inl c1)]; decide
    rw [if_neg hb]
    refine ss_iT c1 (ss_ret ⟨rfl, I, rfl, zf_refl _ _, hC, hL⟩)
  by_cases c2 : n ≤ 9999
  · have hb : zs_in 1 n 9999 = true := zs_inT.mpr ⟨by (simp only [Int32.le_iff_toInt_le, Int32.lt_iff_toInt_lt, ← Int32.toInt_inj, Int32.toInt_ofNat', Int32.reduceToInt, zi_ix, Int32.toInt_add, Int32.toInt_sub, Int32.toInt_mul, Int32.toInt_neg, zi_bm, zi_bms, zp_in] at *; omega), c2⟩
    rw [if_pos hb]
    refine ss_iF c1 (ss_iT c2 ?_)
    refine ss_pt rfl rfl ?_
    refine ss_pt rfl rfl ?_
    refine ss_pt rfl rfl ?_
    refine ss_rc rfl ?_
    refine zp_wp_call (cx_push (c := 2) hL (pk_at_of hC.1)) ?_
    rintro _ τ ⟨I1, rfl, f1, l1⟩
    have hC1 := zr_cl_lgf hC f1
    have k193 : I1 3 1 = K 193 := hC1.1.2.2.1
    have hm := ze_min 99999 (K 193 + n)
    refine ss_pt rfl rfl ?_
    refine ss_pt rfl rfl ?_
    refine ss_pt rfl rfl ?_
    refine ss_pt rfl rfl ?_
    refine ss_gI rfl k193 ?_
    refine ss_pure hm ?_
    refine ss_pI rfl ?_
    refine ss_pt rfl rfl ?_
    refine ss_pt rfl rfl ?_
    refine ss_gI rfl zu_eq ?_
    have hr := save_rng hC.2.1 hb
    refine ss_ret ⟨rfl, _, rfl, zf_u2 (zf_mono f1 zk_lg_dk) rfl, ?_, cx_lg_fr (fun k _ => zu_a (by decide)) (fun a q1 q2 => zu_r (by omega)) l1⟩
    refine zr_cl_pk hC1 (fun i hi => kS_n (by omega)) (pk_193 (pk_ok_of hC.2.1) hr) ?_ (fun a ha => zu_r (by omega))
    obtain ⟨p1, p2, p3, p4⟩ := pk_at_of hC1.1
    show pk_at _ 3 (kS K 193 _)
    exact ⟨fun i hi => by rw [zu_a (by decide), kS_n (by omega)]; exact p1 i hi, by rw [zu_k (by decide), kS_n (by omega)]; exact p2, by rw [zu_eq, kS_e], by rw [zu_k (by decide), kS_n (by omega)]; exact p4⟩
  · have hb : ¬ zs_in 1 n 9999 = true := by rw [zs_inF.mpr (Or.inr (by (simp only [Int32.le_iff_toInt_le, Int32.lt_iff_toInt_lt, ← Int32.toInt_inj, Int32.toInt_ofNat', Int32.reduceToInt, zi_ix, Int32.toInt_add, Int32.toInt_sub, Int32.toInt_mul, Int32.toInt_neg, zi_bm, zi_bms, zp_in] at *; omega)))]; decide
    rw [if_neg hb]
    refine ss_iF c1 (ss_iF c2 (ss_ret ⟨rfl, I, rfl, zf_refl _ _, hC, hL⟩))
set_option maxRecDepth 20000 in
theorem DM_save (n : Int32) : DM (jx_Mo_savesKept (some 112) n) (sp_save n) := by
  intro t I J D K L hK hM hL
  have hl := ze_lies n 1 9999
  unfold jx_Mo_savesKept sp_save
  refine ss_pure hl ?_
  cases hx : zs_in 1 n 9999 with
  | false =>
    refine ss_iT rfl (ss_ret ⟨rfl, I, rfl, zf_refl _ _, hK, hL⟩)
  | true =>
    refine ss_iF (by decide) ?_
    refine ss_rc rfl ?_
    refine zp_wp_call (mx_keeps (c := 2) hK hL) ?_
    rintro _ τ ⟨I1, rfl, f1, l1⟩
    have e114 : I1 114 = K := by rw [zf_row f1 (fun k => rfl)]; exact hK
    have k193 : I1 114 193 = K 193 := by rw [e114]
    have hm := ze_lesser 99999 (K 193 + n)
    refine ss_pt rfl rfl ?_
    refine ss_pt rfl rfl ?_
    refine ss_aI rfl rfl (by decide) (by decide) k193 ?_
    refine ss_pure hm ?_
    refine ss_sI rfl rfl (by decide) (by decide) ?_
    refine ss_pt rfl rfl ?_
    refine ss_aI rfl rfl (by decide) (by decide) zu_eq ?_
    refine ss_ret ⟨rfl, _, rfl, zf_u2 (zf_mono f1 zk_ml_dj) rfl, kS_u e114, mx_lg_fr (zu_a (by decide)) (zu_r (by decide)) l1⟩
/-! pass -/
def kP (K : Nat → Int32) : Nat → Int32 := fun i => if 128 ≤ i ∧ i < 192 then 0 else if i = 194 then K 194 + 1 else K i
def sp_pass : DSp := fun K L => if K 194 = 999 then (-3, K, L) else (hsm (fun i => K (128 + i)) 64, kP K, lg_push L (3, K))
set_option maxRecDepth 20000 in
theorem hsm_rng {S : Nat → Int32} : ∀ n, (∀ i, i < n → 0 ≤ S i ∧ S i ≤ 9) → n < 200 → ∃ m, m ≤ 9 * n ∧ hsm S n = Int32.ofNat m
  | 0, _, _ => ⟨0, by omega, rfl⟩
  | n + 1, h, hn => by
    obtain ⟨m, hm, e⟩ := hsm_rng n (fun i hi => h i (by omega)) (by omega)
    obtain ⟨r, hr, er⟩ := zi_rng (n := 9) (h n (by omega)).1 (h n (by omega)).2 (by omega)
    exact ⟨m + r, by omega, by show hsm S n + S n = _; rw [e, er]; exact zi_add m r⟩
set_option maxRecDepth 20000 in
theorem pk_kP (h : pk_ok K) (h9 : ¬ K 194 = 999) : pk_ok (kP K) := by
  refine ⟨fun i hi => ?_, ?_, ?_, ?_⟩
  · unfold kP
    by_cases c : 128 ≤ i ∧ i < 192
    · rw [if_pos c]; decide
    · rw [if_neg c, if_neg (by omega)]; exact h.1 i hi
  · exact h.2.1
  · exact h.2.2.1
  · show 0 ≤ K 194 + 1 ∧ K 194 + 1 ≤ 999
    obtain ⟨a, b⟩ := h.2.2.2
    have : K 194 ≠ 999 := h9
    constructor <;> (simp only [Int32.le_iff_toInt_le, Int32.lt_iff_toInt_lt, ← Int32.toInt_inj, Int32.toInt_ofNat', Int32.reduceToInt, zi_ix, Int32.toInt_add, Int32.toInt_sub, Int32.toInt_mul, Int32.toInt_neg, zi_bm, zi_bms, zp_in] at *; omega)
set_option maxRecDepth 20000 in
theorem kP_hi {i : Nat} (hi : 195 ≤ i) : kP K i = K i := by unfold kP; rw [if_neg (by omega), if_neg (by omega)]
set_option maxRecDepth 20000 in
theorem DO_pass : DO sp_pass := by
  intro K L hv
  unfold sp_pass
  split
  · exact ⟨ar_neg 3 (by decide) (by decide), fun hl => hl, hv, fun i hi => rfl⟩
  · next h =>
    obtain ⟨m, hm, e⟩ := hsm_rng (S := fun i => K (128 + i)) 64 (fun i hi => hv.1 _ (by omega)) (by omega)
    refine ⟨Or.inl ?_, fun hl => lg_push_ok hl ⟨⟨3, by decide, rfl⟩, pk_ok_of hv⟩, zv_pk hv (pk_kP (pk_ok_of hv) h) (fun i hi => kP_hi hi), fun i hi => kP_hi hi⟩
    show 0 ≤ hsm _ 64
    rw [e]; exact zi_leL (a := 0) (by omega) (by omega)
set_option maxRecDepth 20000 in
theorem DX_pass : DX (jx_Desk_passDay (some 1)) sp_pass := by
  intro t I J D K L hC hL
  have k194 : I 3 3 = K 194 := hC.1.2.2.2.1
  have hr := hC.2.1.2.2.2.1
  unfold jx_Desk_passDay
  refine ss_pt rfl rfl ?_
  refine ss_pt rfl rfl ?_
  refine ss_gI rfl k194 ?_
  by_cases h : K 194 = 999
  · have eS : sp_pass K L = (-3, K, L) := if_pos h
    rw [eS]
    have c1 : ¬ K 194 < 999 := by rw [h]; decide
    refine ss_iF c1 (ss_ret ⟨rfl, I, rfl, zf_refl _ _, hC, hL⟩)
  · have eS : sp_pass K L = (hsm (fun i => K (128 + i)) 64, kP K, lg_push L (3, K)) := if_neg h
    rw [eS]
    have c1 : K 194 < 999 := by
      have : K 194 ≠ 999 := h
      (simp only [Int32.le_iff_toInt_le, Int32.lt_iff_toInt_lt, ← Int32.toInt_inj, Int32.toInt_ofNat', Int32.reduceToInt, zi_ix, Int32.toInt_add, Int32.toInt_sub, Int32.toInt_mul, Int32.toInt_neg, zi_bm, zi_bms, zp_in] at *; omega)
    refine ss_iT c1 ?_
    refine ss_pt rfl rfl ?_
    refine ss_pt rfl rfl ?_
    refine ss_pt rfl rfl ?_
    refine ss_rc rfl ?_
    refine zp_wp_call (cx_push (c := 3) hL (pk_at_of hC.1)) ?_
    rintro _ τ ⟨I1, rfl, f1, l1⟩
    have hC1 := zr_cl_lgf hC f1
    have k194' : I1 3 3 = K 194 := hC1.1.2.2.2.1
    have k4 : ∀ i, i < 192 → I1 4 i = K i := hC1.1.1
    refine ss_pt rfl rfl ?_
    refine ss_pt rfl rfl ?_
    refine ss_gI rfl k194' ?_
    refine ss_pI rfl ?_
    refine ss_pt rfl rfl ?_
    refine ss_pt rfl rfl ?_
    refine ss_rc rfl ?_
    unfold jx_Pocket_dropHalves
    refine ss_as ?_
    refine zl_g (fun i (s : Int32) => (s, Int32.ofNat (128 + i))) 0 64 (s0 := 0) rfl (by omega) (by omega) (fun i s I' => zf (fun a _ => a == 4) (sf_u2 I1 3 3 (K 194 + 1)) I' ∧ s = hsm (fun i => K (128 + i)) i ∧ (∀ k, k < 192 → ¬ (128 ≤ k ∧ k < 128 + i) → I' 4 k = K k) ∧ ∀ k, 128 ≤ k → k < 128 + i → I' 4 k = 0) ⟨zf_refl _ _, rfl, fun k hk _ => by rw [zu_a (by decide)]; exact k4 k hk, fun k h1 h2 => absurd h2 (by omega)⟩ ?step ?fin
    case step =>
      rintro i s I' - hi ⟨g, rfl, r1, r2⟩
      have n1 : ¬ Int32.ofNat 192 ≤ Int32.ofNat (128 + i) := zi_nle (by omega) (by omega)
      have a1 : I' 4 (128 + i) = K (128 + i) := r1 _ (by omega) (by omega)
      have l1 : 128 + i < 192 := by omega
      refine ss_pt rfl rfl ?_
      refine ss_len rfl (by decide) ?_
      refine ss_iF n1 ?_
      refine ss_pt rfl rfl ?_
      refine ss_aI rfl rfl l1 (by decide) a1 ?_
      refine ss_bret ?_
      refine ss_pt rfl rfl ?_
      refine ss_sI rfl rfl l1 (by decide) ?_
      refine ss_bret ?_
      refine ss_ret (Or.inl ⟨hsm (fun i => K (128 + i)) (i + 1), _, by rw [zi_s]; rfl, rfl, zf_u2 g rfl, rfl, fun k hk hn => ?_, fun k h1 h2 => ?_⟩)
      · rw [zu_k (by omega)]; exact r1 k hk (by omega)
      · by_cases e : k = 128 + i
        · subst e; exact zu_eq
        · rw [zu_k e]; exact r2 k h1 (by omega)
    case fin =>
      rintro s I' ⟨g, rfl, r1, r2⟩
      have n1 : Int32.ofNat 192 ≤ Int32.ofNat (128 + 64) := by decide
      refine ss_pt rfl rfl ?_
      refine ss_len rfl (by decide) ?_
      refine ss_iT n1 ?_
      refine ss_ret ⟨_, rfl, ?_⟩
      refine ss_bret ?_
      refine ss_ret ⟨rfl, I', rfl, ?_, ?_, ?_⟩
      · refine zf_trans (zf_u2 (zf_mono f1 zk_lg_dk) rfl) (zf_mono g (fun a k e => ?_))
        simp only [beq_iff_eq] at e; simp [zk_dk, e]
      · refine zr_cl_pk hC1 (fun i hi => kP_hi hi) (pk_kP (pk_ok_of hC.2.1) h) ?_ (fun a ha => ?_)
        · obtain ⟨p1, p2, p3, p4⟩ := pk_at_of hC1.1
          show pk_at I' 3 (kP K)
          refine ⟨fun i hi => ?_, ?_, ?_, ?_⟩
          · unfold kP
            by_cases c : 128 ≤ i ∧ i < 192
            · rw [if_pos c]; exact r2 i c.1 (by omega)
            · rw [if_neg c, if_neg (by omega)]; exact r1 i hi (by omega)
          · rw [g 3 2 rfl, zu_k (by decide)]; exact p2
          · rw [g 3 1 rfl, zu_k (by decide)]; exact p3
          · rw [g 3 3 rfl, zu_eq]; rfl
        · rw [zf_row g (fun k => by simp; omega), zu_r (by omega)]
      · exact cx_lg_fr (fun k _ => by rw [g 20 k rfl, zu_a (by decide)]) (fun a q1 q2 => by rw [zf_row g (fun k => by simp; omega), zu_r (by omega)]) l1
set_option maxRecDepth 20000 in
theorem DM_pass : DM (jx_Mo_passesKept (some 112)) sp_pass := by
  intro t I J D K L hK hM hL
  have k194 : I 114 194 = K 194 := by rw [hK]
  unfold jx_Mo_passesKept
  refine ss_pt rfl rfl ?_
  refine ss_aI rfl rfl (by decide) (by decide) k194 ?_
  by_cases h : K 194 = 999
  · have eS : sp_pass K L = (-3, K, L) := if_pos h
    rw [eS]
    refine ss_iT h (ss_ret ⟨rfl, I, rfl, zf_refl _ _, hK, hL⟩)
  · have eS : sp_pass K L = (hsm (fun i => K (128 + i)) 64, kP K, lg_push L (3, K)) := if_neg h
    rw [eS]
    refine ss_iF h ?_
    refine ss_rc rfl ?_
    refine zp_wp_call (mx_keeps (c := 3) hK hL) ?_
    rintro _ τ ⟨I1, rfl, f1, l1⟩
    have e114 : I1 114 = K := by rw [zf_row f1 (fun k => rfl)]; exact hK
    refine ss_rc rfl ?_
    unfold jx_Mo_dayPasses
    refine ss_as ?_
    refine ss_rc rfl ?_
    unfold jx_Mo_heldOf
    refine ss_as ?_
    refine ss_bret ?_
    refine ss_as ?_
    refine zl_g (fun i (s : Int32) => (s, Int32.ofNat (128 + i))) 0 64 (s0 := 0) rfl (by omega) (by omega) (fun i s I' => I' = I1 ∧ s = hsm (fun i => K (128 + i)) i) ⟨rfl, rfl⟩ ?step ?fin
    case step =>
      rintro i s I' - hi ⟨rfl, rfl⟩
      have n1 : ¬ ((64 : Int32) * ((2 : Int32) + (1 : Int32))) ≤ Int32.ofNat (128 + i) := zi_nle (a := 192) (b := 128 + i) (by omega) (by omega)
      have a1 : I' 114 (128 + i) = K (128 + i) := by rw [e114]
      have l2 : 128 + i < 5838 := by omega
      have l3 : (0 : Int32) + Int32.ofNat (128 + i) = Int32.ofNat (128 + i) := Int32.zero_add _
      refine ss_iF n1 ?_
      refine ss_pt rfl rfl ?_
      refine ss_aI rfl l3 l2 (by decide) a1 ?_
      refine ss_bret ?_
      refine ss_bret ?_
      exact ss_ret (Or.inl ⟨hsm (fun i => K (128 + i)) (i + 1), I', by rw [zi_s]; rfl, rfl, rfl, rfl⟩)
    case fin =>
      rintro s I' ⟨rfl, rfl⟩
      have n1 : ((64 : Int32) * ((2 : Int32) + (1 : Int32))) ≤ Int32.ofNat (128 + 64) := by decide
      refine ss_iT n1 ?_
      refine ss_ret ⟨_, rfl, ?_⟩
      refine ss_bret ?_
      refine ss_as ?_
      refine zl_g (fun i (_ : Unit) => Int32.ofNat i) 0 64 (s0 := ()) rfl (by omega) (by omega) (fun i _ I2 => zf (fun a _ => a == 114) I' I2 ∧ I2 114 = fun k => if 128 ≤ k ∧ k < 128 + i then 0 else K k) ⟨zf_refl _ _, by rw [e114]; funext k; rw [if_neg (by omega)]⟩ ?step ?fin
      case step =>
        rintro i s I2 - hi ⟨g, r1⟩
        have n1 : ¬ (64 : Int32) ≤ Int32.ofNat i := zi_nle (a := 64) hi (by omega)
        have l2 : 128 + i < 5838 := by omega
        refine ss_iF n1 ?_
        refine ss_pt rfl rfl ?_
        refine ss_sI rfl (zi_add 128 i) l2 (by decide) ?_
        refine ss_bret ?_
        refine ss_ret (Or.inl ⟨(), _, by rw [zi_s], rfl, zf_u2 g rfl, ?_⟩)
        rw [kS_u r1]
        funext k
        unfold kS
        by_cases e : k = 128 + i
        · rw [if_pos e, if_pos (by omega)]
        · rw [if_neg e]
          show (if 128 ≤ k ∧ k < 128 + i then (0 : Int32) else K k) = _
          by_cases e2 : 128 ≤ k ∧ k < 128 + i
          · rw [if_pos e2, if_pos (by omega)]
          · rw [if_neg e2, if_neg (by omega)]
      case fin =>
        rintro s I2 ⟨g, r1⟩
        have n1 : (64 : Int32) ≤ Int32.ofNat 64 := by decide
        have k194' : I2 114 194 = K 194 := by rw [r1]; rfl
        refine ss_iT n1 ?_
        refine ss_ret ⟨_, rfl, ?_⟩
        refine ss_as ?_
        refine ss_pt rfl rfl ?_
        refine ss_as ?_
        refine ss_aI rfl rfl (by decide) (by decide) k194' ?_
        refine ss_as ?_
        refine ss_sI rfl rfl (by decide) (by decide) ?_
        refine ss_bret ?_
        refine ss_ret ⟨rfl, _, rfl, zf_u2 (zf_trans (zf_mono f1 zk_ml_dj) (zf_mono g (fun a k e => by simp only [beq_iff_eq] at e; simp [zk_dj, e]))) rfl, ?_, mx_lg_fr ?_ ?_ l1⟩
        · rw [kS_u r1]
          show _ = kP K
          funext k
          unfold kS kP
          by_cases e : k = 194
          · subst e; rfl
          · rw [if_neg e]
            show (if 128 ≤ k ∧ k < 128 + 64 then (0 : Int32) else K k) = _
            by_cases e2 : 128 ≤ k ∧ k < 192
            · rw [if_pos (by omega), if_pos e2]
            · rw [if_neg (by omega), if_neg e2, if_neg e]
        · rw [zu_a (by decide)]; exact g 112 40 rfl
        · rw [zu_r (by decide)]; exact zf_row g (fun k => rfl)
end
