/-! What is laid aside, and taken back. -/
def lg_is (t : List (Nat × Nat)) (D : Nat → Nat → Option Nat) (b : Nat) : Prop := (zp_sh0 ++ t).getD b (999, 0) = (12, 4) ∧ zp_rfs D b 0 = some (b + 1) ∧ zp_rfs D b 1 = some (b + 2) ∧ (zp_sh0 ++ t).getD (b + 1) (999, 0) = (4, 16) ∧ (zp_sh0 ++ t).getD (b + 2) (999, 0) = (0, 16) ∧ ∀ j, j < 16 → zp_rfs D (b + 1) j = some (b + 3 + 2 * j) ∧ pk_is t D (b + 3 + 2 * j)
set_option maxRecDepth 20000 in
theorem lg_is_20 {t : List (Nat × Nat)} {D : Nat → Nat → Option Nat} : lg_is t D 20 := ⟨rfl, rfl, rfl, rfl, rfl, fun j hj => ⟨rfs_pt (pt_slot j hj).1, pk_is_slot hj⟩⟩
set_option maxRecDepth 20000 in
theorem lg_is_55 {t : List (Nat × Nat)} {D : Nat → Nat → Option Nat} : lg_is t D 55 := ⟨rfl, rfl, rfl, rfl, rfl, fun j hj => ⟨rfs_pt (pt_slot j hj).2.2.1, pk_is_slot2 hj⟩⟩
/-- the Pocket at a, read as a row -/
def rdP (I : Nat → Nat → Int32) (a : Nat) : Nat → Int32 := fun k => if k < 192 then I (a + 1) k else if k = 192 then I a 2 else if k = 193 then I a 1 else I a 3
set_option maxRecDepth 20000 in
theorem pk_rdP {I : Nat → Nat → Int32} {a : Nat} : pk_at I a (rdP I a) := ⟨fun i hi => by unfold rdP; rw [if_pos hi], rfl, rfl, rfl⟩
set_option maxRecDepth 20000 in
theorem pk_rdP' {I I' : Nat → Nat → Int32} {a b : Nat} {K : Nat → Int32} (h : pk_at I a K) (h' : pk_at I' b (rdP I a)) : pk_at I' b K := by
  obtain ⟨p1, p2, p3, p4⟩ := h
  obtain ⟨q1, q2, q3, q4⟩ := h'
  refine ⟨fun i hi => ?_, ?_, ?_, ?_⟩
  · rw [q1 i hi]; unfold rdP; rw [if_pos hi]; exact p1 i hi
  · rw [q2]; exact p2
  · rw [q3]; exact p3
  · rw [q4]; exact p4
section
variable {t : List (Nat × Nat)} {I : Nat → Nat → Int32} {J : Nat → Nat → Int64} {D : Nat → Nat → Option Nat} {K K' : Nat → Int32} {L : lg_L}
def zk_lb (b a _k : Nat) : Bool := decide (b ≤ a) && decide (a < b + 35)
set_option maxRecDepth 20000 in
theorem cx_copyL {a b : Nat} (ha : lg_is t D a) (hb : lg_is t D b) (hab : a + 35 ≤ b ∨ b + 35 ≤ a) (hL : cx_lg a I L) : zp_wp (jx_Log_copyFrom (some b) (some a)) (fun _ τ => ∃ I', τ = zp_Z t I' J D ∧ zf (zk_lb b) I I' ∧ cx_lg b I' L) (zp_Z t I J D) := by
  obtain ⟨a1, a2, a3, a4, a5, a6⟩ := ha
  obtain ⟨b1, b2, b3, b4, b5, b6⟩ := hb
  have mk : ∀ x k, b ≤ x → x < b + 35 → zk_lb b x k = true := fun x k h1 h2 => by simp [zk_lb, h1, h2]
  have mn : ∀ x k, x < b ∨ b + 35 ≤ x → zk_lb b x k = false := fun x k h => by simp [zk_lb]; omega
  unfold jx_Log_copyFrom
  refine zl_g (fun i (_ : Unit) => Int32.ofNat i) 0 16 (s0 := ()) rfl (by omega) (by omega) (fun i _ I' => zf (zk_lb b) I I' ∧ ∀ j, j < i → I' (b + 2) j = I (a + 2) j ∧ ∀ K, pk_at I (a + 3 + 2 * j) K → pk_at I' (b + 3 + 2 * j) K) ⟨zf_refl _ _, fun j hj => absurd hj (by omega)⟩ ?step ?fin
  case step =>
    rintro i s I' - hi ⟨f1, r1⟩
    have n1 : ¬ (16 : Int32) ≤ Int32.ofNat i := zi_nle (a := 16) hi (by omega)
    have hfa : ∀ x, a ≤ x → x < a + 35 → I' x = I x := fun x h1 h2 => zf_row f1 (fun k => mn x k (by omega))
    refine ss_iF n1 ?_
    refine ss_gR b1 b2 ?_
    refine ss_aR (n := 16) b4 rfl hi (by decide) (b6 i hi).1 ?_
    refine ss_gR a1 a2 ?_
    refine ss_aR (n := 16) a4 rfl hi (by decide) (a6 i hi).1 ?_
    refine ss_biF (by simp) ?_
    refine ss_biF (by simp) ?_
    refine ss_as ?_
    refine ss_rc (b6 i hi).2.1 ?_
    refine zp_wp_call (cx_copyP (a6 i hi).2 (b6 i hi).2 (by omega) (by omega) (by omega) pk_rdP) ?_
    rintro _ τ ⟨I2, rfl, f2, p2⟩
    have hz : ∀ x, x < b + 3 + 2 * i ∨ b + 4 + 2 * i < x → I2 x = I' x := fun x hx => zf_row f2 (fun k => by simp [zk_pk]; omega)
    have v1 : I2 (a + 2) i = I (a + 2) i := by rw [hz _ (by omega), hfa _ (by omega) (by omega)]
    refine ss_bret ?_
    refine ss_gR b1 b3 ?_
    refine ss_gR a1 a3 ?_
    refine ss_aI (n := 16) a5 rfl hi (by decide) v1 ?_
    refine ss_sI (n := 16) b5 rfl hi (by decide) ?_
    refine ss_bret ?_
    refine ss_ret (Or.inl ⟨(), _, by rw [zi_s], rfl, zf_u2 (zf_trans f1 (zf_mono f2 (fun x k e => ?_))) (mk _ _ (by omega) (by omega)), fun j hj => ⟨?_, fun K hK => ?_⟩⟩)
    · simp only [zk_pk, Bool.or_eq_true, Bool.and_eq_true, beq_iff_eq] at e
      exact mk x k (by omega) (by omega)
    · by_cases e : j = i
      · subst e; exact zu_eq
      · rw [zu_k e, hz _ (by omega)]; exact (r1 j (by omega)).1
    · by_cases e : j = i
      · subst e
        refine pk_fr (zu_r (by omega)) (zu_r (by omega)) (pk_rdP' ?_ p2)
        exact pk_fr (hfa _ (by omega) (by omega)) (hfa _ (by omega) (by omega)) hK
      · refine pk_fr ?_ ?_ ((r1 j (by omega)).2 K hK)
        · rw [zu_r (by omega), hz _ (by omega)]
        · rw [zu_r (by omega), hz _ (by omega)]
  case fin =>
    rintro s I' ⟨f1, r1⟩
    obtain ⟨h16, h3, f, hf, h2, he⟩ := hL
    have n1 : (16 : Int32) ≤ Int32.ofNat 16 := by decide
    have v2 : I' a 2 = Int32.ofNat f := by rw [f1 a 2 (mn a 2 (by omega))]; exact h2
    have v3 : sf_u2 I' b 2 (Int32.ofNat f) a 3 = Int32.ofNat L.length := by rw [zu_a (by omega), f1 a 3 (mn a 3 (by omega))]; exact h3
    refine ss_iT n1 ?_
    refine ss_ret ⟨_, rfl, ?_⟩
    refine ss_gI a1 v2 ?_
    refine ss_pI b1 ?_
    refine ss_gI a1 v3 ?_
    refine ss_pI b1 ?_
    refine ss_ret ⟨_, rfl, zf_u2 (zf_u2 f1 (mk _ _ (by omega) (by omega))) (mk _ _ (by omega) (by omega)), h16, zu_eq, f, hf, by rw [zu_k (by decide), zu_eq], fun i e hi => ?_⟩
    obtain ⟨e1, e2⟩ := he i e hi
    have hm : (f + i) % 16 < 16 := Nat.mod_lt _ (by decide)
    have hr : ∀ x, x ≠ b → sf_u2 (sf_u2 I' b 2 (Int32.ofNat f)) b 3 (Int32.ofNat L.length) x = I' x := fun x hx => by rw [zu_r hx, zu_r hx]
    obtain ⟨r2, r3⟩ := r1 _ hm
    exact ⟨by rw [hr _ (by omega), r2]; exact e1, pk_fr (hr _ (by omega)) (hr _ (by omega)) (r3 _ e2)⟩
set_option maxRecDepth 20000 in
/-- the class lays aside -/
theorem cx_begin (hp : pk_at I 3 K) (hL : cx_lg 20 I L) : zp_wp (jx_Desk_begin (some 1)) (fun _ τ => ∃ I', τ = zp_Z t I' J D ∧ zf (fun a k => (54 < a && a < 92) || (a == 1 && (k == 6 || k == 7))) I I' ∧ pk_at I' 90 K ∧ cx_lg 55 I' L ∧ I' 1 6 = 0 ∧ I' 1 7 = -1) (zp_Z t I J D) := by
  unfold jx_Desk_begin
  refine ss_pt rfl rfl ?_
  refine ss_pt rfl rfl ?_
  refine ss_pt rfl rfl ?_
  refine ss_rc rfl ?_
  refine zp_wp_call (cx_copyP pk_is_3 pk_is_90 (by omega) (by omega) (by omega) hp) ?_
  rintro _ τ ⟨I1, rfl, f1, p1⟩
  have hL1 : cx_lg 20 I1 L := cx_lg_fr (fun k _ => f1 20 k rfl) (fun x h1 h2 => zf_row f1 (fun k => by simp [zk_pk]; omega)) hL
  refine ss_pt rfl rfl ?_
  refine ss_pt rfl rfl ?_
  refine ss_rc rfl ?_
  refine zp_wp_call (cx_copyL lg_is_20 lg_is_55 (by omega) hL1) ?_
  rintro _ τ ⟨I2, rfl, f2, l2⟩
  refine ss_pI rfl ?_
  refine ss_pI rfl ?_
  refine ss_ret ⟨_, rfl, zf_u2 (zf_u2 (zf_trans (zf_mono f1 ?_) (zf_mono f2 ?_)) rfl) rfl, ?_, ?_, ?_, zu_eq⟩
  · intro a k e
    simp only [zk_pk, Bool.or_eq_true, Bool.and_eq_true, beq_iff_eq] at e
    have : 54 < a ∧ a < 92 := by omega
    simp [this]
  · intro a k e
    simp only [zk_lb, Bool.and_eq_true, decide_eq_true_eq] at e
    have : 54 < a ∧ a < 92 := by omega
    simp [this]
  · refine pk_fr ?_ ?_ p1
    · rw [zu_r (by decide), zu_r (by decide)]; exact zf_row f2 (fun k => rfl)
    · rw [zu_r (by decide), zu_r (by decide)]; exact zf_row f2 (fun k => rfl)
  · exact cx_lg_fr (fun k _ => by rw [zu_a (by decide), zu_a (by decide)]) (fun x h1 h2 => by rw [zu_r (by omega), zu_r (by omega)]) l2
  · rw [zu_k (by decide), zu_eq]
set_option maxRecDepth 20000 in
theorem cx_takeBack {A : Nat → Int32} (hC : zr_cl t I D K) (hA : pk_ok A) (hp : pk_at I 90 A) (hL : cx_lg 55 I L) : zp_wp (jx_Desk_takeBack (some 1)) (fun _ τ => ∃ I', τ = zp_Z t I' J D ∧ zf (fun a _ => a == 3 || a == 4 || (19 < a && a < 55)) I I' ∧ zr_cl t I' D (kW K A) ∧ cx_lg 20 I' L) (zp_Z t I J D) := by
  unfold jx_Desk_takeBack
  refine ss_pt rfl rfl ?_
  refine ss_pt rfl rfl ?_
  refine ss_pt rfl rfl ?_
  refine ss_rc rfl ?_
  refine zp_wp_call (cx_copyP pk_is_90 pk_is_3 (by omega) (by omega) (by omega) hp) ?_
  rintro _ τ ⟨I1, rfl, f1, p1⟩
  have hL1 : cx_lg 55 I1 L := cx_lg_fr (fun k _ => f1 55 k rfl) (fun x h1 h2 => zf_row f1 (fun k => by simp [zk_pk]; omega)) hL
  have hC1 : zr_cl t I1 D (kW K A) := zr_cl_kW hC hA p1 (fun a ha => zf_row f1 (fun k => by simp [zk_pk]; omega))
  refine ss_pt rfl rfl ?_
  refine ss_pt rfl rfl ?_
  refine ss_rc rfl ?_
  refine zp_wp_call (cx_copyL lg_is_55 lg_is_20 (by omega) hL1) ?_
  rintro _ τ ⟨I2, rfl, f2, l2⟩
  refine ss_ret ⟨I2, rfl, zf_trans (zf_mono f1 ?_) (zf_mono f2 ?_), zr_cl_fr2 (fun a ha => zf_row f2 (fun k => by simp [zk_lb]; omega)) hC1, l2⟩
  · intro a k e
    simp only [zk_pk, Bool.or_eq_true, Bool.and_eq_true, beq_iff_eq] at e
    simp; omega
  · intro a k e
    simp only [zk_lb, Bool.and_eq_true, decide_eq_true_eq] at e
    simp; omega
set_option maxRecDepth 20000 in
/-- the model lays aside -/
theorem mx_laysAside (hK : I 114 = K) {c : Nat} (hc : c < 2) : zp_wp (jx_Mo_laysAside (some 112) (Int32.ofNat c)) (fun _ τ => ∃ I', τ = zp_Z t I' J D ∧ zf (fun a _ => a == 117) I I' ∧ ∀ k, k < 195 → I' 117 (195 * c + k) = K k) (zp_Z t I J D) := by
  have e195 : (195 : Int32) * Int32.ofNat c = Int32.ofNat (195 * c) := (Int32.ofNat_mul 195 c).symm
  unfold jx_Mo_laysAside
  rw [e195]
  refine zl_g (fun i (_ : Unit) => Int32.ofNat i) 0 195 (s0 := ()) rfl (by omega) (by omega) (fun i _ I' => zf (fun a _ => a == 117) I I' ∧ ∀ k, k < i → I' 117 (195 * c + k) = K k) ⟨zf_refl _ _, fun k hk => absurd hk (by omega)⟩ ?step ?fin
  case step =>
    rintro i s I' - hi ⟨f1, r1⟩
    have n1 : ¬ (195 : Int32) ≤ Int32.ofNat i := zi_nle (a := 195) hi (by omega)
    have a1 : I' 114 i = K i := by rw [f1 114 i rfl, hK]
    have l1 : i < 5838 := by omega
    have l2 : 195 * c + i < 390 := by omega
    refine ss_iF n1 ?_
    refine ss_pt rfl rfl ?_
    refine ss_pt rfl rfl ?_
    refine ss_aI rfl rfl l1 (by decide) a1 ?_
    refine ss_sI rfl (zi_add _ _) l2 (by decide) ?_
    refine ss_bret ?_
    refine ss_ret (Or.inl ⟨(), _, by rw [zi_s], rfl, zf_u2 f1 rfl, fun k hk => ?_⟩)
    by_cases e : k = i
    · subst e; exact zu_eq
    · rw [zu_k (by omega)]; exact r1 k (by omega)
  case fin =>
    rintro s I' ⟨f1, r1⟩
    have n1 : (195 : Int32) ≤ Int32.ofNat 195 := by decide
    refine ss_iT n1 ?_
    refine ss_ret ⟨_, rfl, ?_⟩
    exact ss_ret ⟨I', rfl, f1, r1⟩
set_option maxRecDepth 20000 in
theorem mx_takesBack (hK : I 114 = K) {c : Nat} (hc : c < 2) {A : Nat → Int32} (hA : ∀ k, k < 195 → I 117 (195 * c + k) = A k) : zp_wp (jx_Mo_takesBack (some 112) (Int32.ofNat c)) (fun _ τ => ∃ I', τ = zp_Z t I' J D ∧ zf (fun a _ => a == 114) I I' ∧ I' 114 = kW K A) (zp_Z t I J D) := by
  have e195 : (195 : Int32) * Int32.ofNat c = Int32.ofNat (195 * c) := (Int32.ofNat_mul 195 c).symm
  unfold jx_Mo_takesBack
  rw [e195]
  refine zl_g (fun i (_ : Unit) => Int32.ofNat i) 0 195 (s0 := ()) rfl (by omega) (by omega) (fun i _ I' => zf (fun a _ => a == 114) I I' ∧ I' 114 = fun k => if k < i then A k else K k) ⟨zf_refl _ _, by rw [hK]; funext k; rw [if_neg (by omega)]⟩ ?step ?fin
  case step =>
    rintro i s I' - hi ⟨f1, r1⟩
    have n1 : ¬ (195 : Int32) ≤ Int32.ofNat i := zi_nle (a := 195) hi (by omega)
    have a1 : I' 117 (195 * c + i) = A i := by rw [f1 117 _ rfl]; exact hA i hi
    have l1 : i < 5838 := by omega
    have l2 : 195 * c + i < 390 := by omega
    refine ss_iF n1 ?_
    refine ss_pt rfl rfl ?_
    refine ss_pt rfl rfl ?_
    refine ss_aI rfl (zi_add _ _) l2 (by decide) a1 ?_
    refine ss_sI rfl rfl l1 (by decide) ?_
    refine ss_bret ?_
    refine ss_ret (Or.inl ⟨(), _, by rw [zi_s], rfl, zf_u2 f1 rfl, ?_⟩)
    rw [kS_u r1]
    funext k
    unfold kS
    by_cases q : k = i
    · rw [if_pos q, if_pos (by omega), q]
    · rw [if_neg q]
      show (if k < i then A k else K k) = _
      by_cases q2 : k < i
      · rw [if_pos q2, if_pos (by omega)]
      · rw [if_neg q2, if_neg (by omega)]
  case fin =>
    rintro s I' ⟨f1, r1⟩
    have n1 : (195 : Int32) ≤ Int32.ofNat 195 := by decide
    refine ss_iT n1 ?_
    refine ss_ret ⟨_, rfl, ?_⟩
    exact ss_ret ⟨I', rfl, f1, r1⟩
end
