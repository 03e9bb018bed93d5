/-! The log of the class: Pockets copied. -/
set_option maxRecDepth 20000 in
theorem sh_fix {t : List (Nat × Nat)} {a : Nat} (h : a < 139) : (zp_sh0 ++ t).getD a (999, 0) = zp_sh0.getD a (999, 0) := by
  have hl : zp_sh0.length = 139 := rfl
  rw [List.getD_eq_getElem?_getD, List.getD_eq_getElem?_getD, List.getElem?_append_left (by omega)]
set_option maxRecDepth 20000 in
theorem sh_slot : ∀ j, j < 16 → zp_sh0.getD (23 + 2 * j) (999, 0) = (15, 4) ∧ zp_sh0.getD (24 + 2 * j) (999, 0) = (0, 192) ∧ zp_sh0.getD (58 + 2 * j) (999, 0) = (15, 4) ∧ zp_sh0.getD (59 + 2 * j) (999, 0) = (0, 192) := by decide +kernel
set_option maxRecDepth 20000 in
theorem pt_slot : ∀ j, j < 16 → zp_pt 21 j = some (23 + 2 * j) ∧ zp_pt (23 + 2 * j) 0 = some (24 + 2 * j) ∧ zp_pt 56 j = some (58 + 2 * j) ∧ zp_pt (58 + 2 * j) 0 = some (59 + 2 * j) := by decide +kernel
set_option maxRecDepth 20000 in
theorem rfs_pt {D : Nat → Nat → Option Nat} {a k p : Nat} (h : zp_pt a k = some p) : zp_rfs D a k = some p := by
  unfold zp_rfs; rw [h]
/-- a Pocket at a, its row at a' -/
def pk_is (t : List (Nat × Nat)) (D : Nat → Nat → Option Nat) (a : Nat) : Prop := (zp_sh0 ++ t).getD a (999, 0) = (15, 4) ∧ (zp_sh0 ++ t).getD (a + 1) (999, 0) = (0, 192) ∧ zp_rfs D a 0 = some (a + 1)
set_option maxRecDepth 20000 in
theorem pk_is_slot {t : List (Nat × Nat)} {D : Nat → Nat → Option Nat} {j : Nat} (hj : j < 16) : pk_is t D (23 + 2 * j) := ⟨by rw [sh_fix (by omega)]; exact (sh_slot j hj).1, by rw [sh_fix (by omega), show 23 + 2 * j + 1 = 24 + 2 * j by omega]; exact (sh_slot j hj).2.1, by rw [rfs_pt (pt_slot j hj).2.1]; congr 1; omega⟩
set_option maxRecDepth 20000 in
theorem pk_is_slot2 {t : List (Nat × Nat)} {D : Nat → Nat → Option Nat} {j : Nat} (hj : j < 16) : pk_is t D (58 + 2 * j) := ⟨by rw [sh_fix (by omega)]; exact (sh_slot j hj).2.2.1, by rw [sh_fix (by omega), show 58 + 2 * j + 1 = 59 + 2 * j by omega]; exact (sh_slot j hj).2.2.2, by rw [rfs_pt (pt_slot j hj).2.2.2]; congr 1; omega⟩
set_option maxRecDepth 20000 in
theorem pk_is_3 {t : List (Nat × Nat)} {D : Nat → Nat → Option Nat} : pk_is t D 3 := ⟨rfl, rfl, rfl⟩
set_option maxRecDepth 20000 in
theorem pk_is_90 {t : List (Nat × Nat)} {D : Nat → Nat → Option Nat} : pk_is t D 90 := ⟨rfl, rfl, rfl⟩
section
variable {t : List (Nat × Nat)} {I : Nat → Nat → Int32} {J : Nat → Nat → Int64} {D : Nat → Nat → Option Nat} {K : Nat → Int32} {L : lg_L}
/-- the mask of a Pocket -/
def zk_pk (b a k : Nat) : Bool := (a == b && (k == 1 || k == 2 || k == 3)) || a == b + 1
set_option maxRecDepth 20000 in
theorem cx_copyP {a b : Nat} (ha : pk_is t D a) (hb : pk_is t D b) (h1 : a ≠ b) (h2 : a ≠ b + 1) (h3 : b ≠ a + 1) (hp : pk_at I a K) : zp_wp (jx_Pocket_copyFrom (some b) (some a)) (fun _ τ => ∃ I', τ = zp_Z t I' J D ∧ zf (zk_pk b) I I' ∧ pk_at I' b K) (zp_Z t I J D) := by
  obtain ⟨sa, ra, pa⟩ := ha
  obtain ⟨sb, rb, pb⟩ := hb
  unfold jx_Pocket_copyFrom
  refine ss_gR sa pa ?_
  refine ss_gR sb pb ?_
  refine ss_gR sb pb ?_
  refine ss_len rb (by decide) ?_
  refine ss_cpI (k := 192) ra rb rfl (by omega) (by omega) (by omega) (fun I1 f1 r1 _ => ?_)
  have e1 : ∀ k, I1 a k = I a k := fun k => f1 a k (by simp [h2])
  have e1' : ∀ k v, sf_u2 I1 b 1 v a k = I a k := fun k v => by rw [zu_a h1]; exact e1 k
  have e2' : ∀ k v w, sf_u2 (sf_u2 I1 b 1 v) b 2 w a k = I a k := fun k v w => by rw [zu_a h1]; exact e1' k v
  refine ss_gI sa (e1 1) ?_
  refine ss_pI sb ?_
  refine ss_gI sa (e1' 2 _) ?_
  refine ss_pI sb ?_
  refine ss_gI sa (e2' 3 _ _) ?_
  refine ss_pI sb ?_
  refine ss_ret ⟨_, rfl, zf_u2 (zf_u2 (zf_u2 (zf_mono f1 (fun x k e => by simp only [beq_iff_eq] at e; simp [zk_pk, e])) (by simp [zk_pk])) (by simp [zk_pk])) (by simp [zk_pk]), ?_⟩
  have hb1 : b + 1 ≠ b := by omega
  obtain ⟨p1, p2, p3, p4⟩ := hp
  refine ⟨fun i hi => ?_, ?_, ?_, ?_⟩
  · rw [zu_a hb1, zu_a hb1, zu_a hb1, r1 i hi]; exact p1 i hi
  · rw [zu_k (by decide), zu_eq]; exact p2
  · rw [zu_k (by decide), zu_k (by decide), zu_eq]; exact p3
  · rw [zu_eq]; exact p4
set_option maxRecDepth 20000 in
theorem zi_xor {a b : Nat} (ha : a < 2147483648) (hb : b < 2147483648) : (0 : Int32) ≤ Int32.ofNat a ^^^ Int32.ofNat b := by
  have h : (Int32.ofNat a ^^^ Int32.ofNat b).toBitVec.toNat < 2147483648 := by
    simp only [Int32.toBitVec_xor, BitVec.toNat_xor]
    have e1 : (Int32.ofNat a).toBitVec.toNat = a := by
      show (BitVec.ofNat 32 a).toNat = a
      rw [BitVec.toNat_ofNat]; exact Nat.mod_eq_of_lt (by omega)
    have e2 : (Int32.ofNat b).toBitVec.toNat = b := by
      show (BitVec.ofNat 32 b).toNat = b
      rw [BitVec.toNat_ofNat]; exact Nat.mod_eq_of_lt (by omega)
    rw [e1, e2]
    exact Nat.xor_lt_two_pow (n := 31) (by omega) (by omega)
  have e : (Int32.ofNat a ^^^ Int32.ofNat b).toInt = ((Int32.ofNat a ^^^ Int32.ofNat b).toBitVec.toNat : Int) := by
    show (Int32.ofNat a ^^^ Int32.ofNat b).toBitVec.toInt = _
    rw [BitVec.toInt_eq_toNat_of_lt (by omega)]
  rw [Int32.le_iff_toInt_le, e]
  have e0 : (0 : Int32).toInt = 0 := rfl
  omega
set_option maxRecDepth 20000 in
theorem fm16 : ∀ n, n < 33 → Int32.ofNat n - Int32.ofNat n / 16 * 16 = Int32.ofNat (n % 16) := by decide
set_option maxRecDepth 20000 in
theorem ze_floorMod {n : Nat} (hn : n < 33) {σ : sf_St} : jx_Math_floorMod (Int32.ofNat n) 16 σ = some (Int32.ofNat (n % 16), σ) := by
  apply zp_wp_eq
  unfold jx_Math_floorMod
  refine ss_rmI (by decide) ?_
  refine ss_iT (zi_xor (a := n) (b := 16) (by omega) (by omega)) ?_
  exact ss_ret ⟨fm16 n hn, rfl⟩
/-- the log after one more -/
def lg_push (L : lg_L) (e : Int32 × (Nat → Int32)) : lg_L := if L.length = 16 then L.tail ++ [e] else L ++ [e]
set_option maxRecDepth 20000 in
theorem lg_push_ok (h : lg_ok L) {e : Int32 × (Nat → Int32)} (he : (∃ k, k < 4 ∧ e.1 = Int32.ofNat k) ∧ pk_ok e.2) : lg_ok (lg_push L e) := by
  intro x hx
  unfold lg_push at hx
  split at hx
  · rw [List.mem_append, List.mem_singleton] at hx
    rcases hx with hx | hx
    · exact h x (List.mem_of_mem_tail hx)
    · subst hx; exact he
  · rw [List.mem_append, List.mem_singleton] at hx
    rcases hx with hx | hx
    · exact h x hx
    · subst hx; exact he
def zk_lg (a k : Nat) : Bool := (a == 20 && (k == 2 || k == 3)) || (21 < a && a < 55)
set_option maxRecDepth 20000 in
theorem cx_push {c : Int32} (hL : cx_lg 20 I L) (hp : pk_at I 3 K) : zp_wp (jx_Log_push (some 20) c (some 3)) (fun _ τ => ∃ I', τ = zp_Z t I' J D ∧ zf zk_lg I I' ∧ cx_lg 20 I' (lg_push L (c, K))) (zp_Z t I J D) := by
  obtain ⟨h16, h3, f, hf, h2, he⟩ := hL
  unfold jx_Log_push
  have hs : Int32.ofNat f + Int32.ofNat L.length = Int32.ofNat (f + L.length) := zi_add _ _
  have hm : (f + L.length) % 16 < 16 := Nat.mod_lt _ (by decide)
  refine ss_gI rfl h2 ?_
  refine ss_gI rfl h3 ?_
  rw [hs]
  refine ss_call (ze_floorMod (by omega)) ?_
  generalize hj : (f + L.length) % 16 = j at hm ⊢
  refine ss_pt rfl rfl ?_
  refine ss_aR (n := 16) rfl rfl hm (by decide) (rfs_pt (pt_slot j hm).1) ?_
  refine ss_iF (by simp) ?_
  refine ss_rc (pk_is_slot (D := D) hm).1 ?_
  refine zp_wp_call (cx_copyP (b := 23 + 2 * j) pk_is_3 (pk_is_slot hm) (by omega) (by omega) (by omega) hp) ?_
  rintro _ τ ⟨I1, rfl, f1, p1⟩
  refine ss_pt rfl rfl ?_
  refine ss_sI rfl rfl hm (by decide) ?_
  have hz : ∀ x k, x < 23 ∨ x = 54 + 1 → zk_pk (23 + 2 * j) x k = false := fun x k hx => by
    simp [zk_pk]; omega
  have q3 : sf_u2 I1 22 j c 20 3 = Int32.ofNat L.length := by rw [zu_a (by decide), f1 20 3 (hz 20 3 (by omega))]; exact h3
  have q2 : sf_u2 I1 22 j c 20 2 = Int32.ofNat f := by rw [zu_a (by decide), f1 20 2 (hz 20 2 (by omega))]; exact h2
  have fm : zf zk_lg I (sf_u2 I1 22 j c) := by
    refine zf_u2 (zf_mono f1 (fun x k e => ?_)) (by rfl)
    simp only [zk_pk, Bool.or_eq_true, Bool.and_eq_true, beq_iff_eq] at e
    have : 21 < x ∧ x < 55 := by omega
    simp [zk_lg, this]
  -- the slots
  have hslot : ∀ i, i < 16 → i ≠ j → sf_u2 I1 22 j c 22 i = I 22 i ∧ ∀ e, pk_at I (23 + 2 * i) e → pk_at (sf_u2 I1 22 j c) (23 + 2 * i) e := by
    intro i hi hij
    refine ⟨by rw [zu_k hij, f1 22 i (hz 22 i (by omega))], fun e pe => ?_⟩
    refine pk_fr ?_ ?_ pe
    · rw [zu_r (by omega)]; exact zf_row f1 (fun k => by simp [zk_pk]; omega)
    · rw [zu_r (by omega)]; exact zf_row f1 (fun k => by simp [zk_pk]; omega)
  have hnew : sf_u2 I1 22 j c 22 j = c ∧ pk_at (sf_u2 I1 22 j c) (23 + 2 * j) K := ⟨zu_eq, pk_fr (zu_r (by omega)) (zu_r (by omega)) p1⟩
  refine ss_gI rfl q3 ?_
  by_cases h6 : L.length = 16
  · have c1 : (16 : Int32) ≤ Int32.ofNat L.length := by rw [h6]; decide
    have hs1 : Int32.ofNat f + 1 = Int32.ofNat (f + 1) := zi_s f
    refine ss_iT c1 ?_
    refine ss_gI rfl q2 ?_
    rw [hs1]
    refine ss_call (ze_floorMod (by omega)) ?_
    refine ss_pI rfl ?_
    refine ss_ret ⟨_, rfl, zf_u2 fm rfl, ?_⟩
    have hjf : j = f := by omega
    have hlen : (lg_push L (c, K)).length = 16 := by unfold lg_push; rw [if_pos h6, List.length_append, List.length_tail]; simp; omega
    refine ⟨by omega, by rw [hlen, zu_k (by decide), q3, h6], (f + 1) % 16, Nat.mod_lt _ (by decide), zu_eq, fun i e hi => ?_⟩
    have hi16 : i < 16 := by
      have := (List.getElem?_eq_some_iff.mp hi).1
      omega
    have hrow : ∀ x, x ≠ 20 → sf_u2 (sf_u2 I1 22 j c) 20 2 (Int32.ofNat ((f + 1) % 16)) x = sf_u2 I1 22 j c x := fun x hx => zu_r hx
    have hix : ((f + 1) % 16 + i) % 16 = (f + (i + 1)) % 16 := by omega
    rw [hix]
    rw [hrow (20 + 2) (by decide)]
    have goal : sf_u2 I1 22 j c 22 ((f + (i + 1)) % 16) = e.1 ∧ pk_at (sf_u2 I1 22 j c) (23 + 2 * ((f + (i + 1)) % 16)) e.2 := by
      unfold lg_push at hi
      rw [if_pos h6] at hi
      by_cases hi15 : i < 15
      · rw [List.getElem?_append_left (by rw [List.length_tail]; omega), List.getElem?_tail] at hi
        obtain ⟨e1, e2⟩ := he (i + 1) e hi
        have hne : (f + (i + 1)) % 16 ≠ j := by omega
        obtain ⟨s1, s2⟩ := hslot ((f + (i + 1)) % 16) (Nat.mod_lt _ (by decide)) hne
        exact ⟨s1.trans e1, s2 _ e2⟩
      · have hi' : i = 15 := by omega
        subst hi'
        rw [List.getElem?_append_right (by rw [List.length_tail]; omega), List.length_tail, h6] at hi
        have : e = (c, K) := by simpa using hi.symm
        subst this
        have hje : (f + (15 + 1)) % 16 = j := by omega
        rw [hje]; exact hnew
    exact ⟨goal.1, pk_fr (hrow _ (by omega)) (hrow _ (by omega)) goal.2⟩
  · have c1 : ¬ (16 : Int32) ≤ Int32.ofNat L.length := zi_nle (a := 16) (by omega) (by omega)
    refine ss_iF c1 ?_
    refine ss_gI rfl q3 ?_
    refine ss_pI rfl ?_
    refine ss_ret ⟨_, rfl, zf_u2 fm rfl, ?_⟩
    have hlen : (lg_push L (c, K)).length = L.length + 1 := by unfold lg_push; rw [if_neg h6, List.length_append]; rfl
    refine ⟨by omega, by rw [hlen, zu_eq, zi_s], f, hf, by rw [zu_k (by decide)]; exact q2, fun i e hi => ?_⟩
    have hiL : i < L.length + 1 := by
      have := (List.getElem?_eq_some_iff.mp hi).1
      omega
    have hrow : ∀ x, x ≠ 20 → sf_u2 (sf_u2 I1 22 j c) 20 3 (Int32.ofNat L.length + 1) x = sf_u2 I1 22 j c x := fun x hx => zu_r hx
    rw [hrow (20 + 2) (by decide)]
    have goal : sf_u2 I1 22 j c 22 ((f + i) % 16) = e.1 ∧ pk_at (sf_u2 I1 22 j c) (23 + 2 * ((f + i) % 16)) e.2 := by
      unfold lg_push at hi
      rw [if_neg h6] at hi
      by_cases hi15 : i < L.length
      · rw [List.getElem?_append_left hi15] at hi
        obtain ⟨e1, e2⟩ := he i e hi
        have hne : (f + i) % 16 ≠ j := by omega
        obtain ⟨s1, s2⟩ := hslot ((f + i) % 16) (Nat.mod_lt _ (by decide)) hne
        exact ⟨s1.trans e1, s2 _ e2⟩
      · have hi' : i = L.length := by omega
        subst hi'
        rw [List.getElem?_append_right (Nat.le_refl _), Nat.sub_self] at hi
        have : e = (c, K) := by simpa using hi.symm
        subst this
        rw [hj]; exact hnew
    exact ⟨goal.1, pk_fr (hrow _ (by omega)) (hrow _ (by omega)) goal.2⟩
end
