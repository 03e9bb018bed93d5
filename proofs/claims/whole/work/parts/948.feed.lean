/-! feed. -/
set_option maxRecDepth 20000 in
theorem bt (x : BitVec 32) (s : Nat) (hs : s ≤ 24) : (x.sshiftRight s).setWidth 8 = ((x >>> s) &&& 255#32).setWidth 8 := by
  apply BitVec.eq_of_getLsbD_eq
  intro i hi
  have h255 : (255#32).getLsbD i = true := by
    have : ∀ i, i < 8 → (255#32).getLsbD i = true := by decide
    exact this i hi
  have h1 : s + i < 32 := by omega
  have h2 : ¬ (32 ≤ i) := by omega
  rw [BitVec.getLsbD_setWidth, BitVec.getLsbD_setWidth, BitVec.getLsbD_sshiftRight, BitVec.getLsbD_and, h255]
  simp [h1, h2]
set_option maxRecDepth 20000 in
theorem nwE (x y : Int32) (h : x.toBitVec.setWidth 8 = y.toBitVec.setWidth 8) : sf_nw 2 x = sf_nw 2 y := by
  show x.toInt8.toInt32 = y.toInt8.toInt32
  have : x.toInt8 = y.toInt8 := by
    apply Int8.toBitVec_inj.mp
    rw [Int32.toBitVec_toInt8, Int32.toBitVec_toInt8, BitVec.signExtend_eq_setWidth_of_le _ (by decide), BitVec.signExtend_eq_setWidth_of_le _ (by decide)]
    exact h
  rw [this]
set_option maxRecDepth 20000 in
theorem nwnw (x : Int32) : sf_nw 2 (x.toInt8.toInt32) = sf_nw 2 x := by
  show x.toInt8.toInt32.toInt8.toInt32 = x.toInt8.toInt32
  have : x.toInt8.toInt32.toInt8 = x.toInt8 := by simp
  rw [this]
set_option maxRecDepth 20000 in
theorem by255 (x : Int32) : 0 ≤ x &&& 255 ∧ x &&& 255 ≤ 255 := by
  have h : (x &&& 255).toBitVec.toNat ≤ 255 := by
    simp only [Int32.toBitVec_and, BitVec.toNat_and]
    exact Nat.and_le_right
  have e : (x &&& 255).toInt = ((x &&& 255).toBitVec.toNat : Int) := by
    show (x &&& 255).toBitVec.toInt = _
    rw [BitVec.toInt_eq_toNat_of_lt (by omega)]
  rw [Int32.le_iff_toInt_le, Int32.le_iff_toInt_le, e]
  have e0 : (0 : Int32).toInt = 0 := rfl
  have e1 : (255 : Int32).toInt = 255 := rfl
  omega
/-- the shifts, and byte j of a word -/
def sh4 (j : Nat) : Int32 := ([24, 16, 8, 0, -8] : List Int32).getD j 0
def bY (x : Int32) (j : Nat) : Int32 := ((x.toUInt32 >>> ((sh4 j).toUInt32 &&& Int32.toUInt32 31)).toInt32) &&& (255 : Int32)
set_option maxRecDepth 20000 in
theorem bY_nw (x : Int32) : ∀ j, j < 4 → sf_nw 2 ((x >>> (sh4 j &&& 31)).toInt8.toInt32) = sf_nw 2 (bY x j) := by
  intro j hj
  have : j = 0 ∨ j = 1 ∨ j = 2 ∨ j = 3 := by omega
  rw [nwnw]
  rcases this with rfl | rfl | rfl | rfl
  · apply nwE
    have := bt x.toBitVec 24 (by omega)
    simpa [bY, sh4] using this
  · apply nwE
    have := bt x.toBitVec 16 (by omega)
    simpa [bY, sh4] using this
  · apply nwE
    have := bt x.toBitVec 8 (by omega)
    simpa [bY, sh4] using this
  · apply nwE
    have := bt x.toBitVec 0 (by omega)
    simpa [bY, sh4] using this
set_option maxRecDepth 20000 in
theorem sh4_s : ∀ i, i < 4 → sh4 i + -8 = sh4 (i + 1) ∧ ¬ sh4 i < 0 := by decide
set_option maxRecDepth 20000 in
theorem sh4_m : ∀ b, b < 20 → Int32.ofNat b / 4 = Int32.ofNat (b / 4) ∧ (24 : Int32) - 8 * (Int32.ofNat b - Int32.ofNat (b / 4) * 4) = sh4 (b % 4) := by decide
def zk_tp (a k : Nat) : Bool := a == 96 || (a == 95 && k == 1)
section
variable {t : List (Nat × Nat)} {I : Nat → Nat → Int32} {J : Nat → Nat → Int64} {D : Nat → Nat → Option Nat} {K : Nat → Int32} {L : lg_L}
set_option maxRecDepth 20000 in
theorem cx_put4 (x : Int32) {n : Nat} (h1 : I 95 1 = Int32.ofNat n) (hn : n + 4 ≤ 400) : zp_wp (jx_Tape_put (some 95) x) (fun _ τ => ∃ I', τ = zp_Z t I' J D ∧ zf zk_tp I I' ∧ I' 95 1 = Int32.ofNat (n + 4) ∧ ∀ k, I' 96 k = if n ≤ k ∧ k < n + 4 then bY x (k - n) else I 96 k) (zp_Z t I J D) := by
  unfold jx_Tape_put
  refine zl_g (fun i (_ : Unit) => sh4 i) 0 4 (s0 := ()) rfl (by omega) (by omega) (fun i _ I' => zf zk_tp I I' ∧ I' 95 1 = Int32.ofNat (n + i) ∧ ∀ k, I' 96 k = if n ≤ k ∧ k < n + i then bY x (k - n) else I 96 k) ⟨zf_refl _ _, h1, fun k => by rw [if_neg (by omega)]⟩ ?step ?fin
  case step =>
    rintro i s I' - hi ⟨f1, r1, r2⟩
    obtain ⟨e1, n0⟩ := sh4_s i hi
    have n1 : ¬ Int32.ofNat (n + i) < 0 := zi_nlt (b := 0) (by omega) (by omega)
    have n2 : ¬ Int32.ofNat 400 ≤ Int32.ofNat (n + i) := zi_nle (by omega) (by omega)
    have l1 : n + i < 400 := by omega
    have r1' : ∀ v, sf_u2 I' 96 (n + i) v 95 1 = Int32.ofNat (n + i) := fun v => by rw [zu_a (by decide)]; exact r1
    refine ss_iF n0 ?_
    refine ss_gI rfl r1 ?_
    refine ss_iF n1 ?_
    refine ss_gI rfl r1 ?_
    refine ss_iF n2 ?_
    refine ss_pt rfl rfl ?_
    refine ss_gI rfl r1 ?_
    refine ss_sI rfl rfl l1 (by decide) ?_
    refine ss_gI rfl (r1' _) ?_
    refine ss_pI rfl ?_
    refine ss_bret ?_
    refine ss_ret ?_
    refine Or.inl ⟨(), _, by rw [e1], rfl, zf_u2 (zf_u2 f1 rfl) rfl, by rw [zu_eq, zi_s]; rfl, fun k => ?_⟩
    rw [zu_a (by decide)]
    by_cases hk : k = n + i
    · subst hk
      rw [zu_eq, if_pos (by omega)]
      show bY x i = _
      rw [show n + i - n = i by omega]
    · rw [zu_k hk, r2 k]
      by_cases hq : n ≤ k ∧ k < n + i
      · rw [if_pos hq, if_pos (by omega)]
      · rw [if_neg hq, if_neg (by omega)]
  case fin =>
    rintro s I' ⟨f1, r1, r2⟩
    have n0 : sh4 4 < 0 := by decide
    refine ss_iT n0 ?_
    refine ss_ret ⟨_, rfl, ?_⟩
    exact ss_ret ⟨I', rfl, f1, r1, r2⟩
set_option maxRecDepth 20000 in
theorem bY_range (x : Int32) (j : Nat) : 0 ≤ bY x j ∧ bY x j ≤ 255 := by255 _
/-- the bytes of the five words -/
def bX (a b c d e : Int32) (k : Nat) : Int32 := bY (([a, b, c, d, e] : List Int32).getD (k / 4) 0) (k % 4)
set_option maxRecDepth 20000 in
theorem bX_range (a b c d e : Int32) (k : Nat) : 0 ≤ bX a b c d e k ∧ bX a b c d e k ≤ 255 := by255 _
set_option maxRecDepth 20000 in
theorem bX_all (a b c d e : Int32) {n k : Nat} {R0 R1 R2 R3 R4 R5 : Nat → Int32} (h1 : R1 k = if n ≤ k ∧ k < n + 4 then bY a (k - n) else R0 k)
    (h2 : R2 k = if n + 4 ≤ k ∧ k < n + 4 + 4 then bY b (k - (n + 4)) else R1 k) (h3 : R3 k = if n + 4 + 4 ≤ k ∧ k < n + 4 + 4 + 4 then bY c (k - (n + 4 + 4)) else R2 k)
    (h4 : R4 k = if n + 4 + 4 + 4 ≤ k ∧ k < n + 4 + 4 + 4 + 4 then bY d (k - (n + 4 + 4 + 4)) else R3 k) (h5 : R5 k = if n + 4 + 4 + 4 + 4 ≤ k ∧ k < n + 4 + 4 + 4 + 4 + 4 then bY e (k - (n + 4 + 4 + 4 + 4)) else R4 k) :
    R5 k = if n ≤ k ∧ k < n + 20 then bX a b c d e (k - n) else R0 k := by
  have key : ∀ (j : Nat) (x : Int32), n + 4 * j ≤ k → k < n + 4 * j + 4 → ([a, b, c, d, e] : List Int32).getD j 0 = x → bX a b c d e (k - n) = bY x (k - (n + 4 * j)) := by
    intro j x p1 p2 p3
    have q1 : (k - n) / 4 = j := by omega
    have q2 : (k - n) % 4 = k - (n + 4 * j) := by omega
    unfold bX; rw [q1, q2, p3]
  by_cases c0 : n ≤ k
  · by_cases c5 : k < n + 20
    · rw [if_pos ⟨c0, c5⟩]
      by_cases c1 : k < n + 4
      · rw [h5, if_neg (by omega), h4, if_neg (by omega), h3, if_neg (by omega), h2, if_neg (by omega), h1, if_pos (by omega)]; exact (key 0 a (by omega) (by omega) rfl).symm
      · by_cases c2 : k < n + 8
        · rw [h5, if_neg (by omega), h4, if_neg (by omega), h3, if_neg (by omega), h2, if_pos (by omega), key 1 b (by omega) (by omega) rfl]
        · by_cases c3 : k < n + 12
          · rw [h5, if_neg (by omega), h4, if_neg (by omega), h3, if_pos (by omega), key 2 c (by omega) (by omega) rfl]
          · by_cases c4 : k < n + 16
            · rw [h5, if_neg (by omega), h4, if_pos (by omega), key 3 d (by omega) (by omega) rfl]
            · rw [h5, if_pos (by omega), key 4 e (by omega) (by omega) rfl]
    · rw [if_neg (by omega), h5, if_neg (by omega), h4, if_neg (by omega), h3, if_neg (by omega), h2, if_neg (by omega), h1, if_neg (by omega)]
  · rw [if_neg (by omega), h5, if_neg (by omega), h4, if_neg (by omega), h3, if_neg (by omega), h2, if_neg (by omega), h1, if_neg (by omega)]
set_option maxRecDepth 20000 in
/-- case 6 -/
theorem CL_feed (a b c d e : Int32) : CL (jx_SF_feed (some 0) a b c d e) (jx_Mo_feed (some 112) a b c d e) := by
  intro t I J D h
  obtain ⟨⟨n, hn, n1, n2⟩, hb⟩ := h.2.2.2.1
  have e20 : Int32.ofNat n + 20 = Int32.ofNat (n + 20) := zi_add n 20
  unfold jx_SF_feed jx_Mo_feed
  by_cases hr : n + 20 ≤ 400
  · have c1 : Int32.ofNat n + 20 ≤ 400 := by rw [e20]; exact zi_leL (b := 400) hr (by omega)
    refine ss_pt rfl rfl ?_
    refine ss_gI rfl n1 ?_
    refine ss_iT c1 ?_
    refine ss_pt rfl rfl ?_
    refine ss_rc rfl ?_
    refine zp_wp_call (cx_put4 a n1 (by omega)) ?_
    rintro _ τ ⟨I1, rfl, f1, p1, r1⟩
    refine ss_pt rfl rfl ?_
    refine ss_rc rfl ?_
    refine zp_wp_call (cx_put4 b p1 (by omega)) ?_
    rintro _ τ ⟨I2, rfl, f2, p2, r2⟩
    refine ss_pt rfl rfl ?_
    refine ss_rc rfl ?_
    refine zp_wp_call (cx_put4 c p2 (by omega)) ?_
    rintro _ τ ⟨I3, rfl, f3, p3, r3⟩
    refine ss_pt rfl rfl ?_
    refine ss_rc rfl ?_
    refine zp_wp_call (cx_put4 d p3 (by omega)) ?_
    rintro _ τ ⟨I4, rfl, f4, p4, r4⟩
    refine ss_pt rfl rfl ?_
    refine ss_rc rfl ?_
    refine zp_wp_call (cx_put4 e p4 (by omega)) ?_
    rintro _ τ ⟨I5, rfl, f5, p5, r5⟩
    have f : zf zk_tp I I5 := zf_trans (zf_trans (zf_trans (zf_trans f1 f2) f3) f4) f5
    have r : ∀ k, I5 96 k = if n ≤ k ∧ k < n + 20 then bX a b c d e (k - n) else I 96 k := fun k => bX_all a b c d e (r1 k) (r2 k) (r3 k) (r4 k) (r5 k)
    have p : I5 95 1 = Int32.ofNat (n + 20) := p5
    clear r1 r2 r3 r4 r5 f1 f2 f3 f4 f5 p1 p2 p3 p4 p5
    refine ss_pt rfl rfl ?_
    refine ss_gI rfl p ?_
    refine ss_ret ?_
    have m2 : I5 112 13 = Int32.ofNat n := by rw [f 112 13 rfl]; exact n2
    refine ss_gI rfl m2 ?_
    refine ss_iT c1 ?_
    refine ss_pt rfl rfl ?_
    refine ss_sI (m := 0) rfl rfl (by decide) (by decide) ?_
    refine ss_pt rfl rfl ?_
    refine ss_sI (m := 1) rfl rfl (by decide) (by decide) ?_
    refine ss_pt rfl rfl ?_
    refine ss_sI (m := 2) rfl rfl (by decide) (by decide) ?_
    refine ss_pt rfl rfl ?_
    refine ss_sI (m := 3) rfl rfl (by decide) (by decide) ?_
    refine ss_pt rfl rfl ?_
    refine ss_sI (m := 4) rfl rfl (by decide) (by decide) ?_
    generalize hI6 : sf_u2 (sf_u2 (sf_u2 (sf_u2 (sf_u2 I5 120 0 a) 120 1 b) 120 2 c) 120 3 d) 120 4 e = I6
    have h120 : ∀ j, j < 5 → I6 120 j = ([a, b, c, d, e] : List Int32).getD j 0 := by
      subst hI6
      intro j hj
      have : j = 0 ∨ j = 1 ∨ j = 2 ∨ j = 3 ∨ j = 4 := by omega
      rcases this with rfl | rfl | rfl | rfl | rfl
      · rw [zu_k (by decide), zu_k (by decide), zu_k (by decide), zu_k (by decide), zu_eq]; rfl
      · rw [zu_k (by decide), zu_k (by decide), zu_k (by decide), zu_eq]; rfl
      · rw [zu_k (by decide), zu_k (by decide), zu_eq]; rfl
      · rw [zu_k (by decide), zu_eq]; rfl
      · rw [zu_eq]; rfl
    have f6 : zf (fun a k => a == 120) I5 I6 := by
      subst hI6
      exact zf_u2 (zf_u2 (zf_u2 (zf_u2 (zf_u2 (zf_refl _ _) rfl) rfl) rfl) rfl) rfl
    refine zl_g (fun i (_ : Unit) => Int32.ofNat i) 0 20 (s0 := ()) rfl (by omega) (by omega) (fun i _ I' => zf (fun a _ => a == 119) I6 I' ∧ ∀ k, I' 119 k = if n ≤ k ∧ k < n + i then sf_nw 2 (bX a b c d e (k - n)) else I 119 k) ⟨zf_refl _ _, fun k => by rw [if_neg (by omega), f6 119 k rfl, f 119 k rfl]⟩ ?step ?fin
    case step =>
      rintro i s I' - hi ⟨g, q⟩
      have k0 : ¬ (20 : Int32) ≤ Int32.ofNat i := zi_nle (a := 20) hi (by omega)
      have m2' : I' 112 13 = Int32.ofNat n := by rw [g 112 13 rfl, f6 112 13 rfl]; exact m2
      obtain ⟨e1, e2⟩ := sh4_m i hi
      have a1 : I' 120 (i / 4) = ([a, b, c, d, e] : List Int32).getD (i / 4) 0 := by rw [g 120 _ rfl]; exact h120 _ (by omega)
      have l4 : i / 4 < 5 := by omega
      have l5 : n + i < 400 := by omega
      have hw : sf_nw 2 ((([a, b, c, d, e] : List Int32).getD (i / 4) 0 >>> (sh4 (i % 4) &&& 31)).toInt8.toInt32) = sf_nw 2 (bX a b c d e i) := bY_nw _ _ (by omega)
      refine ss_iF k0 ?_
      rw [e1, e2]
      refine ss_pt rfl rfl ?_
      refine ss_gI rfl m2' ?_
      refine ss_pt rfl rfl ?_
      refine ss_aI rfl rfl l4 (by decide) a1 ?_
      refine ss_sB (n := 400) (m := n + i) rfl (zi_add n i) l5 (by decide) hw ?_
      refine ss_bret ?_
      refine ss_ret ?_
      refine Or.inl ⟨(), _, by rw [zi_s], rfl, zf_u2 g rfl, fun k => ?_⟩
      by_cases hk : k = n + i
      · subst hk
        rw [zu_eq, if_pos (by omega), show n + i - n = i by omega]
      · rw [zu_k hk, q k]
        by_cases hq : n ≤ k ∧ k < n + i
        · rw [if_pos hq, if_pos (by omega)]
        · rw [if_neg hq, if_neg (by omega)]
    case fin =>
      rintro s I7 ⟨g, q⟩
      have k0 : (20 : Int32) ≤ Int32.ofNat 20 := by decide
      have m2' : I7 112 13 = Int32.ofNat n := by rw [g 112 13 rfl, f6 112 13 rfl]; exact m2
      have m3 : sf_u2 I7 112 13 (Int32.ofNat n + 20) 112 13 = Int32.ofNat (n + 20) := by rw [zu_eq, e20]
      refine ss_iT k0 ?_
      refine ss_ret ⟨_, rfl, ?_⟩
      refine ss_gI rfl m2' ?_
      refine ss_pI rfl ?_
      refine ss_gI rfl m3 ?_
      refine ss_ret ?_
      refine CL.fin ?_ rfl
      have row : ∀ x, x ≠ 95 → x ≠ 96 → x ≠ 112 → x ≠ 119 → x ≠ 120 → sf_u2 I7 112 13 (Int32.ofNat n + 20) x = I x := fun x q1 q2 q3 q4 q5 => by
        rw [zu_r q3, zf_row g (fun k => by simp [q4]), zf_row f6 (fun k => by simp [q5]), zf_row f (fun k => by simp [zk_tp, q1, q2])]
      have r112 : ∀ k, k ≠ 13 → sf_u2 I7 112 13 (Int32.ofNat n + 20) 112 k = I 112 k := fun k hk => by
        rw [zu_k hk, g 112 k rfl, f6 112 k rfl, f 112 k rfl]
      obtain ⟨h1, h2, ⟨L, l1, l2, l3⟩, h4, ⟨g1, g2, g3, g4, g5, g6, g7⟩, h6, h7, h8, h9⟩ := h
      refine ⟨?_, h2, ⟨L, cx_lg_fr (fun k hk => by rw [row 20 (by decide) (by decide) (by decide) (by decide) (by decide)]) (fun x q1 q2 => row x (by omega) (by omega) (by omega) (by omega) (by omega)) l1, mx_lg_fr (r112 40 (by decide)) (row 133 (by decide) (by decide) (by decide) (by decide) (by decide)) l2, l3⟩, ⟨⟨n + 20, hr, ?_, ?_⟩, fun k hk => ?_⟩, ⟨?_, ?_, ?_, ?_, ?_, ?_, ?_⟩, ?_, im_fr (row 115 (by decide) (by decide) (by decide) (by decide) (by decide)) (row 116 (by decide) (by decide) (by decide) (by decide) (by decide)) (fun x q => row x (by omega) (by omega) (by omega) (by omega) (by omega)) h7, im_fr (row 115 (by decide) (by decide) (by decide) (by decide) (by decide)) (row 116 (by decide) (by decide) (by decide) (by decide) (by decide)) (fun x q => row x (by omega) (by omega) (by omega) (by omega) (by omega)) h8, h9⟩
      · rw [row 114 (by decide) (by decide) (by decide) (by decide) (by decide)]; exact zr_cl_fr2 (fun x ha => row x (by omega) (by omega) (by omega) (by omega) (by omega)) h1
      · rw [zu_a (by decide), g 95 1 rfl, f6 95 1 rfl]; exact p
      · exact m3
      · have e119 : sf_u2 I7 112 13 (Int32.ofNat n + 20) 119 k = I7 119 k := zu_a (by decide)
        have e96 : sf_u2 I7 112 13 (Int32.ofNat n + 20) 96 k = I5 96 k := by rw [zu_a (by decide), g 96 k rfl, f6 96 k rfl]
        rw [e119, e96, q k, r k]
        by_cases hq : n ≤ k ∧ k < n + 20
        · rw [if_pos hq, if_pos hq]; exact ⟨rfl, bX_range a b c d e _⟩
        · rw [if_neg hq, if_neg hq]; exact hb k hk
      · rw [row 0 (by decide) (by decide) (by decide) (by decide) (by decide), r112 0 (by decide)]; exact g1
      · rw [row 108 (by decide) (by decide) (by decide) (by decide) (by decide), row 113 (by decide) (by decide) (by decide) (by decide) (by decide)]; exact g2
      · rw [row 0 (by decide) (by decide) (by decide) (by decide) (by decide), r112 14 (by decide)]; exact g3
      · rw [row 0 (by decide) (by decide) (by decide) (by decide) (by decide), r112 43 (by decide)]; exact g4
      · rw [row 0 (by decide) (by decide) (by decide) (by decide) (by decide), r112 6 (by decide)]; exact g5
      · rw [row 0 (by decide) (by decide) (by decide) (by decide) (by decide), r112 51 (by decide)]; exact g6
      · rw [row 110 (by decide) (by decide) (by decide) (by decide) (by decide), row 138 (by decide) (by decide) (by decide) (by decide) (by decide)]; exact g7
      · intro k hk; rw [row 118 (by decide) (by decide) (by decide) (by decide) (by decide)]; exact h6 k hk
  · have c1 : ¬ Int32.ofNat n + 20 ≤ 400 := by rw [e20]; exact zi_nle (a := n + 20) (b := 400) (by omega) (by omega)
    refine ss_pt rfl rfl ?_
    refine ss_gI rfl n1 ?_
    refine ss_iF c1 ?_
    refine ss_ret ?_
    refine ss_gI rfl n2 ?_
    refine ss_iF c1 ?_
    exact ss_ret (CL.fin h rfl)
end
