/-! A text laid into the row: the model. -/
/-- the row K with a text of c signs and words, codes C and values V, as number n -/
def kL (K : Nat → Int32) (n c : Nat) (C V : Nat → Int32) : Nat → Int32 := fun i => if i = 231 + n then Int32.ofNat c else if 238 + 400 * n ≤ i ∧ i < 238 + 400 * n + c then C (i - (238 + 400 * n)) else if 3038 + 400 * n ≤ i ∧ i < 3038 + 400 * n + c then V (i - (3038 + 400 * n)) else K i
/-- the same, as far as the first i -/
def kLi (K : Nat → Int32) (n c : Nat) (C V : Nat → Int32) (i j : Nat) : Int32 := if j = 231 + n then Int32.ofNat c else if 238 + 400 * n ≤ j ∧ j < 238 + 400 * n + i then C (j - (238 + 400 * n)) else if 3038 + 400 * n ≤ j ∧ j < 3038 + 400 * n + i then V (j - (3038 + 400 * n)) else K j
set_option maxRecDepth 20000 in
theorem kL_lo {K C V : Nat → Int32} {n c i : Nat} (hi : i < 231) : kL K n c C V i = K i := by
  unfold kL; rw [if_neg (by omega), if_neg (by omega), if_neg (by omega)]
set_option maxRecDepth 20000 in
theorem kL_kz {K C V : Nat → Int32} {n c : Nat} (hc : c ≤ 400) : kz (kL K n c C V) n = c ∧ kL K n c C V (231 + n) = Int32.ofNat c := by
  have e : kL K n c C V (231 + n) = Int32.ofNat c := if_pos rfl
  exact ⟨by unfold kz; rw [e, zi_ixn (by omega)], e⟩
set_option maxRecDepth 20000 in
theorem kL_kc {K C V : Nat → Int32} {n c : Nat} (hn : n ≤ 6) (hc : c ≤ 400) : kc (kL K n c C V) n = (fun k => if k < c then C k else 0) ∧ kv (kL K n c C V) n = (fun k => if k < c then V k else 0) := by
  constructor
  · funext k
    unfold kc
    rw [(kL_kz hc).1]
    by_cases h : k < c
    · rw [if_pos h, if_pos h]
      unfold kL
      rw [if_neg (by omega), if_pos (by omega), show 238 + 400 * n + k - (238 + 400 * n) = k by omega]
    · rw [if_neg h, if_neg h]
  · funext k
    unfold kv
    rw [(kL_kz hc).1]
    by_cases h : k < c
    · rw [if_pos h, if_pos h]
      unfold kL
      rw [if_neg (by omega), if_neg (by omega), if_pos (by omega), show 3038 + 400 * n + k - (3038 + 400 * n) = k by omega]
    · rw [if_neg h, if_neg h]
set_option maxRecDepth 20000 in
/-- the other texts stand as they stood -/
theorem kL_other {K C V : Nat → Int32} {n m c : Nat} {o : Bool} (hn : n ≤ 6) (hm : m < 6) (hne : m ≠ n) (hc : c ≤ 400) (h : zr_txt K m o) : zr_txt (kL K n c C V) m o := by
  have e1 : kL K n c C V (231 + m) = K (231 + m) := by
    unfold kL; rw [if_neg (by omega), if_neg (by omega), if_neg (by omega)]
  have ez : kz (kL K n c C V) m = kz K m := by unfold kz; rw [e1]
  have h4 : kz K m ≤ 400 := h.2.1
  have ec : kc (kL K n c C V) m = kc K m := by
    funext k
    unfold kc
    rw [ez]
    by_cases hk : k < kz K m
    · rw [if_pos hk, if_pos hk]
      unfold kL
      rw [if_neg (by omega), if_neg (by omega), if_neg (by omega)]
    · rw [if_neg hk, if_neg hk]
  have ev : kv (kL K n c C V) m = kv K m := by
    funext k
    unfold kv
    rw [ez]
    by_cases hk : k < kz K m
    · rw [if_pos hk, if_pos hk]
      unfold kL
      rw [if_neg (by omega), if_neg (by omega), if_neg (by omega)]
    · rw [if_neg hk, if_neg hk]
  have es : ks (kL K n c C V) m o = ks K m o := by unfold ks; rw [ec, ev, ez]
  unfold zr_txt at *
  rw [es, ec, ev, ez, e1]; exact h
section
variable {t : List (Nat × Nat)} {I : Nat → Nat → Int32} {J : Nat → Nat → Int64} {D : Nat → Nat → Option Nat} {K : Nat → Int32}
set_option maxRecDepth 20000 in
theorem mx_lays (hK : I 114 = K) {n c : Nat} (hn : n ≤ 6) (hc : c ≤ 400) (h18 : I 112 18 = Int32.ofNat c) {C V : Nat → Int32} (hC : ∀ k, k < c → I 121 k = C k) (hV : ∀ k, k < c → I 122 k = V k) : zp_wp (jx_Mo_lays (some 112) (Int32.ofNat n)) (fun _ τ => ∃ I', τ = zp_Z t I' J D ∧ zf (fun a _ => a == 114) I I' ∧ I' 114 = kL K n c C V) (zp_Z t I J D) := by
  have e231 : (231 : Int32) + Int32.ofNat n = Int32.ofNat (231 + n) := zi_add 231 n
  have e400 : (400 : Int32) * Int32.ofNat n = Int32.ofNat (400 * n) := (Int32.ofNat_mul 400 n).symm
  have e238 : (238 : Int32) + Int32.ofNat (400 * n) = Int32.ofNat (238 + 400 * n) := zi_add 238 _
  have e3038 : (3038 : Int32) + Int32.ofNat (400 * n) = Int32.ofNat (3038 + 400 * n) := zi_add 3038 _
  have l1 : 231 + n < 5838 := by omega
  unfold jx_Mo_lays
  rw [e400, e238, e3038]
  refine ss_pt rfl rfl ?_
  refine ss_gI rfl h18 ?_
  refine ss_sI rfl e231 l1 (by decide) ?_
  refine zl_g (fun i (_ : Unit) => Int32.ofNat i) 0 c (s0 := ()) rfl (by omega) (by omega) (fun i _ I' => zf (fun a _ => a == 114) I I' ∧ I' 114 = kLi K n c C V i) ⟨zf_u2 (zf_refl _ _) rfl, ?_⟩ ?step ?fin
  · rw [kS_u hK]
    funext j
    unfold kS kLi
    (repeat' split) <;> first | rfl | (exfalso; omega) | (congr 1; omega)
  case step =>
    rintro i s I' - hi ⟨f1, r1⟩
    have k18 : I' 112 18 = Int32.ofNat c := by rw [f1 112 18 rfl]; exact h18
    have n1 : ¬ Int32.ofNat c ≤ Int32.ofNat i := zi_nle hi (by omega)
    have a1 : I' 121 i = C i := by rw [f1 121 i rfl]; exact hC i hi
    have a2 : ∀ v, sf_u2 I' 114 (238 + 400 * n + i) v 122 i = V i := fun v => by rw [zu_a (by decide), f1 122 i rfl]; exact hV i hi
    have li : i < 401 := by omega
    have l2 : 238 + 400 * n + i < 5838 := by omega
    have l3 : 3038 + 400 * n + i < 5838 := by omega
    refine ss_gI rfl k18 ?_
    refine ss_iF n1 ?_
    refine ss_pt rfl rfl ?_
    refine ss_pt rfl rfl ?_
    refine ss_aI rfl rfl li (by decide) a1 ?_
    refine ss_sI rfl (zi_add _ _) l2 (by decide) ?_
    refine ss_pt rfl rfl ?_
    refine ss_pt rfl rfl ?_
    refine ss_aI rfl rfl li (by decide) (a2 _) ?_
    refine ss_sI rfl (zi_add _ _) l3 (by decide) ?_
    refine ss_bret ?_
    refine ss_ret (Or.inl ⟨(), _, by rw [zi_s], rfl, zf_u2 (zf_u2 f1 rfl) rfl, ?_⟩)
    rw [kS_u (kS_u r1)]
    funext j
    unfold kS kLi
    (repeat' split) <;> first | rfl | (exfalso; omega) | (congr 1; omega)
  case fin =>
    rintro s I' ⟨f1, r1⟩
    have k18 : I' 112 18 = Int32.ofNat c := by rw [f1 112 18 rfl]; exact h18
    have n1 : Int32.ofNat c ≤ Int32.ofNat c := Int32.le_refl _
    refine ss_gI rfl k18 ?_
    refine ss_iT n1 ?_
    refine ss_ret ⟨_, rfl, ?_⟩
    exact ss_ret ⟨I', rfl, f1, r1⟩
end
