/-! WAYS: least over ways of so many legs at most, as predicates; minima. -/
def zy_min (S : Nat → Prop) (o : Option Nat) : Prop := (∀ c, S c → ∃ v, o = some v ∧ v ≤ c) ∧ ∀ v, o = some v → S v
set_option maxRecDepth 20000 in
theorem zy_min_uniq {S : Nat → Prop} {o o' : Option Nat} (h : zy_min S o) (h' : zy_min S o') : o = o' := by
  cases o with
  | none =>
    cases o' with
    | none => rfl
    | some v => obtain ⟨w, e, -⟩ := h.1 v (h'.2 v rfl); cases e
  | some v =>
    obtain ⟨w, e, h1⟩ := h'.1 v (h.2 v rfl)
    subst e
    obtain ⟨u, e, h2⟩ := h.1 w (h'.2 w rfl)
    cases e
    rw [show v = w by omega]
set_option maxRecDepth 20000 in
theorem zy_min_iff {S S' : Nat → Prop} {o : Option Nat} (h : zy_min S o) (hs : ∀ c, S c ↔ S' c) : zy_min S' o := ⟨fun c hc => h.1 c ((hs c).mpr hc), fun v hv => (hs v).mp (h.2 v hv)⟩
def zy_omin (o : Option Nat) (x : Nat) : Option Nat := match o with
  | none => some x
  | some v => if x < v then some x else some v
set_option maxRecDepth 20000 in
theorem zy_min_add {S : Nat → Prop} {o : Option Nat} (h : zy_min S o) (x : Nat) : zy_min (fun c => S c ∨ c = x) (zy_omin o x) := by
  cases o with
  | none =>
    refine ⟨fun c hc => ?_, fun v hv => ?_⟩
    · rcases hc with hc | rfl
      · obtain ⟨v, e, -⟩ := h.1 c hc; cases e
      · exact ⟨c, rfl, Nat.le_refl _⟩
    · cases hv; exact Or.inr rfl
  | some w =>
    unfold zy_omin
    by_cases hx : x < w
    · simp only [hx, if_true]
      refine ⟨fun c hc => ?_, fun v hv => ?_⟩
      · rcases hc with hc | rfl
        · obtain ⟨v, e, hv⟩ := h.1 c hc; cases e; exact ⟨x, rfl, by omega⟩
        · exact ⟨c, rfl, Nat.le_refl _⟩
      · cases hv; exact Or.inr rfl
    · simp only [hx, if_false]
      refine ⟨fun c hc => ?_, fun v hv => ?_⟩
      · rcases hc with hc | rfl
        · exact h.1 c hc
        · exact ⟨w, rfl, by omega⟩
      · cases hv; exact Or.inl (h.2 _ rfl)
section
variable (L : Nat → Nat → Option Nat) (to : Nat)
def wy : Nat → Nat → Nat → Prop
  | 0, s, c => s = to ∧ c = 0
  | k + 1, s, c => wy k s c ∨ ∃ n a b, n < 8 ∧ L s n = some a ∧ wy k n b ∧ c = a + b
end
section
variable {L : Nat → Nat → Option Nat} {to : Nat}
set_option maxRecDepth 20000 in
theorem wy_mono {k m : Nat} (h : k ≤ m) {s c : Nat} (hw : wy L to k s c) : wy L to m s c := by
  induction m with
  | zero => rw [show k = 0 by omega] at hw; exact hw
  | succ m ih =>
    by_cases hk : k = m + 1
    · rw [hk] at hw; exact hw
    · exact Or.inl (ih (by omega))
set_option maxRecDepth 20000 in
theorem wy_le {M : Nat} (hM : ∀ s n a, L s n = some a → a ≤ M) : ∀ k s c, wy L to k s c → c ≤ k * M
  | 0, s, c, h => by rw [h.2]; omega
  | k + 1, s, c, h => by
    rcases h with h | ⟨n, a, b, hn, ha, hb, rfl⟩
    · have := wy_le hM k s c h; rw [Nat.succ_mul]; omega
    · have := wy_le hM k n b hb; have := hM _ _ _ ha; rw [Nat.succ_mul]; omega
set_option maxRecDepth 20000 in
/-- from a station that is not the end: a leg first -/
theorem wy_ne {s : Nat} (hs : s ≠ to) : ∀ k c, wy L to (k + 1) s c ↔ ∃ n a b, n < 8 ∧ L s n = some a ∧ wy L to k n b ∧ c = a + b := by
  intro k
  induction k with
  | zero =>
    intro c; constructor
    · rintro (⟨h, -⟩ | h)
      · exact absurd h hs
      · exact h
    · exact Or.inr
  | succ k ih =>
    intro c; constructor
    · rintro (h | h)
      · obtain ⟨n, a, b, h1, h2, h3, h4⟩ := (ih c).mp h
        exact ⟨n, a, b, h1, h2, wy_mono (by omega) h3, h4⟩
      · exact h
    · exact Or.inr
set_option maxRecDepth 20000 in
theorem wy_to : ∀ k, zy_min (wy L to k to) (some 0) := fun k => ⟨fun c _ => ⟨0, rfl, Nat.zero_le _⟩, fun v hv => by cases hv; exact wy_mono (Nat.zero_le _) ⟨rfl, rfl⟩⟩
set_option maxRecDepth 20000 in
/-- what stands still stays -/
theorem wy_still {B : Nat → Option Nat} {k : Nat} (h1 : ∀ s, s < 8 → zy_min (wy L to k s) (B s)) (h2 : ∀ s, s < 8 → zy_min (wy L to (k + 1) s) (B s)) : ∀ m, k ≤ m → ∀ s, s < 8 → zy_min (wy L to m s) (B s) := by
  intro m hm
  induction m with
  | zero => intro s hs; rw [show k = 0 by omega] at h1; exact h1 s hs
  | succ m ih =>
    by_cases hk : k = m + 1
    · subst hk; exact h1
    · intro s hs
      have ih' := ih (by omega)
      refine ⟨fun c hc => ?_, fun v hv => Or.inl ((ih' s hs).2 v hv)⟩
      rcases hc with hc | ⟨n, a, b, hn, ha, hb, rfl⟩
      · exact (ih' s hs).1 c hc
      · obtain ⟨b', e, hb'⟩ := (ih' n hn).1 b hb
        obtain ⟨v, e2, hv⟩ := (h2 s hs).1 (a + b') (Or.inr ⟨n, a, b', hn, ha, (h1 n hn).2 b' e, rfl⟩)
        exact ⟨v, e2, by omega⟩
set_option maxRecDepth 20000 in
/-- where legs lead down, seven legs are enough -/
theorem wy_seven {h : Nat → Nat} (hd : ∀ s n a, n < 8 → L s n = some a → h n < h s) : ∀ j k s c, h s ≤ j → wy L to k s c → wy L to j s c := by
  intro j
  induction j with
  | zero =>
    intro k s c hj hw
    induction k with
    | zero => exact hw
    | succ k ih =>
      rcases hw with hw | ⟨n, a, b, hn, ha, -⟩
      · exact ih hw
      · have := hd s n a hn ha; omega
  | succ j ih =>
    intro k s c hj hw
    induction k with
    | zero => exact wy_mono (Nat.zero_le _) hw
    | succ k ihk =>
      rcases hw with hw | ⟨n, a, b, hn, ha, hb, e⟩
      · exact ihk hw
      · have := hd s n a hn ha
        exact Or.inr ⟨n, a, b, hn, ha, ih k n b (by omega) hb, e⟩
end
-- a least as the class tells it: none is -1
def en (o : Option Nat) : Int32 := match o with
  | none => -1
  | some c => Int32.ofNat c
set_option maxRecDepth 20000 in
theorem en_neg {o : Option Nat} {M : Nat} (h : ∀ c, o = some c → c ≤ M) (hM : M < 2147483648) : (en o < 0) = (o = none) := by
  cases o with
  | none => exact propext ⟨fun _ => rfl, fun _ => by decide⟩
  | some c =>
    refine propext ⟨fun e => ?_, fun e => by cases e⟩
    exact absurd e (zi_nlt (b := 0) (by omega) (by have := h c rfl; omega))
set_option maxRecDepth 20000 in
theorem en_inj {o o' : Option Nat} {M : Nat} (h : ∀ c, o = some c → c ≤ M) (h' : ∀ c, o' = some c → c ≤ M) (hM : M < 2147483648) : (en o = en o') = (o = o') := by
  apply propext
  refine ⟨fun e => ?_, fun e => by rw [e]⟩
  cases o with
  | none =>
    cases o' with
    | none => rfl
    | some c => exact absurd e.symm (ofNat_ne_m1 (by have := h' c rfl; omega))
  | some c =>
    cases o' with
    | none => exact absurd e (ofNat_ne_m1 (by have := h c rfl; omega))
    | some c' =>
      have := h c rfl
      have := h' c' rfl
      rw [show en (some c) = Int32.ofNat c from rfl, show en (some c') = Int32.ofNat c' from rfl, zi_eq (by omega) (by omega)] at e
      rw [e]
section
variable {t : List (Nat × Nat)} {I : Nat → Nat → Int32} {J : Nat → Nat → Int64} {D : Nat → Nat → Option Nat} {K : Nat → Int32} {L : Nat → Nat → Option Nat} {to : Nat} {B : Nat → Option Nat}
/-- legs, and leasts, in the class's rows -/
def zr_lg (I : Nat → Nat → Int32) (L : Nat → Nat → Option Nat) : Prop := ∀ p, p < 8 → ∀ q, q < 8 → I 15 (8 * p + q) = en (L p q)
def zr_bs (I : Nat → Nat → Int32) (B : Nat → Option Nat) : Prop := ∀ s, s < 8 → I 18 s = en (B s)
set_option maxRecDepth 20000 in
theorem cx_legOf {p q : Nat} {v : Int32} (hp : p < 8) (hq : q < 8) (hv : I 15 (p * 8 + q) = v) : jx_Ways_legOf (some 14) (Int32.ofNat p) (Int32.ofNat q) (zp_Z t I J D) = some (v, zp_Z t I J D) := by
  have hix : Int32.ofNat p * 8 + Int32.ofNat q = Int32.ofNat (p * 8 + q) := by rw [show (8 : Int32) = Int32.ofNat 8 from rfl, zi_mul, zi_add]
  have c1 : ¬ Int32.ofNat p * 8 + Int32.ofNat q < 0 := by rw [hix]; exact zi_nlt (b := 0) (by omega) (by omega)
  have c2 : ¬ (64 : Int32) ≤ Int32.ofNat p * 8 + Int32.ofNat q := by rw [hix]; exact zi_nle (a := 64) (by omega) (by omega)
  apply zp_wp_eq
  unfold jx_Ways_legOf
  (repeat (first | (with_reducible refine ss_ret ?_) | (with_reducible refine ss_bret ?_) | ((with_reducible apply ss_rc); (· first | (with_reducible assumption) | exact rfl)) | ((with_reducible apply ss_pt); (· first | (with_reducible assumption) | exact rfl); (· exact rfl)) | ((with_reducible apply ss_gR); (· first | (with_reducible assumption) | exact rfl); (· (with_reducible assumption))) | ((with_reducible apply ss_gI); (· first | (with_reducible assumption) | exact rfl); (· ((repeat (first | (with_reducible apply zr_e) | ((with_reducible apply zr_a); (· first | decide | omega)) | ((with_reducible apply zr_k); (· omega)) | (with_reducible apply zr_1e) | ((with_reducible apply zr_1a); (· first | decide | omega)))); (first | (with_reducible assumption) | exact rfl)))) | ((with_reducible apply ss_pI); (· first | (with_reducible assumption) | exact rfl)) | ((with_reducible apply ss_aI); (· first | (with_reducible assumption) | exact rfl); (· (repeat (first | (with_reducible assumption) | (with_reducible exact rfl) | (with_reducible apply zn_add) | (with_reducible apply zn_mul) | (with_reducible exact zi_lit2 _)))); (· first | omega | decide); (· decide); (· ((repeat (first | (with_reducible apply zr_e) | ((with_reducible apply zr_a); (· first | decide | omega)) | ((with_reducible apply zr_k); (· omega)) | (with_reducible apply zr_1e) | ((with_reducible apply zr_1a); (· first | decide | omega)))); (first | (with_reducible assumption) | exact rfl)))) | ((with_reducible apply ss_sI); (· first | (with_reducible assumption) | exact rfl); (· (repeat (first | (with_reducible assumption) | (with_reducible exact rfl) | (with_reducible apply zn_add) | (with_reducible apply zn_mul) | (with_reducible exact zi_lit2 _)))); (· first | omega | decide); (· decide)) | ((with_reducible apply ss_len); (· first | (with_reducible assumption) | exact rfl); (· decide)) | (with_reducible refine ss_as ?_) | (with_reducible refine ss_bor ?_) | (with_reducible refine ss_or ?_) | (with_reducible refine ss_bcl ?_) | (with_reducible refine ss_bcr ?_) | (with_reducible refine ss_cl ?_) | (with_reducible refine ss_cr ?_) | (first | ((with_reducible refine ss_biT ?_ ?_); (· first | (with_reducible assumption) | decide)) | ((with_reducible refine ss_biF ?_ ?_); (· first | (with_reducible assumption) | decide)) | ((with_reducible refine ss_iT ?_ ?_); (· first | (with_reducible assumption) | decide)) | ((with_reducible refine ss_iF ?_ ?_); (· first | (with_reducible assumption) | decide))) | ((with_reducible apply ss_pZ); (· first | (with_reducible assumption) | exact rfl); (· first | (with_reducible assumption) | exact Or.inl rfl | exact Or.inr rfl)) | ((with_reducible apply ss_dvL); (· first | (with_reducible assumption) | decide)) | ((with_reducible apply ss_rmL); (· first | (with_reducible assumption) | decide)) | ((with_reducible apply ss_rmI); (· first | (with_reducible assumption) | decide)) | ((with_reducible apply ss_rz1); (· first | (with_reducible assumption) | exact Or.inl rfl | exact Or.inr rfl))))
  exact ⟨rfl, rfl⟩
set_option maxRecDepth 20000 in
theorem cx_oneMore (hL : zr_lg I L) (hB : zr_bs I B) {k : Nat} (hM : ∀ s n a, L s n = some a → a ≤ 150000) (hk : k ≤ 7) (hm : ∀ s, s < 8 → zy_min (wy L to k s) (B s)) {s : Nat} (hs : s < 8) : ∃ o, jx_Ways_leastByOneMore (some 14) (Int32.ofNat s) (zp_Z t I J D) = some (en o, zp_Z t I J D) ∧ zy_min (wy L to (k + 1) s) o := by
  have hBM : ∀ n, n < 8 → ∀ c, B n = some c → c ≤ 7 * 150000 := fun n hn c hc => Nat.le_trans (wy_le hM k n c ((hm n hn).2 c hc)) (Nat.mul_le_mul_right _ hk)
  have hfin : (zp_wp (jx_Ways_leastByOneMore (some 14) (Int32.ofNat s)) (fun r τ => ∃ o, r = en o ∧ τ = zp_Z t I J D ∧ zy_min (wy L to (k + 1) s) o) (zp_Z t I J D)) → ∃ o, jx_Ways_leastByOneMore (some 14) (Int32.ofNat s) (zp_Z t I J D) = some (en o, zp_Z t I J D) ∧ zy_min (wy L to (k + 1) s) o := by
    rintro ⟨r, τ, h1, o, rfl, rfl, h2⟩
    exact ⟨o, h1, h2⟩
  refine hfin ?_
  unfold jx_Ways_leastByOneMore
  have hbs := hB s hs
  (repeat (first | (with_reducible refine ss_ret ?_) | (with_reducible refine ss_bret ?_) | ((with_reducible apply ss_rc); (· first | (with_reducible assumption) | exact rfl)) | ((with_reducible apply ss_pt); (· first | (with_reducible assumption) | exact rfl); (· exact rfl)) | ((with_reducible apply ss_gR); (· first | (with_reducible assumption) | exact rfl); (· (with_reducible assumption))) | ((with_reducible apply ss_gI); (· first | (with_reducible assumption) | exact rfl); (· ((repeat (first | (with_reducible apply zr_e) | ((with_reducible apply zr_a); (· first | decide | omega)) | ((with_reducible apply zr_k); (· omega)) | (with_reducible apply zr_1e) | ((with_reducible apply zr_1a); (· first | decide | omega)))); (first | (with_reducible assumption) | exact rfl)))) | ((with_reducible apply ss_pI); (· first | (with_reducible assumption) | exact rfl)) | ((with_reducible apply ss_aI); (· first | (with_reducible assumption) | exact rfl); (· (repeat (first | (with_reducible assumption) | (with_reducible exact rfl) | (with_reducible apply zn_add) | (with_reducible apply zn_mul) | (with_reducible exact zi_lit2 _)))); (· first | omega | decide); (· decide); (· ((repeat (first | (with_reducible apply zr_e) | ((with_reducible apply zr_a); (· first | decide | omega)) | ((with_reducible apply zr_k); (· omega)) | (with_reducible apply zr_1e) | ((with_reducible apply zr_1a); (· first | decide | omega)))); (first | (with_reducible assumption) | exact rfl)))) | ((with_reducible apply ss_sI); (· first | (with_reducible assumption) | exact rfl); (· (repeat (first | (with_reducible assumption) | (with_reducible exact rfl) | (with_reducible apply zn_add) | (with_reducible apply zn_mul) | (with_reducible exact zi_lit2 _)))); (· first | omega | decide); (· decide)) | ((with_reducible apply ss_len); (· first | (with_reducible assumption) | exact rfl); (· decide)) | (with_reducible refine ss_as ?_) | (with_reducible refine ss_bor ?_) | (with_reducible refine ss_or ?_) | (with_reducible refine ss_bcl ?_) | (with_reducible refine ss_bcr ?_) | (with_reducible refine ss_cl ?_) | (with_reducible refine ss_cr ?_) | (first | ((with_reducible refine ss_biT ?_ ?_); (· first | (with_reducible assumption) | decide)) | ((with_reducible refine ss_biF ?_ ?_); (· first | (with_reducible assumption) | decide)) | ((with_reducible refine ss_iT ?_ ?_); (· first | (with_reducible assumption) | decide)) | ((with_reducible refine ss_iF ?_ ?_); (· first | (with_reducible assumption) | decide))) | ((with_reducible apply ss_pZ); (· first | (with_reducible assumption) | exact rfl); (· first | (with_reducible assumption) | exact Or.inl rfl | exact Or.inr rfl)) | ((with_reducible apply ss_dvL); (· first | (with_reducible assumption) | decide)) | ((with_reducible apply ss_rmL); (· first | (with_reducible assumption) | decide)) | ((with_reducible apply ss_rmI); (· first | (with_reducible assumption) | decide)) | ((with_reducible apply ss_rz1); (· first | (with_reducible assumption) | exact Or.inl rfl | exact Or.inr rfl))))
  refine zl_g (fun i (o : Option Nat) => (en o, Int32.ofNat i)) 0 8 (s0 := B s) rfl (by omega) (by omega) (fun i o I' => I' = I ∧ (∀ c, o = some c → c ≤ 2000000) ∧ zy_min (fun c => wy L to k s c ∨ ∃ n a b, n < i ∧ n < 8 ∧ L s n = some a ∧ wy L to k n b ∧ c = a + b) o) ⟨rfl, fun c hc => Nat.le_trans (hBM s hs c hc) (by omega), zy_min_iff (hm s hs) (fun c => ⟨Or.inl, fun h => h.elim id (fun ⟨n, a, b, h, _⟩ => absurd h (Nat.not_lt_zero _))⟩)⟩ ?_ ?_
  · rintro i o I' - hi ⟨rfl, hoM, ho⟩
    have c8 : ¬ (8 : Int32) ≤ Int32.ofNat i := zi_nle (a := 8) hi (by omega)
    have hlv : I' 15 (s * 8 + i) = en (L s i) := by rw [Nat.mul_comm]; exact hL s hs i hi
    have hbi := hB i hi
    have hnext : ∀ o', (∀ c, o' = some c → c ≤ 2000000) → zy_min (fun c => wy L to k s c ∨ ∃ n a b, n < i + 1 ∧ n < 8 ∧ L s n = some a ∧ wy L to k n b ∧ c = a + b) o' → (∃ s' I2, (Sum.inl (en o', Int32.ofNat i + 1) : (Int32 × Int32) ⊕ Int32) = .inl (en s', Int32.ofNat (i + 1)) ∧ zp_Z t I' J D = zp_Z t I2 J D ∧ I2 = I' ∧ (∀ c, s' = some c → c ≤ 2000000) ∧ zy_min (fun c => wy L to k s c ∨ ∃ n a b, n < i + 1 ∧ n < 8 ∧ L s n = some a ∧ wy L to k n b ∧ c = a + b) s') := fun o' h1 h2 => ⟨o', I', by rw [zi_s], rfl, rfl, h1, h2⟩
    -- nothing new
    have hsame : (∀ a b, L s i = some a → wy L to k i b → ∃ v, o = some v ∧ v ≤ a + b) → zy_min (fun c => wy L to k s c ∨ ∃ n a b, n < i + 1 ∧ n < 8 ∧ L s n = some a ∧ wy L to k n b ∧ c = a + b) o := by
      intro hq
      refine ⟨fun c hc => ?_, fun v hv => ?_⟩
      · rcases hc with hc | ⟨n, a, b, h1, h2, h3, h4, h5⟩
        · exact ho.1 c (Or.inl hc)
        · by_cases hn : n = i
          · subst hn; rw [h5]; exact hq a b h3 h4
          · exact ho.1 c (Or.inr ⟨n, a, b, by omega, h2, h3, h4, h5⟩)
      · rcases ho.2 v hv with h | ⟨n, a, b, h1, h2⟩
        · exact Or.inl h
        · exact Or.inr ⟨n, a, b, by omega, h2⟩
    cases hla : L s i with
    | none =>
      rw [hla] at hlv
      have hlo := cx_legOf (t := t) (J := J) (D := D) hs hi hlv
      have hng : en none < 0 := by decide
      repeat (first | (first | (with_reducible refine ss_ret ?_) | (with_reducible refine ss_bret ?_) | ((with_reducible apply ss_rc); (· first | (with_reducible assumption) | exact rfl)) | ((with_reducible apply ss_pt); (· first | (with_reducible assumption) | exact rfl); (· exact rfl)) | ((with_reducible apply ss_gR); (· first | (with_reducible assumption) | exact rfl); (· (with_reducible assumption))) | ((with_reducible apply ss_gI); (· first | (with_reducible assumption) | exact rfl); (· ((repeat (first | (with_reducible apply zr_e) | ((with_reducible apply zr_a); (· first | decide | omega)) | ((with_reducible apply zr_k); (· omega)) | (with_reducible apply zr_1e) | ((with_reducible apply zr_1a); (· first | decide | omega)))); (first | (with_reducible assumption) | exact rfl)))) | ((with_reducible apply ss_pI); (· first | (with_reducible assumption) | exact rfl)) | ((with_reducible apply ss_aI); (· first | (with_reducible assumption) | exact rfl); (· (repeat (first | (with_reducible assumption) | (with_reducible exact rfl) | (with_reducible apply zn_add) | (with_reducible apply zn_mul) | (with_reducible exact zi_lit2 _)))); (· first | omega | decide); (· decide); (· ((repeat (first | (with_reducible apply zr_e) | ((with_reducible apply zr_a); (· first | decide | omega)) | ((with_reducible apply zr_k); (· omega)) | (with_reducible apply zr_1e) | ((with_reducible apply zr_1a); (· first | decide | omega)))); (first | (with_reducible assumption) | exact rfl)))) | ((with_reducible apply ss_sI); (· first | (with_reducible assumption) | exact rfl); (· (repeat (first | (with_reducible assumption) | (with_reducible exact rfl) | (with_reducible apply zn_add) | (with_reducible apply zn_mul) | (with_reducible exact zi_lit2 _)))); (· first | omega | decide); (· decide)) | ((with_reducible apply ss_len); (· first | (with_reducible assumption) | exact rfl); (· decide)) | (with_reducible refine ss_as ?_) | (with_reducible refine ss_bor ?_) | (with_reducible refine ss_or ?_) | (with_reducible refine ss_bcl ?_) | (with_reducible refine ss_bcr ?_) | (with_reducible refine ss_cl ?_) | (with_reducible refine ss_cr ?_) | (first | ((with_reducible refine ss_biT ?_ ?_); (· first | (with_reducible assumption) | decide)) | ((with_reducible refine ss_biF ?_ ?_); (· first | (with_reducible assumption) | decide)) | ((with_reducible refine ss_iT ?_ ?_); (· first | (with_reducible assumption) | decide)) | ((with_reducible refine ss_iF ?_ ?_); (· first | (with_reducible assumption) | decide))) | ((with_reducible apply ss_pZ); (· first | (with_reducible assumption) | exact rfl); (· first | (with_reducible assumption) | exact Or.inl rfl | exact Or.inr rfl)) | ((with_reducible apply ss_dvL); (· first | (with_reducible assumption) | decide)) | ((with_reducible apply ss_rmL); (· first | (with_reducible assumption) | decide)) | ((with_reducible apply ss_rmI); (· first | (with_reducible assumption) | decide)) | ((with_reducible apply ss_rz1); (· first | (with_reducible assumption) | exact Or.inl rfl | exact Or.inr rfl))) | (with_reducible refine ss_call hlo ?_))
      exact Or.inl (hnext o hoM (hsame (fun a b h => by rw [hla] at h; cases h)))
    | some a =>
      rw [hla] at hlv
      have hlo := cx_legOf (t := t) (J := J) (D := D) hs hi hlv
      have ha := hM s i a hla
      have hng : ¬ en (some a) < 0 := zi_nlt (b := 0) (a := a) (by omega) (by omega)
      cases hba : B i with
      | none =>
        rw [hba] at hbi
        have hng2 : en none < 0 := by decide
        repeat (first | (first | (with_reducible refine ss_ret ?_) | (with_reducible refine ss_bret ?_) | ((with_reducible apply ss_rc); (· first | (with_reducible assumption) | exact rfl)) | ((with_reducible apply ss_pt); (· first | (with_reducible assumption) | exact rfl); (· exact rfl)) | ((with_reducible apply ss_gR); (· first | (with_reducible assumption) | exact rfl); (· (with_reducible assumption))) | ((with_reducible apply ss_gI); (· first | (with_reducible assumption) | exact rfl); (· ((repeat (first | (with_reducible apply zr_e) | ((with_reducible apply zr_a); (· first | decide | omega)) | ((with_reducible apply zr_k); (· omega)) | (with_reducible apply zr_1e) | ((with_reducible apply zr_1a); (· first | decide | omega)))); (first | (with_reducible assumption) | exact rfl)))) | ((with_reducible apply ss_pI); (· first | (with_reducible assumption) | exact rfl)) | ((with_reducible apply ss_aI); (· first | (with_reducible assumption) | exact rfl); (· (repeat (first | (with_reducible assumption) | (with_reducible exact rfl) | (with_reducible apply zn_add) | (with_reducible apply zn_mul) | (with_reducible exact zi_lit2 _)))); (· first | omega | decide); (· decide); (· ((repeat (first | (with_reducible apply zr_e) | ((with_reducible apply zr_a); (· first | decide | omega)) | ((with_reducible apply zr_k); (· omega)) | (with_reducible apply zr_1e) | ((with_reducible apply zr_1a); (· first | decide | omega)))); (first | (with_reducible assumption) | exact rfl)))) | ((with_reducible apply ss_sI); (· first | (with_reducible assumption) | exact rfl); (· (repeat (first | (with_reducible assumption) | (with_reducible exact rfl) | (with_reducible apply zn_add) | (with_reducible apply zn_mul) | (with_reducible exact zi_lit2 _)))); (· first | omega | decide); (· decide)) | ((with_reducible apply ss_len); (· first | (with_reducible assumption) | exact rfl); (· decide)) | (with_reducible refine ss_as ?_) | (with_reducible refine ss_bor ?_) | (with_reducible refine ss_or ?_) | (with_reducible refine ss_bcl ?_) | (with_reducible refine ss_bcr ?_) | (with_reducible refine ss_cl ?_) | (with_reducible refine ss_cr ?_) | (first | ((with_reducible refine ss_biT ?_ ?_); (· first | (with_reducible assumption) | decide)) | ((with_reducible refine ss_biF ?_ ?_); (· first | (with_reducible assumption) | decide)) | ((with_reducible refine ss_iT ?_ ?_); (· first | (with_reducible assumption) | decide)) | ((with_reducible refine ss_iF ?_ ?_); (· first | (with_reducible assumption) | decide))) | ((with_reducible apply ss_pZ); (· first | (with_reducible assumption) | exact rfl); (· first | (with_reducible assumption) | exact Or.inl rfl | exact Or.inr rfl)) | ((with_reducible apply ss_dvL); (· first | (with_reducible assumption) | decide)) | ((with_reducible apply ss_rmL); (· first | (with_reducible assumption) | decide)) | ((with_reducible apply ss_rmI); (· first | (with_reducible assumption) | decide)) | ((with_reducible apply ss_rz1); (· first | (with_reducible assumption) | exact Or.inl rfl | exact Or.inr rfl))) | (with_reducible refine ss_call hlo ?_))
        exact Or.inl (hnext o hoM (hsame (fun a b _ h => by obtain ⟨v, e, -⟩ := (hm i hi).1 b h; rw [hba] at e; cases e)))
      | some b =>
        rw [hba] at hbi
        have hb := hBM i hi b hba
        have hng2 : ¬ en (some b) < 0 := zi_nlt (b := 0) (a := b) (by omega) (by omega)
        have hsum : en (some a) + en (some b) = en (some (a + b)) := zi_add a b
        -- it is less
        have hless : zy_omin o (a + b) = some (a + b) → zy_min (fun c => wy L to k s c ∨ ∃ n a b, n < i + 1 ∧ n < 8 ∧ L s n = some a ∧ wy L to k n b ∧ c = a + b) (some (a + b)) := by
          intro hx
          have := zy_min_add ho (a + b)
          rw [hx] at this
          refine ⟨fun c hc => ?_, fun v hv => ?_⟩
          · rcases hc with hc | ⟨n, a', b', h1, h2, h3, h4, h5⟩
            · exact this.1 c (Or.inl (Or.inl hc))
            · by_cases hn : n = i
              · subst hn
                obtain ⟨v, e, hv⟩ := (hm n h2).1 b' h4
                rw [hba] at e; cases e
                rw [hla] at h3; cases h3
                exact ⟨a + b, rfl, by omega⟩
              · exact this.1 c (Or.inl (Or.inr ⟨n, a', b', by omega, h2, h3, h4, h5⟩))
          · cases hv
            exact Or.inr ⟨i, a, b, by omega, hi, hla, (hm i hi).2 b hba, rfl⟩
        cases o with
        | none =>
          have hng3 : en none < 0 := by decide
          repeat (first | (first | (with_reducible refine ss_ret ?_) | (with_reducible refine ss_bret ?_) | ((with_reducible apply ss_rc); (· first | (with_reducible assumption) | exact rfl)) | ((with_reducible apply ss_pt); (· first | (with_reducible assumption) | exact rfl); (· exact rfl)) | ((with_reducible apply ss_gR); (· first | (with_reducible assumption) | exact rfl); (· (with_reducible assumption))) | ((with_reducible apply ss_gI); (· first | (with_reducible assumption) | exact rfl); (· ((repeat (first | (with_reducible apply zr_e) | ((with_reducible apply zr_a); (· first | decide | omega)) | ((with_reducible apply zr_k); (· omega)) | (with_reducible apply zr_1e) | ((with_reducible apply zr_1a); (· first | decide | omega)))); (first | (with_reducible assumption) | exact rfl)))) | ((with_reducible apply ss_pI); (· first | (with_reducible assumption) | exact rfl)) | ((with_reducible apply ss_aI); (· first | (with_reducible assumption) | exact rfl); (· (repeat (first | (with_reducible assumption) | (with_reducible exact rfl) | (with_reducible apply zn_add) | (with_reducible apply zn_mul) | (with_reducible exact zi_lit2 _)))); (· first | omega | decide); (· decide); (· ((repeat (first | (with_reducible apply zr_e) | ((with_reducible apply zr_a); (· first | decide | omega)) | ((with_reducible apply zr_k); (· omega)) | (with_reducible apply zr_1e) | ((with_reducible apply zr_1a); (· first | decide | omega)))); (first | (with_reducible assumption) | exact rfl)))) | ((with_reducible apply ss_sI); (· first | (with_reducible assumption) | exact rfl); (· (repeat (first | (with_reducible assumption) | (with_reducible exact rfl) | (with_reducible apply zn_add) | (with_reducible apply zn_mul) | (with_reducible exact zi_lit2 _)))); (· first | omega | decide); (· decide)) | ((with_reducible apply ss_len); (· first | (with_reducible assumption) | exact rfl); (· decide)) | (with_reducible refine ss_as ?_) | (with_reducible refine ss_bor ?_) | (with_reducible refine ss_or ?_) | (with_reducible refine ss_bcl ?_) | (with_reducible refine ss_bcr ?_) | (with_reducible refine ss_cl ?_) | (with_reducible refine ss_cr ?_) | (first | ((with_reducible refine ss_biT ?_ ?_); (· first | (with_reducible assumption) | decide)) | ((with_reducible refine ss_biF ?_ ?_); (· first | (with_reducible assumption) | decide)) | ((with_reducible refine ss_iT ?_ ?_); (· first | (with_reducible assumption) | decide)) | ((with_reducible refine ss_iF ?_ ?_); (· first | (with_reducible assumption) | decide))) | ((with_reducible apply ss_pZ); (· first | (with_reducible assumption) | exact rfl); (· first | (with_reducible assumption) | exact Or.inl rfl | exact Or.inr rfl)) | ((with_reducible apply ss_dvL); (· first | (with_reducible assumption) | decide)) | ((with_reducible apply ss_rmL); (· first | (with_reducible assumption) | decide)) | ((with_reducible apply ss_rmI); (· first | (with_reducible assumption) | decide)) | ((with_reducible apply ss_rz1); (· first | (with_reducible assumption) | exact Or.inl rfl | exact Or.inr rfl))) | (with_reducible refine ss_call hlo ?_))
          rw [hsum]
          exact Or.inl (hnext _ (fun c hc => by cases hc; omega) (hless rfl))
        | some v =>
          have hv := hoM v rfl
          have hng3 : ¬ en (some v) < 0 := zi_nlt (b := 0) (a := v) (by omega) (by omega)
          by_cases hlt : a + b < v
          · have hc : ¬ en (some v) ≤ en (some a) + en (some b) := by rw [hsum]; exact zi_nle hlt (by omega)
            repeat (first | (first | (with_reducible refine ss_ret ?_) | (with_reducible refine ss_bret ?_) | ((with_reducible apply ss_rc); (· first | (with_reducible assumption) | exact rfl)) | ((with_reducible apply ss_pt); (· first | (with_reducible assumption) | exact rfl); (· exact rfl)) | ((with_reducible apply ss_gR); (· first | (with_reducible assumption) | exact rfl); (· (with_reducible assumption))) | ((with_reducible apply ss_gI); (· first | (with_reducible assumption) | exact rfl); (· ((repeat (first | (with_reducible apply zr_e) | ((with_reducible apply zr_a); (· first | decide | omega)) | ((with_reducible apply zr_k); (· omega)) | (with_reducible apply zr_1e) | ((with_reducible apply zr_1a); (· first | decide | omega)))); (first | (with_reducible assumption) | exact rfl)))) | ((with_reducible apply ss_pI); (· first | (with_reducible assumption) | exact rfl)) | ((with_reducible apply ss_aI); (· first | (with_reducible assumption) | exact rfl); (· (repeat (first | (with_reducible assumption) | (with_reducible exact rfl) | (with_reducible apply zn_add) | (with_reducible apply zn_mul) | (with_reducible exact zi_lit2 _)))); (· first | omega | decide); (· decide); (· ((repeat (first | (with_reducible apply zr_e) | ((with_reducible apply zr_a); (· first | decide | omega)) | ((with_reducible apply zr_k); (· omega)) | (with_reducible apply zr_1e) | ((with_reducible apply zr_1a); (· first | decide | omega)))); (first | (with_reducible assumption) | exact rfl)))) | ((with_reducible apply ss_sI); (· first | (with_reducible assumption) | exact rfl); (· (repeat (first | (with_reducible assumption) | (with_reducible exact rfl) | (with_reducible apply zn_add) | (with_reducible apply zn_mul) | (with_reducible exact zi_lit2 _)))); (· first | omega | decide); (· decide)) | ((with_reducible apply ss_len); (· first | (with_reducible assumption) | exact rfl); (· decide)) | (with_reducible refine ss_as ?_) | (with_reducible refine ss_bor ?_) | (with_reducible refine ss_or ?_) | (with_reducible refine ss_bcl ?_) | (with_reducible refine ss_bcr ?_) | (with_reducible refine ss_cl ?_) | (with_reducible refine ss_cr ?_) | (first | ((with_reducible refine ss_biT ?_ ?_); (· first | (with_reducible assumption) | decide)) | ((with_reducible refine ss_biF ?_ ?_); (· first | (with_reducible assumption) | decide)) | ((with_reducible refine ss_iT ?_ ?_); (· first | (with_reducible assumption) | decide)) | ((with_reducible refine ss_iF ?_ ?_); (· first | (with_reducible assumption) | decide))) | ((with_reducible apply ss_pZ); (· first | (with_reducible assumption) | exact rfl); (· first | (with_reducible assumption) | exact Or.inl rfl | exact Or.inr rfl)) | ((with_reducible apply ss_dvL); (· first | (with_reducible assumption) | decide)) | ((with_reducible apply ss_rmL); (· first | (with_reducible assumption) | decide)) | ((with_reducible apply ss_rmI); (· first | (with_reducible assumption) | decide)) | ((with_reducible apply ss_rz1); (· first | (with_reducible assumption) | exact Or.inl rfl | exact Or.inr rfl))) | (with_reducible refine ss_call hlo ?_))
            rw [hsum]
            exact Or.inl (hnext _ (fun c hc => by cases hc; omega) (hless (by simp [zy_omin, hlt])))
          · have hc : en (some v) ≤ en (some a) + en (some b) := by rw [hsum]; exact zi_leL (by omega) (by omega)
            repeat (first | (first | (with_reducible refine ss_ret ?_) | (with_reducible refine ss_bret ?_) | ((with_reducible apply ss_rc); (· first | (with_reducible assumption) | exact rfl)) | ((with_reducible apply ss_pt); (· first | (with_reducible assumption) | exact rfl); (· exact rfl)) | ((with_reducible apply ss_gR); (· first | (with_reducible assumption) | exact rfl); (· (with_reducible assumption))) | ((with_reducible apply ss_gI); (· first | (with_reducible assumption) | exact rfl); (· ((repeat (first | (with_reducible apply zr_e) | ((with_reducible apply zr_a); (· first | decide | omega)) | ((with_reducible apply zr_k); (· omega)) | (with_reducible apply zr_1e) | ((with_reducible apply zr_1a); (· first | decide | omega)))); (first | (with_reducible assumption) | exact rfl)))) | ((with_reducible apply ss_pI); (· first | (with_reducible assumption) | exact rfl)) | ((with_reducible apply ss_aI); (· first | (with_reducible assumption) | exact rfl); (· (repeat (first | (with_reducible assumption) | (with_reducible exact rfl) | (with_reducible apply zn_add) | (with_reducible apply zn_mul) | (with_reducible exact zi_lit2 _)))); (· first | omega | decide); (· decide); (· ((repeat (first | (with_reducible apply zr_e) | ((with_reducible apply zr_a); (· first | decide | omega)) | ((with_reducible apply zr_k); (· omega)) | (with_reducible apply zr_1e) | ((with_reducible apply zr_1a); (· first | decide | omega)))); (first | (with_reducible assumption) | exact rfl)))) | ((with_reducible apply ss_sI); (· first | (with_reducible assumption) | exact rfl); (· (repeat (first | (with_reducible assumption) | (with_reducible exact rfl) | (with_reducible apply zn_add) | (with_reducible apply zn_mul) | (with_reducible exact zi_lit2 _)))); (· first | omega | decide); (· decide)) | ((with_reducible apply ss_len); (· first | (with_reducible assumption) | exact rfl); (· decide)) | (with_reducible refine ss_as ?_) | (with_reducible refine ss_bor ?_) | (with_reducible refine ss_or ?_) | (with_reducible refine ss_bcl ?_) | (with_reducible refine ss_bcr ?_) | (with_reducible refine ss_cl ?_) | (with_reducible refine ss_cr ?_) | (first | ((with_reducible refine ss_biT ?_ ?_); (· first | (with_reducible assumption) | decide)) | ((with_reducible refine ss_biF ?_ ?_); (· first | (with_reducible assumption) | decide)) | ((with_reducible refine ss_iT ?_ ?_); (· first | (with_reducible assumption) | decide)) | ((with_reducible refine ss_iF ?_ ?_); (· first | (with_reducible assumption) | decide))) | ((with_reducible apply ss_pZ); (· first | (with_reducible assumption) | exact rfl); (· first | (with_reducible assumption) | exact Or.inl rfl | exact Or.inr rfl)) | ((with_reducible apply ss_dvL); (· first | (with_reducible assumption) | decide)) | ((with_reducible apply ss_rmL); (· first | (with_reducible assumption) | decide)) | ((with_reducible apply ss_rmI); (· first | (with_reducible assumption) | decide)) | ((with_reducible apply ss_rz1); (· first | (with_reducible assumption) | exact Or.inl rfl | exact Or.inr rfl))) | (with_reducible refine ss_call hlo ?_))
            exact Or.inl (hnext _ hoM (hsame (fun a' b' h h' => by
              rw [hla] at h; cases h
              obtain ⟨u, e, hu⟩ := (hm i hi).1 b' h'
              rw [hba] at e; cases e
              exact ⟨v, rfl, by omega⟩)))
  · rintro o I' ⟨rfl, -, ho⟩
    have c8 : (8 : Int32) ≤ Int32.ofNat 8 := by decide
    (repeat (first | (with_reducible refine ss_ret ?_) | (with_reducible refine ss_bret ?_) | ((with_reducible apply ss_rc); (· first | (with_reducible assumption) | exact rfl)) | ((with_reducible apply ss_pt); (· first | (with_reducible assumption) | exact rfl); (· exact rfl)) | ((with_reducible apply ss_gR); (· first | (with_reducible assumption) | exact rfl); (· (with_reducible assumption))) | ((with_reducible apply ss_gI); (· first | (with_reducible assumption) | exact rfl); (· ((repeat (first | (with_reducible apply zr_e) | ((with_reducible apply zr_a); (· first | decide | omega)) | ((with_reducible apply zr_k); (· omega)) | (with_reducible apply zr_1e) | ((with_reducible apply zr_1a); (· first | decide | omega)))); (first | (with_reducible assumption) | exact rfl)))) | ((with_reducible apply ss_pI); (· first | (with_reducible assumption) | exact rfl)) | ((with_reducible apply ss_aI); (· first | (with_reducible assumption) | exact rfl); (· (repeat (first | (with_reducible assumption) | (with_reducible exact rfl) | (with_reducible apply zn_add) | (with_reducible apply zn_mul) | (with_reducible exact zi_lit2 _)))); (· first | omega | decide); (· decide); (· ((repeat (first | (with_reducible apply zr_e) | ((with_reducible apply zr_a); (· first | decide | omega)) | ((with_reducible apply zr_k); (· omega)) | (with_reducible apply zr_1e) | ((with_reducible apply zr_1a); (· first | decide | omega)))); (first | (with_reducible assumption) | exact rfl)))) | ((with_reducible apply ss_sI); (· first | (with_reducible assumption) | exact rfl); (· (repeat (first | (with_reducible assumption) | (with_reducible exact rfl) | (with_reducible apply zn_add) | (with_reducible apply zn_mul) | (with_reducible exact zi_lit2 _)))); (· first | omega | decide); (· decide)) | ((with_reducible apply ss_len); (· first | (with_reducible assumption) | exact rfl); (· decide)) | (with_reducible refine ss_as ?_) | (with_reducible refine ss_bor ?_) | (with_reducible refine ss_or ?_) | (with_reducible refine ss_bcl ?_) | (with_reducible refine ss_bcr ?_) | (with_reducible refine ss_cl ?_) | (with_reducible refine ss_cr ?_) | (first | ((with_reducible refine ss_biT ?_ ?_); (· first | (with_reducible assumption) | decide)) | ((with_reducible refine ss_biF ?_ ?_); (· first | (with_reducible assumption) | decide)) | ((with_reducible refine ss_iT ?_ ?_); (· first | (with_reducible assumption) | decide)) | ((with_reducible refine ss_iF ?_ ?_); (· first | (with_reducible assumption) | decide))) | ((with_reducible apply ss_pZ); (· first | (with_reducible assumption) | exact rfl); (· first | (with_reducible assumption) | exact Or.inl rfl | exact Or.inr rfl)) | ((with_reducible apply ss_dvL); (· first | (with_reducible assumption) | decide)) | ((with_reducible apply ss_rmL); (· first | (with_reducible assumption) | decide)) | ((with_reducible apply ss_rmI); (· first | (with_reducible assumption) | decide)) | ((with_reducible apply ss_rz1); (· first | (with_reducible assumption) | exact Or.inl rfl | exact Or.inr rfl))))
    refine ⟨_, rfl, ?_⟩
    (repeat (first | (with_reducible refine ss_ret ?_) | (with_reducible refine ss_bret ?_) | ((with_reducible apply ss_rc); (· first | (with_reducible assumption) | exact rfl)) | ((with_reducible apply ss_pt); (· first | (with_reducible assumption) | exact rfl); (· exact rfl)) | ((with_reducible apply ss_gR); (· first | (with_reducible assumption) | exact rfl); (· (with_reducible assumption))) | ((with_reducible apply ss_gI); (· first | (with_reducible assumption) | exact rfl); (· ((repeat (first | (with_reducible apply zr_e) | ((with_reducible apply zr_a); (· first | decide | omega)) | ((with_reducible apply zr_k); (· omega)) | (with_reducible apply zr_1e) | ((with_reducible apply zr_1a); (· first | decide | omega)))); (first | (with_reducible assumption) | exact rfl)))) | ((with_reducible apply ss_pI); (· first | (with_reducible assumption) | exact rfl)) | ((with_reducible apply ss_aI); (· first | (with_reducible assumption) | exact rfl); (· (repeat (first | (with_reducible assumption) | (with_reducible exact rfl) | (with_reducible apply zn_add) | (with_reducible apply zn_mul) | (with_reducible exact zi_lit2 _)))); (· first | omega | decide); (· decide); (· ((repeat (first | (with_reducible apply zr_e) | ((with_reducible apply zr_a); (· first | decide | omega)) | ((with_reducible apply zr_k); (· omega)) | (with_reducible apply zr_1e) | ((with_reducible apply zr_1a); (· first | decide | omega)))); (first | (with_reducible assumption) | exact rfl)))) | ((with_reducible apply ss_sI); (· first | (with_reducible assumption) | exact rfl); (· (repeat (first | (with_reducible assumption) | (with_reducible exact rfl) | (with_reducible apply zn_add) | (with_reducible apply zn_mul) | (with_reducible exact zi_lit2 _)))); (· first | omega | decide); (· decide)) | ((with_reducible apply ss_len); (· first | (with_reducible assumption) | exact rfl); (· decide)) | (with_reducible refine ss_as ?_) | (with_reducible refine ss_bor ?_) | (with_reducible refine ss_or ?_) | (with_reducible refine ss_bcl ?_) | (with_reducible refine ss_bcr ?_) | (with_reducible refine ss_cl ?_) | (with_reducible refine ss_cr ?_) | (first | ((with_reducible refine ss_biT ?_ ?_); (· first | (with_reducible assumption) | decide)) | ((with_reducible refine ss_biF ?_ ?_); (· first | (with_reducible assumption) | decide)) | ((with_reducible refine ss_iT ?_ ?_); (· first | (with_reducible assumption) | decide)) | ((with_reducible refine ss_iF ?_ ?_); (· first | (with_reducible assumption) | decide))) | ((with_reducible apply ss_pZ); (· first | (with_reducible assumption) | exact rfl); (· first | (with_reducible assumption) | exact Or.inl rfl | exact Or.inr rfl)) | ((with_reducible apply ss_dvL); (· first | (with_reducible assumption) | decide)) | ((with_reducible apply ss_rmL); (· first | (with_reducible assumption) | decide)) | ((with_reducible apply ss_rmI); (· first | (with_reducible assumption) | decide)) | ((with_reducible apply ss_rz1); (· first | (with_reducible assumption) | exact Or.inl rfl | exact Or.inr rfl))))
    exact ⟨o, rfl, rfl, zy_min_iff ho (fun c => ⟨fun h => h.elim Or.inl (fun ⟨n, a, b, _, h2⟩ => Or.inr ⟨n, a, b, h2⟩), fun h => h.elim Or.inl (fun ⟨n, a, b, h2⟩ => Or.inr ⟨n, a, b, h2.1, h2⟩)⟩)⟩
end
