/-! thereAndBack: both ways of telling it have the same least. -/
section
variable {K : Nat → Int32} {n m p q : Nat}
set_option maxRecDepth 20000 in
theorem tb_pos {c e x : Nat} (hpq : p ≠ q) (hc : c ≤ zd p q) (he : e ≤ zd p q) (h1 : p < q → sd p q c < x ∧ x ≤ sd p q e) (h2 : q < p → x < sd p q c ∧ sd p q e ≤ x) : ∃ d, c < d ∧ d ≤ e ∧ sd p q d = x := by
  rcases Nat.lt_or_gt_of_ne hpq with h | h
  · obtain ⟨a1, a2⟩ := tb_up h hc
    obtain ⟨b1, b2⟩ := tb_up h he
    obtain ⟨c1, c2⟩ := h1 h
    refine ⟨x - p, by omega, by omega, ?_⟩
    rw [(tb_up h (d := x - p) (by omega)).1]; omega
  · obtain ⟨a1, a2, a3⟩ := tb_dn h hc
    obtain ⟨b1, b2, b3⟩ := tb_dn h he
    obtain ⟨c1, c2⟩ := h2 h
    refine ⟨p - x, by omega, by omega, ?_⟩
    rw [(tb_dn h (d := p - x) (by omega)).1]; omega
set_option maxRecDepth 20000 in
theorem tb_pos2 {c e x : Nat} (hpq : p ≠ q) (hc : c ≤ zd p q) (he : e ≤ zd p q) (h1 : p < q → sd p q c ≤ x ∧ x < sd p q e) (h2 : q < p → x ≤ sd p q c ∧ sd p q e < x) : ∃ d, c ≤ d ∧ d < e ∧ sd p q d = x := by
  rcases Nat.lt_or_gt_of_ne hpq with h | h
  · obtain ⟨a1, a2⟩ := tb_up h hc
    obtain ⟨b1, b2⟩ := tb_up h he
    obtain ⟨c1, c2⟩ := h1 h
    refine ⟨x - p, by omega, by omega, ?_⟩
    rw [(tb_up h (d := x - p) (by omega)).1]; omega
  · obtain ⟨a1, a2, a3⟩ := tb_dn h hc
    obtain ⟨b1, b2, b3⟩ := tb_dn h he
    obtain ⟨c1, c2⟩ := h2 h
    refine ⟨p - x, by omega, by omega, ?_⟩
    rw [(tb_dn h (d := p - x) (by omega)).1]; omega
set_option maxRecDepth 20000 in
theorem tb_ord (hpq : p ≠ q) {i e : Nat} (hie : i < e) (he : e ≤ zd p q) : (p < q → sd p q i < sd p q e) ∧ (q < p → sd p q e < sd p q i) ∧ sd p q i ≠ sd p q e := by
  rcases Nat.lt_or_gt_of_ne hpq with h | h
  · obtain ⟨a1, a2⟩ := tb_up h he
    obtain ⟨b1, b2⟩ := tb_up h (d := i) (by omega)
    exact ⟨fun _ => by omega, fun h' => by omega, by omega⟩
  · obtain ⟨a1, a2, a3⟩ := tb_dn h he
    obtain ⟨b1, b2, b3⟩ := tb_dn h (d := i) (by omega)
    exact ⟨fun h' => by omega, fun _ => by omega, by omega⟩
set_option maxRecDepth 20000 in
theorem tb_goes1 (hp : p < 8) (hq : q < 8) (hg : sp_goes K n p q = true) {i e : Nat} (hie : i < e) (he : e ≤ zd p q) (o1 : tk1 K n p q i) (o2 : tk1 K n p q e) : sp_goes K n (sd p q i) (sd p q e) = true := by
  obtain ⟨g1, g2, g3, g4, g5⟩ := sp_goes_T hp hq hg
  obtain ⟨t1, t2, t3⟩ := tb_ord g1 hie he
  exact sp_goes_I (tb_lt hp hq (by omega)) (tb_lt hp hq he) t3 o1 o2 (fun u => t1 (g4 u)) (fun u => t2 (g5 u))
set_option maxRecDepth 20000 in
theorem tb_goes2 (hp : p < 8) (hq : q < 8) (hg : sp_goes K m q p = true) {i e : Nat} (hie : i < e) (he : e ≤ zd p q) (o1 : tk1 K m p q i) (o2 : tk1 K m p q e) : sp_goes K m (sd p q e) (sd p q i) = true := by
  obtain ⟨g1, g2, g3, g4, g5⟩ := sp_goes_T hq hp hg
  obtain ⟨t1, t2, t3⟩ := tb_ord (Ne.symm g1) hie he
  exact sp_goes_I (tb_lt hp hq he) (tb_lt hp hq (by omega)) (Ne.symm t3) o2 o1 (fun u => t2 (g4 u)) (fun u => t1 (g5 u))
set_option maxRecDepth 20000 in
theorem tb_lg {u v : Nat} (hu : u < 8) (hv : v < 8) (h : sp_goes K n u v = true) : sp_lg K n u v = sp_sgl K n u v := by
  unfold sp_lg; rw [if_pos ⟨hu, hv, h⟩]
set_option maxRecDepth 20000 in
/-- where legs of a train lead -/
theorem tb_dir1 (hp : p < 8) (hq : q < 8) (hg : sp_goes K n p q = true) {s x a : Nat} (h : sp_lg K n s x = some a) : (p < q → s < x) ∧ (q < p → x < s) ∧ s < 8 ∧ x < 8 ∧ zs_stop K n s = true ∧ zs_stop K n x = true := by
  obtain ⟨-, h1, h2, h3, -⟩ := sp_lg_s h
  obtain ⟨g1, g2, g3, g4, g5⟩ := sp_goes_T hp hq hg
  obtain ⟨f1, f2, f3, f4, f5⟩ := sp_goes_T h1 h2 h3
  by_cases u : K (201 + n) = 1
  · have := g4 u; have := f4 u
    exact ⟨fun _ => by omega, fun _ => by omega, h1, h2, f2, f3⟩
  · have := g5 u; have := f5 u
    exact ⟨fun _ => by omega, fun _ => by omega, h1, h2, f2, f3⟩
set_option maxRecDepth 20000 in
theorem tb_ahead (hp : p < 8) (hq : q < 8) (hg : sp_goes K n p q = true) {to k s c : Nat} (h : wy (sp_lg K n) to k s c) : (p < q → s ≤ to) ∧ (q < p → to ≤ s) := by
  exact ⟨fun hpq => wy_up (fun s x a hx => (tb_dir1 hp hq hg hx).1 hpq) k s c h, fun hpq => wy_dn (fun s x a hx => (tb_dir1 hp hq hg hx).2.1 hpq) k s c h⟩
set_option maxRecDepth 20000 in
theorem tb_fO {u v a : Nat} (h : sp_lg K n u v = some a) : fO (sp_sgl K n u v) = a := by
  rw [(sp_lg_s h).2.2.2.2]; rfl
set_option maxRecDepth 20000 in
theorem tb_CH1 (hp : p < 8) (hq : q < 8) (hg : sp_goes K n p q = true) {e : Nat} (he : e ≤ zd p q) : ∀ k c f, c ≤ zd p q → wy (sp_lg K n) (sd p q e) k (sd p q c) f → c ≤ e ∧ CH (tk1 K n p q) (tpA K n p q) c (e - c) e f
  | 0, c, f, hc, h => by
    obtain ⟨h1, rfl⟩ := h
    have := tb_inj hc he h1
    subst this
    rw [Nat.sub_self]
    exact ⟨Nat.le_refl _, rfl, rfl⟩
  | k + 1, c, f, hc, h => by
    rcases h with h | ⟨x, a, b, hx, ha, hb, rfl⟩
    · exact tb_CH1 hp hq hg he k c f hc h
    · have hpq := (sp_goes_T hp hq hg).1
      obtain ⟨d1, d2, -, -, -, d6⟩ := tb_dir1 hp hq hg ha
      obtain ⟨w1, w2⟩ := tb_ahead hp hq hg hb
      obtain ⟨d, hcd, hde, rfl⟩ := tb_pos hpq hc he (fun h => ⟨d1 h, w1 h⟩) (fun h => ⟨d2 h, w2 h⟩)
      obtain ⟨i1, i2⟩ := tb_CH1 hp hq hg he k d b (by omega) hb
      refine ⟨by omega, ?_⟩
      have one : CH (tk1 K n p q) (tpA K n p q) c (d - c) d a := by
        have := CH_app (ok := tk1 K n p q) (w := tpA K n p q) (c := c) (m := 0) (i := c) (f := 0) ⟨rfl, rfl⟩ (e := d) (by omega) d6
        rw [show 0 + tpA K n p q c d = a by rw [Nat.zero_add]; exact tb_fO ha] at this
        exact this
      obtain ⟨u, rfl⟩ : ∃ u, d = c + u := ⟨d - c, by omega⟩
      rw [show c + u - c = u by omega] at one
      have := CH_comp one (e - (c + u)) e b i2
      rw [show u + (e - (c + u)) = e - c by omega] at this
      exact this
set_option maxRecDepth 20000 in
theorem tb_CH2 (hp : p < 8) (hq : q < 8) (hg : sp_goes K m q p = true) {c : Nat} (hc : c ≤ zd p q) : ∀ k e g, e ≤ zd p q → wy (sp_lg K m) (sd p q c) k (sd p q e) g → c ≤ e ∧ CH (tk1 K m p q) (fun j e => tpA K m p q e j) c (e - c) e g
  | 0, e, g, he, h => by
    obtain ⟨h1, rfl⟩ := h
    have := tb_inj he hc h1
    subst this
    rw [Nat.sub_self]
    exact ⟨Nat.le_refl _, rfl, rfl⟩
  | k + 1, e, g, he, h => by
    rcases h with h | ⟨x, a, b, hx, ha, hb, rfl⟩
    · exact tb_CH2 hp hq hg hc k e g he h
    · have hpq := (sp_goes_T hq hp hg).1
      obtain ⟨d1, d2, -, -, d5, -⟩ := tb_dir1 hq hp hg ha
      obtain ⟨w1, w2⟩ := tb_ahead hq hp hg hb
      obtain ⟨d, hcd, hde, rfl⟩ := tb_pos2 (Ne.symm hpq) hc he (fun h => ⟨w2 h, d2 h⟩) (fun h => ⟨w1 h, d1 h⟩)
      obtain ⟨i1, i2⟩ := tb_CH2 hp hq hg hc k d b (by omega) hb
      refine ⟨by omega, ?_⟩
      have := CH_app i2 (e := e) (by omega) d5
      rw [show b + tpA K m p q e d = a + b by rw [show tpA K m p q e d = a from tb_fO ha]; omega] at this
      exact this
variable (hn : n < 6) (hm : m < 6) (h1 : sp_has K (Int32.ofNat n) = true) (h2 : sp_has K (Int32.ofNat m) = true)
set_option maxRecDepth 20000 in
/-- a joint leg by SINGLES -/
theorem tb_J1 (hn : n < 6) (hm : m < 6) (h1 : sp_has K (Int32.ofNat n) = true) (h2 : sp_has K (Int32.ofNat m) = true) {u v f g k k' : Nat} (hu : u < 8) (hv : v < 8) (huv : u ≠ v) (hf : wy (sp_lg K n) v k u f) (hg : wy (sp_lg K m) u k' v g) : ∃ j, j ≤ f + g ∧ sp_J K (Int32.ofNat n) (Int32.ofNat m) u v = some j := by
  have gn := wy_goes hv k u f hu huv hf
  have gm := wy_goes hu k' v g hv (Ne.symm huv) hg
  have f7 := wy_seven' (sp_lg_dir hu hv gn) hu hf
  have g7 := wy_seven' (sp_lg_dir hv hu gm) hv hg
  have on : ∀ (n u v f : Nat), n < 6 → sp_has K (Int32.ofNat n) = true → u < 8 → v < 8 → u ≠ v → wy (sp_lg K n) v 7 u f → ∃ f', f' ≤ f ∧ sp_on K (Int32.ofNat n) 7 (Int32.ofNat u) (Int32.ofNat v) = some f' := by
    intro n u v f hn hh hu hv huv hw
    obtain ⟨f', e, hf'⟩ := (sp_min_min (wy (sp_lg K n) v 7 u)).1 f hw
    refine ⟨f', hf', ?_⟩
    unfold sp_on
    rw [hh, zs_legN hu hv, decide_eq_true huv, if_pos (by decide), zi_ixn (by omega), zi_ixn (by omega), zi_ixn (by omega)]
    unfold sp_by
    rw [if_neg huv]; exact e
  obtain ⟨f', hf', ef⟩ := on n u v f hn h1 hu hv huv f7
  obtain ⟨g', hg', eg⟩ := on m v u g hm h2 hv hu (Ne.symm huv) g7
  have ej : sp_jo K (Int32.ofNat n) (Int32.ofNat m) u v = some (f' + g') := by unfold sp_jo; rw [ef, eg]
  unfold sp_J
  rw [if_pos ⟨hu, hv⟩, ej]
  cases sp_rt K (Int32.ofNat n) (Int32.ofNat m) u v with
  | none => exact ⟨f' + g', by omega, rfl⟩
  | some r =>
    refine ⟨if r < f' + g' then r else f' + g', ?_, rfl⟩
    split <;> omega
set_option maxRecDepth 20000 in
/-- a joint leg by a RETURN -/
theorem tb_J2 (hn : n < 6) (hm : m < 6) (h1 : sp_has K (Int32.ofNat n) = true) (h2 : sp_has K (Int32.ofNat m) = true) {u v : Nat} (hu : u < 8) (hv : v < 8) (gn : sp_goes K n u v = true) (gm : sp_goes K m v u = true) (hr : fO (sp_rr K n m u v) < 100000000) : ∃ j, j ≤ fO (sp_rr K n m u v) ∧ sp_J K (Int32.ofNat n) (Int32.ofNat m) u v = some j := by
  have hs := fO_lt hr
  have ert : sp_rt K (Int32.ofNat n) (Int32.ofNat m) u v = some (fO (sp_rr K n m u v)) := by
    rw [← hs]
    unfold sp_rr at hs ⊢
    unfold sp_rt
    split at hs
    · cases hs
    · next hh =>
      rw [if_neg hh]
      have b1 : sp_bars K 1 (Int32.ofNat u) (Int32.ofNat v) (K (207 + n)) = false := by
        rw [← Bool.not_eq_true]; exact fun e => hh (Or.inl e)
      have b2 : sp_bars K 1 (Int32.ofNat u) (Int32.ofNat v) (K (207 + m)) = false := by
        rw [← Bool.not_eq_true]; exact fun e => hh (Or.inr e)
      rw [zi_ixn (show n < 2147483648 by omega), zi_ixn (show m < 2147483648 by omega), h1, h2, gn, gm, b1, b2]
      rfl
  unfold sp_J
  rw [if_pos ⟨hu, hv⟩, ert]
  cases sp_jo K (Int32.ofNat n) (Int32.ofNat m) u v with
  | none => exact ⟨_, Nat.le_refl _, rfl⟩
  | some a =>
    refine ⟨if fO (sp_rr K n m u v) < a then fO (sp_rr K n m u v) else a, ?_, rfl⟩
    split <;> omega
set_option maxRecDepth 20000 in
/-- what a joint leg is made of -/
theorem tb_J3 (hn : n < 6) (hm : m < 6) {u v j : Nat} (h : sp_J K (Int32.ofNat n) (Int32.ofNat m) u v = some j) : u < 8 ∧ v < 8 ∧ sp_goes K n u v = true ∧ sp_goes K m v u = true ∧ ((∃ f g, j = f + g ∧ wy (sp_lg K n) v 7 u f ∧ wy (sp_lg K m) u 7 v g) ∨ fO (sp_rr K n m u v) = j) := by
  unfold sp_J at h
  split at h
  · next hh =>
    obtain ⟨hu, hv⟩ := hh
    rcases jn_le h with h | h
    · unfold sp_jo at h
      split at h
      · next f g hf hg =>
        cases h
        obtain ⟨-, -, n1, w1⟩ := sp_on9 hf hu hv
        obtain ⟨-, -, n2, w2⟩ := sp_on9 hg hv hu
        rw [zi_ixn (by omega)] at w1 w2
        exact ⟨hu, hv, wy_goes hv 7 u f hu n1 w1, wy_goes hu 7 v g hv n2 w2, Or.inl ⟨f, g, rfl, w1, w2⟩⟩
      · cases h
    · obtain ⟨c1, c2, c3, c4, c5, c6, c7, c8⟩ := sp_rt_s hu hv h
      rw [zi_ixn (by omega)] at c4 c5 c6 c7
      refine ⟨hu, hv, c4, c5, Or.inr ?_⟩
      unfold sp_rr
      rw [if_neg (by rw [c6, c7]; rintro (e | e) <;> cases e), c8]
      show sf_ix (Int32.ofNat j) = j
      exact zi_ixn (by omega)
  · cases h
set_option maxRecDepth 20000 in
/-- from two ways to joint legs -/
theorem tb_in (hn : n < 6) (hm : m < 6) (h1 : sp_has K (Int32.ofNat n) = true) (h2 : sp_has K (Int32.ofNat m) = true) (hp : p < 8) (hq : q < 8) (gn : sp_goes K n p q = true) (gm : sp_goes K m q p = true) : ∀ d i j T, d ≤ zd p q → RR (tk1 K n p q) (tk1 K m p q) (tpA K n p q) (tpA K m p q) (tkR K n m p q) d i j T → T < 100000000 → i ≤ d ∧ j ≤ d ∧ tk1 K n p q i ∧ tk1 K m p q j ∧ ∃ c w f g k1 k2 k3, c ≤ i ∧ c ≤ j ∧ wy (sp_J K (Int32.ofNat n) (Int32.ofNat m)) (sd p q c) k1 p w ∧ wy (sp_lg K n) (sd p q i) k2 (sd p q c) f ∧ wy (sp_lg K m) (sd p q c) k3 (sd p q j) g ∧ w + f + g ≤ T ∧ (i = j → c = i ∧ f = 0 ∧ g = 0)
  | 0, i, j, T, _, h, _ => by
    obtain ⟨rfl, rfl, rfl⟩ := h
    have e0 : sd p q 0 = p := tb_0
    refine ⟨Nat.le_refl _, Nat.le_refl _, ?_, ?_, 0, 0, 0, 0, 0, 0, 0, Nat.le_refl _, Nat.le_refl _, ⟨e0.symm, rfl⟩, ⟨rfl, rfl⟩, ⟨rfl, rfl⟩, Nat.le_refl _, fun _ => ⟨rfl, rfl, rfl⟩⟩
    · unfold tk1; rw [e0]; exact (sp_goes_T hp hq gn).2.1
    · unfold tk1; rw [e0]; exact (sp_goes_T hq hp gm).2.2.1
  | d + 1, i, j, T, hd, h, hT => by
    have ih := tb_in hn hm h1 h2 hp hq gn gm d
    have hpq := (sp_goes_T hp hq gn).1
    have e8 : ∀ x, x ≤ zd p q → sd p q x < 8 := fun x hx => tb_lt hp hq hx
    rcases h with h | ⟨o1, rfl, i', T', h, rfl⟩ | ⟨o2, rfl, j', T', h, rfl⟩ | ⟨o1, o2, rfl, rfl, i', j', T', h, rfl⟩
    · obtain ⟨a1, a2, a3, a4, a5⟩ := ih i j T (by omega) h hT
      exact ⟨by omega, by omega, a3, a4, a5⟩
    · obtain ⟨a1, a2, a3, a4, c, w, f, g, k1, k2, k3, b1, b2, b3, b4, b5, b6, b7⟩ := ih i' j T' (by omega) h (by omega)
      have hA : tpA K n p q i' (d + 1) < 100000000 := by omega
      have hs := fO_lt hA
      have hl := (tb_lg (e8 i' (by omega)) (e8 (d + 1) hd) (tb_goes1 hp hq gn (show i' < d + 1 by omega) hd a3 o1)).trans hs
      exact ⟨Nat.le_refl _, by omega, o1, a4, c, w, _, g, k1, k2 + 1, k3, by omega, b2, b3, wy_app (e8 _ hd) hl k2 _ _ b4, b5, by show w + (f + tpA K n p q i' (d + 1)) + g ≤ _; omega, fun e => by omega⟩
    · obtain ⟨a1, a2, a3, a4, c, w, f, g, k1, k2, k3, b1, b2, b3, b4, b5, b6, b7⟩ := ih i j' T' (by omega) h (by omega)
      have hB : tpA K m p q (d + 1) j' < 100000000 := by omega
      have hs := fO_lt hB
      have hl := (tb_lg (e8 (d + 1) hd) (e8 j' (by omega)) (tb_goes2 hp hq gm (show j' < d + 1 by omega) hd a4 o2)).trans hs
      exact ⟨by omega, Nat.le_refl _, a3, o2, c, w, f, _, k1, k2, k3 + 1, b1, by omega, b3, b4, Or.inr ⟨sd p q j', _, g, e8 j' (by omega), hl, b5, rfl⟩, by show w + f + (tpA K m p q (d + 1) j' + g) ≤ _; omega, fun e => by omega⟩
    · obtain ⟨a1, a2, a3, a4, c, w, f, g, k1, k2, k3, b1, b2, b3, b4, b5, b6, b7⟩ := ih i' j' T' (by omega) h (by omega)
      have fin : (∃ jj, w + jj ≤ T' + gb (tpA K n p q) (tpA K m p q) (tkR K n m p q) i' j' (d + 1) ∧ sp_J K (Int32.ofNat n) (Int32.ofNat m) (sd p q c) (sd p q (d + 1)) = some jj) → _ := fun ⟨jj, hj1, hj2⟩ => (⟨Nat.le_refl _, Nat.le_refl _, o1, o2, d + 1, w + jj, 0, 0, k1 + 1, 0, 0, Nat.le_refl _, Nat.le_refl _, wy_app (e8 _ hd) hj2 k1 _ _ b3, ⟨rfl, rfl⟩, ⟨rfl, rfl⟩, by omega, fun _ => ⟨rfl, rfl, rfl⟩⟩ : d + 1 ≤ d + 1 ∧ d + 1 ≤ d + 1 ∧ tk1 K n p q (d + 1) ∧ tk1 K m p q (d + 1) ∧ ∃ c w f g k1 k2 k3, c ≤ d + 1 ∧ c ≤ d + 1 ∧ wy (sp_J K (Int32.ofNat n) (Int32.ofNat m)) (sd p q c) k1 p w ∧ wy (sp_lg K n) (sd p q (d + 1)) k2 (sd p q c) f ∧ wy (sp_lg K m) (sd p q c) k3 (sd p q (d + 1)) g ∧ w + f + g ≤ T' + gb (tpA K n p q) (tpA K m p q) (tkR K n m p q) i' j' (d + 1) ∧ (d + 1 = d + 1 → c = d + 1 ∧ f = 0 ∧ g = 0))
      refine fin ?_
      have hcd : c < d + 1 := by omega
      have hne := (tb_ord hpq hcd hd).2.2
      -- two SINGLES
      have sing : tpA K n p q i' (d + 1) + tpA K m p q (d + 1) j' ≤ gb (tpA K n p q) (tpA K m p q) (tkR K n m p q) i' j' (d + 1) → ∃ jj, w + jj ≤ T' + gb (tpA K n p q) (tpA K m p q) (tkR K n m p q) i' j' (d + 1) ∧ sp_J K (Int32.ofNat n) (Int32.ofNat m) (sd p q c) (sd p q (d + 1)) = some jj := by
        intro hle
        have hsA := fO_lt (show tpA K n p q i' (d + 1) < 100000000 by omega)
        have hsB := fO_lt (show tpA K m p q (d + 1) j' < 100000000 by omega)
        have hlA := (tb_lg (e8 i' (by omega)) (e8 (d + 1) hd) (tb_goes1 hp hq gn (show i' < d + 1 by omega) hd a3 o1)).trans hsA
        have hlB := (tb_lg (e8 (d + 1) hd) (e8 j' (by omega)) (tb_goes2 hp hq gm (show j' < d + 1 by omega) hd a4 o2)).trans hsB
        obtain ⟨jj, hj, ej⟩ := tb_J1 hn hm h1 h2 (e8 c (by omega)) (e8 (d + 1) hd) hne (wy_app (e8 _ hd) hlA k2 _ _ b4) (k' := k3 + 1) (g := tpA K m p q (d + 1) j' + g) (Or.inr ⟨sd p q j', _, g, e8 j' (by omega), hlB, b5, rfl⟩)
        refine ⟨jj, ?_, ej⟩
        have : jj ≤ f + tpA K n p q i' (d + 1) + (tpA K m p q (d + 1) j' + g) := hj
        omega
      by_cases hij : i' = j'
      · obtain ⟨rfl, rfl, rfl⟩ := b7 hij
        subst hij
        by_cases hr : tkR K n m p q c (d + 1) < tpA K n p q c (d + 1) + tpA K m p q (d + 1) c
        · have eg : gb (tpA K n p q) (tpA K m p q) (tkR K n m p q) c c (d + 1) = tkR K n m p q c (d + 1) := by unfold gb; rw [if_pos rfl, if_pos hr]
          rw [eg] at hT ⊢
          have hR8 : fO (sp_rr K n m (sd p q c) (sd p q (d + 1))) < 100000000 := by
            have : tkR K n m p q c (d + 1) < 100000000 := by omega
            exact this
          obtain ⟨jj, hj, ej⟩ := tb_J2 hn hm h1 h2 (e8 c (by omega)) (e8 (d + 1) hd) (tb_goes1 hp hq gn hcd hd a3 o1) (tb_goes2 hp hq gm hcd hd a4 o2) hR8
          refine ⟨jj, ?_, ej⟩
          have : jj ≤ tkR K n m p q c (d + 1) := hj
          omega
        · refine sing ?_
          unfold gb
          rw [if_pos rfl, if_neg hr]
          exact Nat.le_refl _
      · refine sing ?_
        unfold gb
        rw [if_neg hij]
        exact Nat.le_refl _
set_option maxRecDepth 20000 in
/-- from joint legs to two ways -/
theorem tb_out (hn : n < 6) (hm : m < 6) (hp : p < 8) (hq : q < 8) (gn : sp_goes K n p q = true) (gm : sp_goes K m q p = true) : ∀ k c w T0, c ≤ zd p q → wy (sp_J K (Int32.ofNat n) (Int32.ofNat m)) q k (sd p q c) w → RR (tk1 K n p q) (tk1 K m p q) (tpA K n p q) (tpA K m p q) (tkR K n m p q) c c c T0 → ∃ T, T ≤ T0 + w ∧ RR (tk1 K n p q) (tk1 K m p q) (tpA K n p q) (tpA K m p q) (tkR K n m p q) (zd p q) (zd p q) (zd p q) T
  | 0, c, w, T0, hc, h, hR => by
    obtain ⟨h1, rfl⟩ := h
    have : c = zd p q := tb_inj hc (Nat.le_refl _) (h1.trans tb_N.symm)
    subst this
    exact ⟨T0, by omega, hR⟩
  | k + 1, c, w, T0, hc, h, hR => by
    rcases h with h | ⟨x, j, b, hx, hj, hb, rfl⟩
    · exact tb_out hn hm hp hq gn gm k c w T0 hc h hR
    · have hpq := (sp_goes_T hp hq gn).1
      obtain ⟨u8, x8, g1, g2, hor⟩ := tb_J3 hn hm hj
      obtain ⟨t1, t2, t3, t4, t5⟩ := sp_goes_T u8 x8 g1
      obtain ⟨s1, s2, s3, s4, s5⟩ := sp_goes_T x8 u8 g2
      obtain ⟨r1, r2, r3, r4, r5⟩ := sp_goes_T hp hq gn
      have dJ : ∀ s y a, sp_J K (Int32.ofNat n) (Int32.ofNat m) s y = some a → (p < q → s < y) ∧ (q < p → y < s) := fun s y a hy => by
        obtain ⟨v8, y8, g3, -, -⟩ := tb_J3 hn hm hy
        obtain ⟨z1, z2, z3, z4, z5⟩ := sp_goes_T v8 y8 g3
        by_cases u : K (201 + n) = 1
        · have := z4 u; have := r4 u; exact ⟨fun _ => by omega, fun _ => by omega⟩
        · have := z5 u; have := r5 u; exact ⟨fun _ => by omega, fun _ => by omega⟩
      have w1 : p < q → x ≤ q := fun h => wy_up (fun s y a hy => (dJ s y a hy).1 h) k x b hb
      have w2 : q < p → q ≤ x := fun h => wy_dn (fun s y a hy => (dJ s y a hy).2 h) k x b hb
      obtain ⟨e, hce, heN, rfl⟩ := tb_pos (e := zd p q) hpq hc (Nat.le_refl _) (fun h => ⟨(dJ _ _ _ hj).1 h, by rw [tb_N]; exact w1 h⟩) (fun h => ⟨(dJ _ _ _ hj).2 h, by rw [tb_N]; exact w2 h⟩)
      have step : ∃ T, T ≤ T0 + j ∧ RR (tk1 K n p q) (tk1 K m p q) (tpA K n p q) (tpA K m p q) (tkR K n m p q) e e e T := by
        rcases hor with ⟨f, g, rfl, hf, hg⟩ | hr
        · obtain ⟨-, c1⟩ := tb_CH1 hp hq gn heN 7 c f hc hf
          obtain ⟨-, c2⟩ := tb_CH2 hp hq gm hc 7 e g heN hg
          obtain ⟨T, hT, hR2⟩ := RR_merge hR (e - c) e e f g c1 c2
          rw [show c + (e - c) = e by omega] at hR2
          exact ⟨T, by omega, hR2⟩
        · obtain ⟨T, hT, hR2⟩ := RR_ret hR hce (show tk1 K n p q e from t3) (show tk1 K m p q e from s2)
          refine ⟨T, ?_, hR2⟩
          have : tkR K n m p q c e = j := hr
          omega
      obtain ⟨T1, hT1, hR1⟩ := step
      obtain ⟨T, hT, hR2⟩ := tb_out hn hm hp hq gn gm k e b T1 heN hb hR1
      exact ⟨T, by omega, hR2⟩
set_option maxRecDepth 20000 in
theorem tb_min (hn : n < 6) (hm : m < 6) (h1 : sp_has K (Int32.ofNat n) = true) (h2 : sp_has K (Int32.ofNat m) = true) (hp : p < 8) (hq : q < 8) (gn : sp_goes K n p q = true) (gm : sp_goes K m q p = true) : zy_min (tkM K n m p q) (sp_min (wy (sp_J K (Int32.ofNat n) (Int32.ofNat m)) q 7 p)) := by
  have hpq := (sp_goes_T hp hq gn).1
  refine zy_min_dom (sp_min_min _) (fun c hc => ?_) (fun c hc => ?_)
  · have hb := wy_le (M := 150000) (fun s x a => sp_J_le s x a) 7 p c hc
    obtain ⟨T, hT, hR⟩ := tb_out hn hm hp hq gn gm 7 0 c 0 (Nat.zero_le _) (by rw [tb_0]; exact hc) ⟨rfl, rfl, rfl⟩
    exact ⟨T, by omega, by omega, hR⟩
  · obtain ⟨hT, hR⟩ := hc
    obtain ⟨-, -, -, -, c', w, f, g, k1, k2, k3, b1, b2, b3, b4, b5, b6, b7⟩ := tb_in hn hm h1 h2 hp hq gn gm (zd p q) (zd p q) (zd p q) c (Nat.le_refl _) hR hT
    obtain ⟨rfl, rfl, rfl⟩ := b7 rfl
    rw [tb_N] at b3
    refine ⟨w, by omega, ?_⟩
    have dir : zl_dir (sp_J K (Int32.ofNat n) (Int32.ofNat m)) (zs_stop K n) p q := by
      intro s x a hx
      obtain ⟨v8, y8, g3, -, -⟩ := tb_J3 hn hm hx
      obtain ⟨r1, r2, r3, r4, r5⟩ := sp_goes_T hp hq gn
      obtain ⟨z1, z2, z3, z4, z5⟩ := sp_goes_T v8 y8 g3
      refine ⟨sp_J_le s x a hx, v8, y8, z3, ?_⟩
      by_cases u : K (201 + n) = 1
      · rw [if_pos (r4 u)]; exact z4 u
      · rw [if_neg (by have := r5 u; omega)]; exact z5 u
    exact wy_seven' dir hp b3
end
