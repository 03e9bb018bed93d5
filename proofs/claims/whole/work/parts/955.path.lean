/-! The way that a ride takes, ticket by ticket. -/
set_option maxRecDepth 20000 in
theorem sp_min_min (S : Nat → Prop) : zy_min S (sp_min S) := by
  have key : ∀ c, S c → ∃ v, S v ∧ ∀ d, S d → v ≤ d := by
    intro c
    induction c using Nat.strongRecOn with
    | _ c ih =>
      intro hc
      by_cases h : ∃ d, d < c ∧ S d
      · obtain ⟨d, h1, h2⟩ := h
        exact ih d h1 h2
      · exact ⟨c, hc, fun d hd => by
          rcases Nat.lt_or_ge d c with h1 | h1
          · exact absurd ⟨d, h1, hd⟩ h
          · exact h1⟩
  by_cases h : ∃ c, S c
  · obtain ⟨c, hc⟩ := h
    obtain ⟨v, h1, h2⟩ := key c hc
    have : zy_min S (some v) := ⟨fun d hd => ⟨v, rfl, h2 d hd⟩, fun w hw => by cases hw; exact h1⟩
    rw [sp_min_eq this]; exact this
  · have : zy_min S none := ⟨fun c hc => absurd ⟨c, hc⟩ h, fun v hv => by cases hv⟩
    rw [sp_min_eq this]; exact this
set_option maxRecDepth 20000 in
theorem fd_ex (ok : Nat → Bool) : ∀ (k d x : Nat), d ≤ x → x < d + k → ok x = true → ∃ y, fd ok k d = some y
  | 0, d, x, h1, h2, _ => absurd h2 (by omega)
  | k + 1, d, x, h1, h2, h3 => by
    unfold fd
    by_cases h : ok d = true
    · exact ⟨d, by rw [if_pos h]⟩
    · rw [if_neg h]
      have : d ≠ x := fun e => h (e ▸ h3)
      exact fd_ex ok k (d + 1) x (by omega) (by omega) h3
set_option maxRecDepth 20000 in
theorem sd_zd {s x q : Nat} (h : (s < x ∧ x ≤ q) ∨ (x < s ∧ q ≤ x)) : sd s q (zd s x) = x ∧ 1 ≤ zd s x ∧ zd s x ≤ zd s q := by
  unfold sd zd
  rcases h with ⟨h1, h2⟩ | ⟨h1, h2⟩
  · rw [if_pos (by omega), if_pos (by omega), if_pos (by omega)]; omega
  · rw [if_neg (by omega), if_neg (by omega), if_neg (by omega)]; omega
section
variable {L : Nat → Nat → Option Nat} {stop : Nat → Bool} {p q : Nat}
set_option maxRecDepth 20000 in
theorem sp_B_q : sp_B L q q = some 0 := sp_min_eq (wy_to 7)
set_option maxRecDepth 20000 in
theorem nx_ex (hd : zl_dir L stop p q) {s v : Nat} (hs : s < 8) (hsq : s ≠ q) (hv : sp_B L q s = some v) : ∃ s', zn_nx L (sp_B L q) q s = some s' := by
  have hm := sp_min_min (wy L q 7 s)
  have hw : wy L q 7 s v := hm.2 v hv
  obtain ⟨x, a, b, hx8, hL, hwx, hab⟩ := (wy_ne hsq 6 v).mp hw
  have hw7 : wy L q 7 x b := wy_mono (by omega) hwx
  obtain ⟨b', hb', hle⟩ := (sp_min_min (wy L q 7 x)).1 b hw7
  have hwb' : wy L q 7 x b' := (sp_min_min (wy L q 7 x)).2 b' hb'
  have hw8 : wy L q 7 s (a + b') := wy_seven' hd (k := 8) hs (Or.inr ⟨x, a, b', hx8, hL, hwb', rfl⟩)
  obtain ⟨v', hv', hle'⟩ := hm.1 _ hw8
  have evv : v' = v := by
    have : some v' = some v := hv'.symm.trans hv
    cases this; rfl
  have hbb : a + b' = v := by omega
  have hdir := (hd _ _ _ hL).2.2.2.2
  have hah := wy_ahead hd 7 x b hw7
  have hbt : (s < x ∧ x ≤ q) ∨ (x < s ∧ q ≤ x) := by
    by_cases hpq : p < q
    · rw [if_pos hpq] at hdir hah; left; omega
    · rw [if_neg hpq] at hdir hah; right; omega
  obtain ⟨z1, z2, z3⟩ := sd_zd hbt
  have hok : okB L (sp_B L q) s x = true := by
    unfold okB
    rw [hL, show sp_B L q x = some b' from hb', hv]
    exact decide_eq_true hbb
  obtain ⟨y, hy⟩ := fd_ex (fun d => okB L (sp_B L q) s (sd s q d)) (zd s q) 1 (zd s x) z2 (by omega) (by rw [z1]; exact hok)
  exact ⟨sd s q y, by unfold zn_nx; rw [if_neg hsq, hy]; rfl⟩
end
/-- the stations of the way -/
noncomputable def pth (L : Nat → Nat → Option Nat) (q p : Nat) : Nat → Nat
  | 0 => p
  | k + 1 => (zn_nx L (sp_B L q) q (pth L q p k)).getD q
set_option maxRecDepth 20000 in
theorem wy_zero {K : Nat → Int32} {n q : Nat} : ∀ k s, wy (sp_tk K n) q k s 0 → s = q
  | 0, s, h => h.1
  | k + 1, s, h => by
    rcases h with h | ⟨x, a, b, -, h2, -, h4⟩
    · exact wy_zero k s h
    · have := (sp_tk_s h2).1; omega
set_option maxRecDepth 20000 in
theorem pth_ok {K : Nat → Int32} {n p q c : Nat} (hp : p < 8) (hq : q < 8) (hc : sp_rd K n p q = some c) : p ≠ q ∧ sp_goes K n p q = true ∧ ∀ k, k ≤ c → pth (sp_tk K n) q p k < 8 ∧ sp_B (sp_tk K n) q (pth (sp_tk K n) q p k) = some (c - k) ∧ (k < c → zn_nx (sp_tk K n) (sp_B (sp_tk K n) q) q (pth (sp_tk K n) q p k) = some (pth (sp_tk K n) q p (k + 1)) ∧ sp_tk K n (pth (sp_tk K n) q p k) (pth (sp_tk K n) q p (k + 1)) = some 1 ∧ pth (sp_tk K n) q p k ≠ q ∧ zd (pth (sp_tk K n) q p (k + 1)) q < zd (pth (sp_tk K n) q p k) q) ∧ (k = c → pth (sp_tk K n) q p k = q) := by
  have hne : p ≠ q := fun e => by unfold sp_rd at hc; rw [if_pos e] at hc; cases hc
  have hB : sp_B (sp_tk K n) q p = some c := by unfold sp_rd at hc; rw [if_neg hne] at hc; exact hc
  have hw : wy (sp_tk K n) q 7 p c := (sp_min_min _).2 c hB
  have hg := wy_tgoes hq 7 p c hp hne hw
  have hd := sp_tk_dir hp hq hg
  have main : ∀ k, k ≤ c → pth (sp_tk K n) q p k < 8 ∧ sp_B (sp_tk K n) q (pth (sp_tk K n) q p k) = some (c - k) := by
    intro k
    induction k with
    | zero => exact fun _ => ⟨hp, hB⟩
    | succ k ih =>
      intro hk
      obtain ⟨h8, hb⟩ := ih (by omega)
      have hsq : pth (sp_tk K n) q p k ≠ q := fun e => by rw [e, sp_B_q] at hb; have := Option.some.inj hb; omega
      obtain ⟨s', hs'⟩ := nx_ex hd h8 hsq hb
      have he : pth (sp_tk K n) q p (k + 1) = s' := by
        show (zn_nx _ _ _ _).getD q = s'
        rw [hs']; rfl
      obtain ⟨z1, z2, z3⟩ := zn_nx_lt h8 hq hs'
      rw [he]
      refine ⟨z1, ?_⟩
      unfold okB at z3
      rw [hb] at z3
      cases hL : sp_tk K n (pth (sp_tk K n) q p k) s' with
      | none => rw [hL] at z3; cases z3
      | some a =>
        rw [hL] at z3
        have ha := (sp_tk_s hL).1
        cases hb' : sp_B (sp_tk K n) q s' with
        | none => rw [hb'] at z3; cases z3
        | some b =>
          rw [hb'] at z3
          have := of_decide_eq_true z3
          congr 1; omega
  refine ⟨hne, hg, fun k hk => ?_⟩
  obtain ⟨h8, hb⟩ := main k hk
  refine ⟨h8, hb, fun hkc => ?_, fun hkc => ?_⟩
  · have hsq : pth (sp_tk K n) q p k ≠ q := fun e => by rw [e, sp_B_q] at hb; have := Option.some.inj hb; omega
    obtain ⟨s', hs'⟩ := nx_ex hd h8 hsq hb
    have he : pth (sp_tk K n) q p (k + 1) = s' := by
      show (zn_nx _ _ _ _).getD q = s'
      rw [hs']; rfl
    obtain ⟨z1, z2, z3⟩ := zn_nx_lt h8 hq hs'
    rw [he]
    refine ⟨hs', ?_, hsq, z2⟩
    unfold okB at z3
    rw [hb] at z3
    cases hL : sp_tk K n (pth (sp_tk K n) q p k) s' with
    | none => rw [hL] at z3; cases z3
    | some a => rw [(sp_tk_s hL).1]
  · rw [hkc, Nat.sub_self] at hb
    rw [hkc]
    exact wy_zero 7 _ ((sp_min_min _).2 0 hb)
/-- one ticket used -/
def kU (K : Nat → Int32) (o : Int32) (s s' : Nat) : Nat → Int32 :=
  if o = 1 then kS (kS K (64 * sf_ix o + (8 * s + s')) (K (64 * sf_ix o + (8 * s + s')) - 1)) (128 + (8 * s' + s)) (if kS K (64 * sf_ix o + (8 * s + s')) (K (64 * sf_ix o + (8 * s + s')) - 1) (128 + (8 * s' + s)) + 1 < 9 then kS K (64 * sf_ix o + (8 * s + s')) (K (64 * sf_ix o + (8 * s + s')) - 1) (128 + (8 * s' + s)) + 1 else 9)
  else kS K (64 * sf_ix o + (8 * s + s')) (K (64 * sf_ix o + (8 * s + s')) - 1)
noncomputable def rdK (K : Nat → Int32) (n q p : Nat) : Nat → Nat → Int32
  | 0 => K
  | k + 1 => kU (rdK K n q p k) (sp_sort K n (pth (sp_tk K n) q p k) (pth (sp_tk K n) q p (k + 1))) (pth (sp_tk K n) q p k) (pth (sp_tk K n) q p (k + 1))
set_option maxRecDepth 20000 in
theorem sort_pos {K : Nat → Int32} {n a b : Nat} (h : sp_sort K n a b ≠ -1) : ∃ j, j < 3 ∧ sp_sort K n a b = Int32.ofNat j ∧ 0 < K (64 * j + (8 * a + b)) := by
  unfold sp_sort at h ⊢
  by_cases h0 : sp_c0 K n a b = true
  · rw [if_pos h0]
    unfold sp_c0 at h0
    rw [Bool.and_eq_true, decide_eq_true_eq] at h0
    exact ⟨0, by omega, rfl, by rw [Nat.mul_zero, Nat.zero_add]; exact h0.1⟩
  · rw [if_neg h0] at h ⊢
    by_cases h2 : sp_c2 K n a b = true
    · rw [if_pos h2]
      unfold sp_c2 at h2
      rw [Bool.and_eq_true, decide_eq_true_eq] at h2
      exact ⟨2, by omega, rfl, h2.1⟩
    · rw [if_neg h2] at h ⊢
      by_cases h1 : sp_c1 K n a b = true
      · rw [if_pos h1]
        unfold sp_c1 at h1
        rw [Bool.and_eq_true, decide_eq_true_eq] at h1
        exact ⟨1, by omega, rfl, h1.1⟩
      · rw [if_neg h1] at h; exact absurd rfl h
set_option maxRecDepth 20000 in
theorem sp_bars_w {K K' : Nat → Int32} (h : ∀ i, 193 ≤ i → K' i = K i) (s a b w : Int32) : sp_bars K' s a b w = sp_bars K s a b w := by
  have hz : zw K' s a b w = zw K s a b w := by
    funext k; unfold zw; rw [h 194 (by omega), h 226 (by omega)]
  unfold sp_bars
  rw [h 230 (by omega), hz, ks_w (fun k hk => h k (by omega))]
set_option maxRecDepth 20000 in
theorem sp_sort_w {K K' : Nat → Int32} {n a b : Nat} (h : ∀ i, 193 ≤ i → K' i = K i) (hc : ∀ j, j < 3 → K' (64 * j + (8 * a + b)) = K (64 * j + (8 * a + b))) : sp_sort K' n a b = sp_sort K n a b := by
  have e0 := hc 0 (by omega)
  have e1 := hc 1 (by omega)
  have e2 := hc 2 (by omega)
  rw [Nat.mul_zero, Nat.zero_add] at e0
  unfold sp_sort sp_c0 sp_c1 sp_c2
  rw [sp_bars_w h, sp_bars_w h, sp_bars_w h, h (207 + n) (by omega), e0, show K' (64 + (8 * a + b)) = K (64 + (8 * a + b)) from e1, show K' (128 + (8 * a + b)) = K (128 + (8 * a + b)) from e2]
set_option maxRecDepth 20000 in
theorem kU_n {K : Nat → Int32} {j s s' i : Nat} (hj : j < 3) (h1 : i ≠ 64 * j + (8 * s + s')) (h2 : i ≠ 128 + (8 * s' + s)) : kU K (Int32.ofNat j) s s' i = K i := by
  unfold kU
  rw [zi_ixn (by omega)]
  split
  · rw [kS_n h2, kS_n h1]
  · rw [kS_n h1]
set_option maxRecDepth 20000 in
theorem pk_kU {K : Nat → Int32} (h : pk_ok K) {j s s' : Nat} (hj : j < 3) (hs : s < 8) (hs' : s' < 8) (hpos : 0 < K (64 * j + (8 * s + s'))) : pk_ok (kU K (Int32.ofNat j) s s') := by
  have h9 := h.1 (64 * j + (8 * s + s')) (by omega)
  have h1 : pk_ok (kS K (64 * j + (8 * s + s')) (K (64 * j + (8 * s + s')) - 1)) := by
    refine ⟨fun i hi => ?_, by rw [kS_n (by omega)]; exact h.2.1, by rw [kS_n (by omega)]; exact h.2.2.1, by rw [kS_n (by omega)]; exact h.2.2.2⟩
    by_cases e : i = 64 * j + (8 * s + s')
    · subst e; rw [kS_e]; constructor <;> (simp only [Int32.le_iff_toInt_le, Int32.lt_iff_toInt_lt, ← Int32.toInt_inj, Int32.toInt_ofNat', Int32.reduceToInt, zi_ix, Int32.toInt_add, Int32.toInt_sub, Int32.toInt_mul, Int32.toInt_neg, zi_bm, zi_bms, zp_in] at *; omega)
    · rw [kS_n e]; exact h.1 i hi
  unfold kU
  rw [zi_ixn (by omega)]
  split
  · generalize kS K (64 * j + (8 * s + s')) (K (64 * j + (8 * s + s')) - 1) = K1 at h1 ⊢
    have g9 := h1.1 (128 + (8 * s' + s)) (by omega)
    refine ⟨fun i hi => ?_, by rw [kS_n (by omega)]; exact h1.2.1, by rw [kS_n (by omega)]; exact h1.2.2.1, by rw [kS_n (by omega)]; exact h1.2.2.2⟩
    by_cases e : i = 128 + (8 * s' + s)
    · subst e
      rw [kS_e]
      split
      · constructor <;> (simp only [Int32.le_iff_toInt_le, Int32.lt_iff_toInt_lt, ← Int32.toInt_inj, Int32.toInt_ofNat', Int32.reduceToInt, zi_ix, Int32.toInt_add, Int32.toInt_sub, Int32.toInt_mul, Int32.toInt_neg, zi_bm, zi_bms, zp_in] at *; omega)
      · decide
    · rw [kS_n e]; exact h1.1 i hi
  · exact h1
set_option maxRecDepth 20000 in
theorem rdK_ok {K : Nat → Int32} {n p q c : Nat} (hk : pk_ok K) (hp : p < 8) (hq : q < 8) (hc : sp_rd K n p q = some c) : ∀ k, k ≤ c → pk_ok (rdK K n q p k) ∧ (∀ i, 192 ≤ i → rdK K n q p k i = K i) ∧ (∀ o, o < 3 → ∀ a, a < 8 → ∀ b, b < 8 → zd a q ≤ zd (pth (sp_tk K n) q p k) q → zd b q ≤ zd (pth (sp_tk K n) q p k) q → rdK K n q p k (64 * o + (8 * a + b)) = K (64 * o + (8 * a + b))) := by
  obtain ⟨hne, hg, hpt⟩ := pth_ok hp hq hc
  intro k
  induction k with
  | zero => exact fun _ => ⟨hk, fun i _ => rfl, fun o _ a _ b _ _ _ => rfl⟩
  | succ k ih =>
    intro hkc
    obtain ⟨i1, i2, i3⟩ := ih (by omega)
    obtain ⟨s8, sB, hnx, -⟩ := hpt k (by omega)
    obtain ⟨s8', -, -, -⟩ := hpt (k + 1) hkc
    obtain ⟨n1, n2, n3, n4⟩ := hnx (by omega)
    obtain ⟨j, hj, ej, hpos⟩ := sort_pos (sp_tk_s n2).2.2.2.2
    have hcell := i3 j hj _ s8 _ s8' (Nat.le_refl _) (by omega)
    have hstep : rdK K n q p (k + 1) = kU (rdK K n q p k) (Int32.ofNat j) (pth (sp_tk K n) q p k) (pth (sp_tk K n) q p (k + 1)) := by
      show kU _ _ _ _ = _
      rw [ej]
    rw [hstep]
    generalize hs : pth (sp_tk K n) q p k = s at *
    generalize hs' : pth (sp_tk K n) q p (k + 1) = s' at *
    refine ⟨pk_kU i1 hj s8 s8' (by rw [hcell]; exact hpos), fun i hi => by rw [kU_n hj (by omega) (by omega)]; exact i2 i hi, fun o ho a ha b hb za zb => ?_⟩
    have ea : a ≠ s := fun e => by subst e; omega
    have eb : b ≠ s := fun e => by subst e; omega
    rw [kU_n hj (by omega) (by omega)]
    exact i3 o ho a ha b hb (by omega) (by omega)
set_option maxRecDepth 20000 in
/-- the sort that is used at each step, whether looked up before the ride or on it -/
theorem rdK_sort {K : Nat → Int32} {n p q c : Nat} (hk : pk_ok K) (hp : p < 8) (hq : q < 8) (hc : sp_rd K n p q = some c) {k : Nat} (hkc : k < c) : ∃ j, j < 3 ∧ sp_sort K n (pth (sp_tk K n) q p k) (pth (sp_tk K n) q p (k + 1)) = Int32.ofNat j ∧ sp_sort (rdK K n q p k) n (pth (sp_tk K n) q p k) (pth (sp_tk K n) q p (k + 1)) = Int32.ofNat j ∧ 0 < rdK K n q p k (64 * j + (8 * pth (sp_tk K n) q p k + pth (sp_tk K n) q p (k + 1))) := by
  obtain ⟨hne, hg, hpt⟩ := pth_ok hp hq hc
  obtain ⟨i1, i2, i3⟩ := rdK_ok hk hp hq hc k (by omega)
  obtain ⟨s8, sB, hnx, -⟩ := hpt k (by omega)
  obtain ⟨s8', -, -, -⟩ := hpt (k + 1) hkc
  obtain ⟨n1, n2, n3, n4⟩ := hnx (by omega)
  obtain ⟨j, hj, ej, hpos⟩ := sort_pos (sp_tk_s n2).2.2.2.2
  have hcell : ∀ o, o < 3 → _ := fun o ho => i3 o ho _ s8 _ s8' (Nat.le_refl _) (by omega)
  exact ⟨j, hj, ej, by rw [sp_sort_w (fun i hi => i2 i (by omega)) hcell]; exact ej, by rw [hcell j hj]; exact hpos⟩
