/-! thereAndBack: two ways beside each other, and rows of joint legs. -/
set_option maxRecDepth 20000 in
theorem zy_min_dom {S S' : Nat → Prop} {o : Option Nat} (h : zy_min S o) (h1 : ∀ c, S c → ∃ c', c' ≤ c ∧ S' c') (h2 : ∀ c, S' c → ∃ c', c' ≤ c ∧ S c') : zy_min S' o := by
  refine ⟨fun c hc => ?_, fun v hv => ?_⟩
  · obtain ⟨c', hc', hs⟩ := h2 c hc
    obtain ⟨v, e, hv⟩ := h.1 c' hs
    exact ⟨v, e, by omega⟩
  · obtain ⟨c', hc', hs⟩ := h1 v (h.2 v hv)
    obtain ⟨c2, hc2, hs2⟩ := h2 c' hs
    obtain ⟨u, e, hu⟩ := h.1 c2 hs2
    rw [hv] at e; cases e
    rw [show v = c' by omega]; exact hs
set_option maxRecDepth 20000 in
theorem wy_app {L : Nat → Nat → Option Nat} {u v j : Nat} (hv : v < 8) (hj : L u v = some j) : ∀ k s w, wy L u k s w → wy L v (k + 1) s (w + j)
  | 0, s, w, h => by
    obtain ⟨rfl, rfl⟩ := h
    exact Or.inr ⟨v, j, 0, hv, hj, ⟨rfl, rfl⟩, by omega⟩
  | k + 1, s, w, h => by
    rcases h with h | ⟨n, a, b, hn, ha, hb, rfl⟩
    · exact Or.inl (wy_app hv hj k s w h)
    · exact Or.inr ⟨n, a, b + j, hn, ha, wy_app hv hj k n b hb, by omega⟩
set_option maxRecDepth 20000 in
theorem wy_up {L : Nat → Nat → Option Nat} {to : Nat} (hd : ∀ s n a, L s n = some a → s < n) : ∀ k s c, wy L to k s c → s ≤ to
  | 0, s, c, h => by rw [h.1]; omega
  | k + 1, s, c, h => by
    rcases h with h | ⟨n, a, b, _, ha, hb, _⟩
    · exact wy_up hd k s c h
    · have := wy_up hd k n b hb; have := hd _ _ _ ha; omega
set_option maxRecDepth 20000 in
theorem wy_dn {L : Nat → Nat → Option Nat} {to : Nat} (hd : ∀ s n a, L s n = some a → n < s) : ∀ k s c, wy L to k s c → to ≤ s
  | 0, s, c, h => by rw [h.1]; omega
  | k + 1, s, c, h => by
    rcases h with h | ⟨n, a, b, _, ha, hb, _⟩
    · exact wy_dn hd k s c h
    · have := wy_dn hd k n b hb; have := hd _ _ _ ha; omega
section
variable (ok1 ok2 : Nat → Prop) (a b r : Nat → Nat → Nat)
/-- both step at e -/
def gb (i j e : Nat) : Nat := if i = j then (if r i e < a i e + b e i then r i e else a i e + b e i) else a i e + b e j
def RR : Nat → Nat → Nat → Nat → Prop
  | 0, i, j, T => i = 0 ∧ j = 0 ∧ T = 0
  | d + 1, i, j, T => RR d i j T ∨ (ok1 (d + 1) ∧ i = d + 1 ∧ ∃ i' T', RR d i' j T' ∧ T = T' + a i' (d + 1)) ∨ (ok2 (d + 1) ∧ j = d + 1 ∧ ∃ j' T', RR d i j' T' ∧ T = T' + b (d + 1) j') ∨ (ok1 (d + 1) ∧ ok2 (d + 1) ∧ i = d + 1 ∧ j = d + 1 ∧ ∃ i' j' T', RR d i' j' T' ∧ T = T' + gb a b r i' j' (d + 1))
/-- one chain alone, from c -/
def CH (ok : Nat → Prop) (w : Nat → Nat → Nat) (c : Nat) : Nat → Nat → Nat → Prop
  | 0, i, f => i = c ∧ f = 0
  | n + 1, i, f => CH ok w c n i f ∨ (ok (c + n + 1) ∧ i = c + n + 1 ∧ ∃ i' f', CH ok w c n i' f' ∧ f = f' + w i' (c + n + 1))
end
section
variable {ok1 ok2 : Nat → Prop} {a b r : Nat → Nat → Nat}
set_option maxRecDepth 20000 in
theorem gb_le (i j e : Nat) : gb a b r i j e ≤ a i e + b e j := by
  unfold gb
  split
  · next h =>
    subst h
    split <;> omega
  · exact Nat.le_refl _
set_option maxRecDepth 20000 in
theorem gb_r (i e : Nat) : gb a b r i i e ≤ r i e := by
  unfold gb
  rw [if_pos rfl]
  split <;> omega
set_option maxRecDepth 20000 in
theorem RR_skip {c i j T : Nat} (h : RR ok1 ok2 a b r c i j T) : ∀ n, RR ok1 ok2 a b r (c + n) i j T
  | 0 => h
  | n + 1 => Or.inl (RR_skip h n)
set_option maxRecDepth 20000 in
theorem RR_merge {c T0 : Nat} (h : RR ok1 ok2 a b r c c c T0) : ∀ n i j f g, CH ok1 a c n i f → CH ok2 (fun j e => b e j) c n j g → ∃ T, T ≤ T0 + f + g ∧ RR ok1 ok2 a b r (c + n) i j T
  | 0, i, j, f, g, h1, h2 => by
    obtain ⟨rfl, rfl⟩ := h1
    obtain ⟨rfl, rfl⟩ := h2
    exact ⟨T0, by omega, h⟩
  | n + 1, i, j, f, g, h1, h2 => by
    rcases h1 with h1 | ⟨o1, rfl, i', f', h1, rfl⟩
    · rcases h2 with h2 | ⟨o2, rfl, j', g', h2, rfl⟩
      · obtain ⟨T, hT, hR⟩ := RR_merge h n i j f g h1 h2
        exact ⟨T, hT, Or.inl hR⟩
      · obtain ⟨T, hT, hR⟩ := RR_merge h n i j' f g' h1 h2
        exact ⟨T + b (c + n + 1) j', by show _ ≤ T0 + f + (g' + b (c + n + 1) j'); omega, Or.inr (Or.inr (Or.inl ⟨o2, rfl, j', T, hR, rfl⟩))⟩
    · rcases h2 with h2 | ⟨o2, rfl, j', g', h2, rfl⟩
      · obtain ⟨T, hT, hR⟩ := RR_merge h n i' j f' g h1 h2
        exact ⟨T + a i' (c + n + 1), by omega, Or.inr (Or.inl ⟨o1, rfl, i', T, hR, rfl⟩)⟩
      · obtain ⟨T, hT, hR⟩ := RR_merge h n i' j' f' g' h1 h2
        have := gb_le (a := a) (b := b) (r := r) i' j' (c + n + 1)
        exact ⟨T + gb a b r i' j' (c + n + 1), by show _ ≤ T0 + (f' + a i' (c + n + 1)) + (g' + b (c + n + 1) j'); omega, Or.inr (Or.inr (Or.inr ⟨o1, o2, rfl, rfl, i', j', T, hR, rfl⟩))⟩
set_option maxRecDepth 20000 in
theorem RR_ret {c e T0 : Nat} (h : RR ok1 ok2 a b r c c c T0) (hce : c < e) (o1 : ok1 e) (o2 : ok2 e) : ∃ T, T ≤ T0 + r c e ∧ RR ok1 ok2 a b r e e e T := by
  obtain ⟨n, rfl⟩ : ∃ n, e = c + n + 1 := ⟨e - c - 1, by omega⟩
  have := gb_r (a := a) (b := b) (r := r) c (c + n + 1)
  exact ⟨T0 + gb a b r c c (c + n + 1), by omega, Or.inr (Or.inr (Or.inr ⟨o1, o2, rfl, rfl, c, c, T0, RR_skip h n, rfl⟩))⟩
variable {ok : Nat → Prop} {w : Nat → Nat → Nat}
set_option maxRecDepth 20000 in
theorem CH_skip {c m i f : Nat} (h : CH ok w c m i f) : ∀ n, CH ok w c (m + n) i f
  | 0 => h
  | n + 1 => Or.inl (CH_skip h n)
set_option maxRecDepth 20000 in
theorem CH_app {c m i f : Nat} (h : CH ok w c m i f) {e : Nat} (he : c + m < e) (o : ok e) : CH ok w c (e - c) e (f + w i e) := by
  obtain ⟨n, rfl⟩ : ∃ n, e = c + (m + n) + 1 := ⟨e - (c + m) - 1, by omega⟩
  rw [show c + (m + n) + 1 - c = (m + n) + 1 by omega]
  exact Or.inr ⟨o, rfl, i, f, CH_skip h n, rfl⟩
set_option maxRecDepth 20000 in
theorem CH_comp {c m f : Nat} (h : CH ok w c m (c + m) f) : ∀ n i g, CH ok w (c + m) n i g → CH ok w c (m + n) i (f + g)
  | 0, i, g, h2 => by
    obtain ⟨rfl, rfl⟩ := h2
    exact h
  | n + 1, i, g, h2 => by
    rcases h2 with h2 | ⟨o, rfl, i', g', h2, rfl⟩
    · exact Or.inl (CH_comp h n i g h2)
    · have e : c + m + n + 1 = c + (m + n) + 1 := by omega
      rw [e] at o
      refine Or.inr ⟨o, e, i', f + g', CH_comp h n i' g' h2, ?_⟩
      show f + (g' + w i' (c + m + n + 1)) = f + g' + w i' (c + (m + n) + 1)
      rw [e]; omega
end
/-- what the model tells of an option -/
def fO (o : Option Nat) : Nat := match o with
  | none => 100000000
  | some c => c
set_option maxRecDepth 20000 in
theorem fO_lt {o : Option Nat} (h : fO o < 100000000) : o = some (fO o) := by
  cases o with
  | none => exact absurd h (by show ¬ 100000000 < 100000000; omega)
  | some c => rfl
def sp_rr (K : Nat → Int32) (n m u v : Nat) : Option Nat := if sp_bars K 1 (Int32.ofNat u) (Int32.ofNat v) (K (207 + n)) = true ∨ sp_bars K 1 (Int32.ofNat u) (Int32.ofNat v) (K (207 + m)) = true then none else some (sf_ix (sp_cost K (K 230) 1 (Int32.ofNat u) (Int32.ofNat v)))
section
variable (K : Nat → Int32) (n m p q : Nat)
def tk1 (d : Nat) : Prop := zs_stop K n (sd p q d) = true
def tpA (i e : Nat) : Nat := fO (sp_sgl K n (sd p q i) (sd p q e))
def tkR (i e : Nat) : Nat := fO (sp_rr K n m (sd p q i) (sd p q e))
/-- costs of two ways beside each other, once both are at the end -/
def tkM (T : Nat) : Prop := T < 100000000 ∧ RR (tk1 K n p q) (tk1 K m p q) (tpA K n p q) (tpA K m p q) (tkR K n m p q) (zd p q) (zd p q) (zd p q) T
end
section
variable {K : Nat → Int32} {n m p q : Nat}
set_option maxRecDepth 20000 in
theorem tb_lt (hp : p < 8) (hq : q < 8) {d : Nat} (hd : d ≤ zd p q) : sd p q d < 8 := sd_lt hp hq hd
set_option maxRecDepth 20000 in
theorem tb_inj {d e : Nat} (hd : d ≤ zd p q) (he : e ≤ zd p q) (h : sd p q d = sd p q e) : d = e := by
  unfold sd zd at *
  by_cases hpq : p ≤ q
  · rw [if_pos hpq] at *; rw [if_pos hpq] at h; omega
  · rw [if_neg hpq] at *; rw [if_neg hpq] at h; omega
set_option maxRecDepth 20000 in
theorem tb_0 : sd p q 0 = p := by unfold sd; split <;> omega
set_option maxRecDepth 20000 in
theorem tb_N : sd p q (zd p q) = q := by unfold sd zd; split <;> omega
set_option maxRecDepth 20000 in
theorem tb_up {d : Nat} (hpq : p < q) (hd : d ≤ zd p q) : sd p q d = p + d ∧ p + d ≤ q := by
  unfold sd zd at *
  rw [if_pos (show p ≤ q by omega)] at *; omega
set_option maxRecDepth 20000 in
theorem tb_dn {d : Nat} (hpq : q < p) (hd : d ≤ zd p q) : sd p q d = p - d ∧ d ≤ p ∧ q ≤ p - d := by
  unfold sd zd at *
  rw [if_neg (show ¬ p ≤ q by omega)] at *; omega
end
