/-! Frames, loops that count, what the cells hold. -/
def zf (s : Nat → Nat → Bool) (I I' : Nat → Nat → Int32) : Prop := ∀ a k, s a k = false → I' a k = I a k
theorem zf_refl (s : Nat → Nat → Bool) (I : Nat → Nat → Int32) : zf s I I := fun _ _ _ => rfl
theorem zf_trans {s : Nat → Nat → Bool} {I I' I'' : Nat → Nat → Int32} (h : zf s I I') (h' : zf s I' I'') : zf s I I'' := fun a k e => (h' a k e).trans (h a k e)
theorem zf_u2 {s : Nat → Nat → Bool} {I I' : Nat → Nat → Int32} {a k : Nat} {v : Int32} (h : zf s I I') (e : s a k = true) : zf s I (sf_u2 I' a k v) := fun b j q => by
  unfold sf_u2; split
  · rename_i hc; obtain ⟨rfl, rfl⟩ := hc; rw [e] at q; cases q
  · exact h b j q
theorem zf_u1 {s : Nat → Nat → Bool} {I I' : Nat → Nat → Int32} {a : Nat} {g : Nat → Int32} (h : zf s I I') (e : ∀ k, s a k = true) : zf s I (sf_u1 I' a g) := fun b j q => by
  unfold sf_u1; split
  · rename_i hc; subst hc; rw [e] at q; cases q
  · exact h b j q
theorem zf_mono {s s' : Nat → Nat → Bool} {I I' : Nat → Nat → Int32} (h : zf s I I') (hm : ∀ a k, s a k = true → s' a k = true) : zf s' I I' := fun a k q => h a k (by
  cases hs : s a k with
  | false => rfl
  | true => rw [hm a k hs] at q; cases q)
theorem zf_row {s : Nat → Nat → Bool} {I I' : Nat → Nat → Int32} (h : zf s I I') {a : Nat} (e : ∀ k, s a k = false) : I' a = I a := funext fun k => h a k (e k)
theorem zu_eq {α : Type} {f : Nat → Nat → α} {a k : Nat} {v : α} : sf_u2 f a k v a k = v := by simp [sf_u2]
theorem zu_k {α : Type} {f : Nat → Nat → α} {a k j : Nat} {v : α} (h : j ≠ k) : sf_u2 f a k v a j = f a j := by simp [sf_u2, h]
theorem zu_a {α : Type} {f : Nat → Nat → α} {a b k j : Nat} {v : α} (h : b ≠ a) : sf_u2 f a k v b j = f b j := by simp [sf_u2, h]
theorem zu_r {α : Type} {f : Nat → Nat → α} {a b k : Nat} {v : α} (h : b ≠ a) : sf_u2 f a k v b = f b := by funext j; simp [sf_u2, h]
theorem zu1_a {α : Type} {f : Nat → Nat → α} {a b : Nat} {g : Nat → α} (h : b ≠ a) : sf_u1 f a g b = f b := by simp [sf_u1, h]
theorem zu1_e {α : Type} {f : Nat → Nat → α} {a : Nat} {g : Nat → α} : sf_u1 f a g a = g := by simp [sf_u1]
theorem zi_ixl (n : Nat) (h : n < 2147483648) : sf_ix (no_index (OfNat.ofNat n)) = n := zi_ixn h
theorem zi_s (n : Nat) : Int32.ofNat n + 1 = Int32.ofNat (n + 1) := zi_add n 1
theorem zi_p (n : Nat) : Int32.ofNat (n + 1) - 1 = Int32.ofNat n := zi_sub (a := n + 1) (b := 1) (by omega)
theorem zp_wp_bor2 {α β γ : Type} {f : sf_M (α ⊕ β)} {g : β → sf_M α} {k : α → sf_M γ} {Q : γ → sf_St → Prop} {σ : sf_St} : zp_wp (sf_bnd (sf_or f g) k) Q σ = zp_wp (sf_bnd f (fun r => sf_bnd (match r with | .inl a => sf_ret a | .inr b => g b) k)) Q σ := by
  unfold sf_or; rw [zp_bnd_as]; rfl
theorem pd_C : (∀ {α : Type} {Q : α → sf_St → Prop} {σ : sf_St} (v : α), zp_wp (sf_ret v) Q σ = Q v σ) ∧ (∀ {α : Type} {Q : α → sf_St → Prop} {σ : sf_St} (c : Prop) [Decidable c] (f g : sf_M α), zp_wp (if c then f else g) Q σ = if c then zp_wp f Q σ else zp_wp g Q σ) ∧ (∀ {α β : Type} {Q : α → sf_St → Prop} {σ : sf_St} (v : β) (g : β → sf_M α), zp_wp (sf_bnd (sf_ret v) g) Q σ = zp_wp (g v) Q σ) ∧ (∀ {α β : Type} {Q : α → sf_St → Prop} {σ : sf_St} (c : Prop) [Decidable c] (f g : sf_M β) (k : β → sf_M α), zp_wp (sf_bnd (if c then f else g) k) Q σ = if c then zp_wp (sf_bnd f k) Q σ else zp_wp (sf_bnd g k) Q σ) ∧ (∀ {α β γ : Type} {Q : α → sf_St → Prop} {σ : sf_St} (f : sf_M β) (g : β → sf_M γ) (k : γ → sf_M α), zp_wp (sf_bnd (sf_bnd f g) k) Q σ = zp_wp (sf_bnd f (fun x => sf_bnd (g x) k)) Q σ) ∧ (∀ {α β γ : Type} {Q : γ → sf_St → Prop} {σ : sf_St} (f : sf_M (α ⊕ β)) (g : β → sf_M α) (k : α → sf_M γ), zp_wp (sf_bnd (sf_or f g) k) Q σ = zp_wp (sf_bnd f (fun r => sf_bnd (match r with | .inl a => sf_ret a | .inr b => g b) k)) Q σ) ∧ (∀ {α β : Type} {Q : α → sf_St → Prop} {σ : sf_St} (f : sf_M (α ⊕ β)) (g : β → sf_M α), zp_wp (sf_or f g) Q σ = zp_wp (sf_bnd f (fun r => match r with | .inl a => sf_ret a | .inr b => g b)) Q σ) :=
  ⟨fun _ => zp_wp_ret, fun _ _ _ _ => zp_wp_ite, fun _ _ => zp_wp_bret, fun _ _ _ _ _ => zp_wp_bite, fun _ _ _ => zp_wp_as, fun _ _ _ => zp_wp_bor2, fun _ _ => zp_wp_or⟩
theorem zi_lit2 (n : Nat) : (no_index (OfNat.ofNat n) : Int32) = Int32.ofNat (OfNat.ofNat n) := rfl
theorem zi_leL {a b : Nat} (h : a ≤ b) (hb : b < 2147483648) : Int32.ofNat a ≤ Int32.ofNat b := by rw [zi_le (by omega) hb]; exact h
theorem zi_ltL {a b : Nat} (h : a < b) (hb : b < 2147483648) : Int32.ofNat a < Int32.ofNat b := by rw [zi_lt (by omega) hb]; exact h
theorem zi_nle {a b : Nat} (h : b < a) (hb : a < 2147483648) : ¬ Int32.ofNat a ≤ Int32.ofNat b := by rw [zi_le hb (by omega)]; omega
theorem zi_nlt {a b : Nat} (h : b ≤ a) (hb : a < 2147483648) : ¬ Int32.ofNat a < Int32.ofNat b := by rw [zi_lt hb (by omega)]; omega
theorem zi_ne {a b : Nat} (h : a ≠ b) (ha : a < 2147483648) (hb : b < 2147483648) : ¬ Int32.ofNat a = Int32.ofNat b := by rw [zi_eq ha hb]; exact h
theorem zi_m1 (n : Nat) : Int32.ofNat (n + 1) + -1 = Int32.ofNat n := by rw [← zi_p n, Int32.sub_eq_add_neg]
-- loops that count
theorem zl_g {β γ δ S : Type} {body : β → sf_M (β ⊕ γ)} {kk : γ → sf_M δ} {Q : δ → sf_St → Prop} {t : List (Nat × Nat)} {J : Nat → Nat → Int64} {D : Nat → Nat → Option Nat} {I : Nat → Nat → Int32} {b0 : β} (enc : Nat → S → β) (a L : Nat) {s0 : S} (hb : b0 = enc a s0) (hL : L < 999999) (haL : a ≤ L)
    (P : Nat → S → (Nat → Nat → Int32) → Prop) (h0 : P a s0 I)
    (hs : ∀ i s I, a ≤ i → i < L → P i s I → zp_wp (body (enc i s)) (fun r τ => (∃ s' I', r = .inl (enc (i + 1) s') ∧ τ = zp_Z t I' J D ∧ P (i + 1) s' I') ∨ (∃ g, r = .inr g ∧ zp_wp (kk g) Q τ)) (zp_Z t I J D))
    (he : ∀ s I, P L s I → zp_wp (body (enc L s)) (fun r τ => ∃ g, r = .inr g ∧ zp_wp (kk g) Q τ) (zp_Z t I J D)) : zp_wp (sf_bnd (sf_loop body sf_fuel b0) kk) Q (zp_Z t I J D) := by
  subst hb
  refine zp_loop_b (fun n b σ => ∃ i s I', a ≤ i ∧ i ≤ L ∧ n = L - i ∧ b = enc i s ∧ σ = zp_Z t I' J D ∧ P i s I') (L - a) (by unfold sf_fuel; omega) ⟨a, s0, I, by omega, haL, rfl, rfl, rfl, h0⟩ ?_
  rintro n b σ ⟨i, s, I', hai, hiL, rfl, rfl, rfl, hP⟩
  by_cases hi : i < L
  · refine zp_wp_mono (hs i s I' hai hi hP) fun r τ h => ?_
    rcases h with ⟨s', I'', rfl, rfl, h⟩ | ⟨g, rfl, h⟩
    · exact ⟨L - (i + 1), by omega, i + 1, s', I'', by omega, by omega, rfl, rfl, rfl, h⟩
    · exact h
  · have : i = L := by omega
    subst this
    refine zp_wp_mono (he s I' hP) fun r τ h => ?_
    obtain ⟨g, rfl, h⟩ := h
    exact h
/-! What the office's cells hold, told by a row K of ints (the places of the model's own row). -/
def zr_off (I : Nat → Nat → Int32) (o : Nat) (K : Nat → Int32) : Prop :=
  (∀ i, i < 192 → I (o + 2) i = K i) ∧ I (o + 1) 2 = K 192 ∧ I (o + 1) 1 = K 193 ∧ I (o + 1) 3 = K 194 ∧
  (∀ i, i < 6 → I (o + 3) i = K (195 + i)) ∧ (∀ i, i < 6 → I (o + 4) i = K (201 + i)) ∧ (∀ i, i < 6 → I (o + 5) i = K (207 + i)) ∧
  (∀ i, i < 6 → I (o + 7) i = K (213 + 2 * i)) ∧ (∀ i, i < 6 → I (o + 8) i = K (214 + 2 * i)) ∧
  I o 11 = K 225 ∧ I o 12 = K 226 ∧ I o 1 = K 227 ∧ I o 8 = K 228 ∧ I o 5 = K 229 ∧ I o 6 = K 230
def zv (K : Nat → Int32) : Prop :=
  (∀ i, i < 192 → 0 ≤ K i ∧ K i ≤ 9) ∧ (0 ≤ K 192 ∧ K 192 ≤ 7) ∧ (0 ≤ K 193 ∧ K 193 ≤ 99999) ∧ (0 ≤ K 194 ∧ K 194 ≤ 999) ∧
  (∀ i, i < 6 → 0 ≤ K (195 + i) ∧ K (195 + i) ≤ 255) ∧ (∀ i, i < 6 → 0 ≤ K (213 + 2 * i) ∧ K (213 + 2 * i) ≤ 7) ∧
  (0 ≤ K 225 ∧ K 225 ≤ 10) ∧ (0 ≤ K 226 ∧ K 226 ≤ 9) ∧ (0 ≤ K 227 ∧ K 227 ≤ 6) ∧ (0 ≤ K 228 ∧ K 228 ≤ 6) ∧ (0 ≤ K 229 ∧ K 229 ≤ 6) ∧ (-1 ≤ K 230 ∧ K 230 < K 229)
theorem zi_rng {x : Int32} {n : Nat} (h0 : 0 ≤ x) (h : x ≤ Int32.ofNat n) (hn : n < 2147483647) : ∃ m, m ≤ n ∧ x = Int32.ofNat m := by
  obtain ⟨m, h1, h2⟩ := zi_nat (n := n + 1) h0 (by simp only [Int32.le_iff_toInt_le, Int32.lt_iff_toInt_lt, zi_ofNat (show n < 2147483648 by omega), zi_ofNat (show n + 1 < 2147483648 by omega)] at *; omega) (by omega)
  exact ⟨m, by omega, h2⟩
