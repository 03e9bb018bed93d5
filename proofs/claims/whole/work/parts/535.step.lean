/-! Steps, backward: one row for each kind of step. -/
def sf_cs {α β : Type} (g : β → sf_M α) (r : α ⊕ β) : sf_M α := match r with
  | .inl a => sf_ret a
  | .inr b => g b
theorem sf_or_cs {α β : Type} (f : sf_M (α ⊕ β)) (g : β → sf_M α) : sf_or f g = sf_bnd f (sf_cs g) := by
  unfold sf_or; congr 1
section
variable {α β γ : Type} {Q : β → sf_St → Prop} {σ τ : sf_St}
theorem ss_ret {v : β} (h : Q v σ) : zp_wp (sf_ret v) Q σ := ⟨v, σ, rfl, h⟩
theorem ss_bret {v : α} {g : α → sf_M β} (h : zp_wp (g v) Q σ) : zp_wp (sf_bnd (sf_ret v) g) Q σ := h
theorem ss_as {f : sf_M α} {g : α → sf_M γ} {k : γ → sf_M β} (h : zp_wp (sf_bnd f (fun x => sf_bnd (g x) k)) Q σ) : zp_wp (sf_bnd (sf_bnd f g) k) Q σ := by rw [zp_bnd_as]; exact h
theorem ss_bor {f : sf_M (γ ⊕ α)} {g : α → sf_M γ} {k : γ → sf_M β} (h : zp_wp (sf_bnd f (fun r => sf_bnd (sf_cs g r) k)) Q σ) : zp_wp (sf_bnd (sf_or f g) k) Q σ := by rw [sf_or_cs, zp_bnd_as]; exact h
theorem ss_or {f : sf_M (β ⊕ α)} {g : α → sf_M β} (h : zp_wp (sf_bnd f (sf_cs g)) Q σ) : zp_wp (sf_or f g) Q σ := by rw [sf_or_cs]; exact h
theorem ss_cl {g : α → sf_M β} {a : β} (h : Q a σ) : zp_wp (sf_cs g (.inl a)) Q σ := ⟨a, σ, rfl, h⟩
theorem ss_cr {g : α → sf_M β} {b : α} (h : zp_wp (g b) Q σ) : zp_wp (sf_cs g (.inr b)) Q σ := h
theorem ss_bcl {g : α → sf_M γ} {a : γ} {k : γ → sf_M β} (h : zp_wp (k a) Q σ) : zp_wp (sf_bnd (sf_cs g (.inl a)) k) Q σ := h
theorem ss_bcr {g : α → sf_M γ} {b : α} {k : γ → sf_M β} (h : zp_wp (sf_bnd (g b) k) Q σ) : zp_wp (sf_bnd (sf_cs g (.inr b)) k) Q σ := h
theorem ss_iT {c : Prop} [Decidable c] {f g : sf_M β} (hc : c) (h : zp_wp f Q σ) : zp_wp (if c then f else g) Q σ := by rw [if_pos hc]; exact h
theorem ss_iF {c : Prop} [Decidable c] {f g : sf_M β} (hc : ¬ c) (h : zp_wp g Q σ) : zp_wp (if c then f else g) Q σ := by rw [if_neg hc]; exact h
theorem ss_biT {c : Prop} [Decidable c] {f g : sf_M α} {k : α → sf_M β} (hc : c) (h : zp_wp (sf_bnd f k) Q σ) : zp_wp (sf_bnd (if c then f else g) k) Q σ := by rw [if_pos hc]; exact h
theorem ss_biF {c : Prop} [Decidable c] {f g : sf_M α} {k : α → sf_M β} (hc : ¬ c) (h : zp_wp (sf_bnd g k) Q σ) : zp_wp (sf_bnd (if c then f else g) k) Q σ := by rw [if_neg hc]; exact h
theorem ss_i {c : Prop} [Decidable c] {f g : sf_M β} (h1 : c → zp_wp f Q σ) (h2 : ¬ c → zp_wp g Q σ) : zp_wp (if c then f else g) Q σ := by
  by_cases hc : c
  · rw [if_pos hc]; exact h1 hc
  · rw [if_neg hc]; exact h2 hc
theorem ss_bi {c : Prop} [Decidable c] {f g : sf_M α} {k : α → sf_M β} (h1 : c → zp_wp (sf_bnd f k) Q σ) (h2 : ¬ c → zp_wp (sf_bnd g k) Q σ) : zp_wp (sf_bnd (if c then f else g) k) Q σ := by
  by_cases hc : c
  · rw [if_pos hc]; exact h1 hc
  · rw [if_neg hc]; exact h2 hc
theorem ss_call {f : sf_M α} {g : α → sf_M β} {v : α} (e : f σ = some (v, τ)) (h : zp_wp (g v) Q τ) : zp_wp (sf_bnd f g) Q σ := by rw [zp_wp_bnd e]; exact h
theorem ss_tail {f : sf_M β} {v : β} (e : f σ = some (v, τ)) (h : Q v τ) : zp_wp f Q σ := ⟨v, τ, e, h⟩
theorem ss_pure {f : sf_M α} {g : α → sf_M β} {v : α} (e : f = sf_ret v) (h : zp_wp (g v) Q σ) : zp_wp (sf_bnd f g) Q σ := by rw [e]; exact h
theorem ss_ptail {f : sf_M β} {v : β} (e : f = sf_ret v) (h : Q v σ) : zp_wp f Q σ := by rw [e]; exact ⟨v, σ, rfl, h⟩
theorem ss_dvL {x y : Int64} {g : Int64 → sf_M β} (hy : y ≠ 0) (h : zp_wp (g (x / y)) Q σ) : zp_wp (sf_bnd (sf_dvL x y) g) Q σ := by rw [pz_dvL hy]; exact h
theorem ss_rmL {x y : Int64} {g : Int64 → sf_M β} (hy : y ≠ 0) (h : zp_wp (g (x - x / y * y)) Q σ) : zp_wp (sf_bnd (sf_rmL x y) g) Q σ := by rw [pz_rmL hy]; exact h
theorem ss_dvI {x y : Int32} {g : Int32 → sf_M β} (hy : y ≠ 0) (h : zp_wp (g (x / y)) Q σ) : zp_wp (sf_bnd (sf_dvI x y) g) Q σ := by rw [pz_dvI hy]; exact h
theorem ss_rmI {x y : Int32} {g : Int32 → sf_M β} (hy : y ≠ 0) (h : zp_wp (g (x - x / y * y)) Q σ) : zp_wp (sf_bnd (sf_rmI x y) g) Q σ := by rw [pz_rmI hy]; exact h
theorem ss_rz1 {g : Int32 → sf_M β} {v : Int32} (hv : v = 0 ∨ v = 1) (h : zp_wp (g v) Q σ) : zp_wp (sf_bnd (sf_rz v) g) Q σ := by rw [zp_wp_bnd (show sf_rz v σ = some (v, σ) by unfold sf_rz; rw [if_pos hv])]; exact h
end
section
variable {α β : Type} {t : List (Nat × Nat)} {I : Nat → Nat → Int32} {J : Nat → Nat → Int64} {D : Nat → Nat → Option Nat} {Q : β → sf_St → Prop}
theorem ss_gI {ci a N k : Nat} {v : Int32} {g : Int32 → sf_M β} (hk : (zp_sh0 ++ t).getD a (999, 0) = (10 + ci, N)) (hv : I a k = v) (h : zp_wp (g v) Q (zp_Z t I J D)) : zp_wp (sf_bnd (sf_gI ci k (some a)) g) Q (zp_Z t I J D) := by rw [pz_gI hk, hv]; exact h
theorem ss_gR {ci a N k : Nat} {v : Option Nat} {g : Option Nat → sf_M β} (hk : (zp_sh0 ++ t).getD a (999, 0) = (10 + ci, N)) (hv : zp_rfs D a k = v) (h : zp_wp (g v) Q (zp_Z t I J D)) : zp_wp (sf_bnd (sf_gR ci k (some a)) g) Q (zp_Z t I J D) := by rw [pz_gR hk, hv]; exact h
theorem ss_pt {ci a N k p : Nat} {g : Option Nat → sf_M β} (hk : (zp_sh0 ++ t).getD a (999, 0) = (10 + ci, N)) (hp : zp_pt a k = some p) (h : zp_wp (g (some p)) Q (zp_Z t I J D)) : zp_wp (sf_bnd (sf_gR ci k (some a)) g) Q (zp_Z t I J D) := by rw [pz_pt hk hp]; exact h
theorem ss_pI {ci a N k : Nat} {v : Int32} {g : Unit → sf_M β} (hk : (zp_sh0 ++ t).getD a (999, 0) = (10 + ci, N)) (h : zp_wp (g ()) Q (zp_Z t (sf_u2 I a k v) J D)) : zp_wp (sf_bnd (sf_pI ci k (some a) v) g) Q (zp_Z t I J D) := by rw [pz_pI hk]; exact h
theorem ss_pZ {ci a N k : Nat} {v : Int32} {g : Unit → sf_M β} (hk : (zp_sh0 ++ t).getD a (999, 0) = (10 + ci, N)) (hv : v = 0 ∨ v = 1) (h : zp_wp (g ()) Q (zp_Z t (sf_u2 I a k v) J D)) : zp_wp (sf_bnd (sf_pZ ci k (some a) v) g) Q (zp_Z t I J D) := by
  have : sf_pZ ci k (some a) v = sf_pI ci k (some a) v := by funext σ; unfold sf_pZ; rw [if_pos hv]
  rw [this, pz_pI hk]; exact h
theorem ss_pR {ci a N k : Nat} {v : Option Nat} {g : Unit → sf_M β} (hk : (zp_sh0 ++ t).getD a (999, 0) = (10 + ci, N)) (hp : zp_pt a k = none) (h : zp_wp (g ()) Q (zp_Z t I J (sf_u2 D a k v))) : zp_wp (sf_bnd (sf_pR ci k (some a) v) g) Q (zp_Z t I J D) := by rw [pz_pR hk hp]; exact h
theorem ss_rc {ci a N : Nat} {f : sf_M α} {g : α → sf_M β} (hk : (zp_sh0 ++ t).getD a (999, 0) = (10 + ci, N)) (h : zp_wp (sf_bnd f g) Q (zp_Z t I J D)) : zp_wp (sf_bnd (sf_rc ci (some a) f) g) Q (zp_Z t I J D) := by rw [pz_rc hk]; exact h
theorem ss_aI {ty a n m : Nat} {x v : Int32} {g : Int32 → sf_M β} (hk : (zp_sh0 ++ t).getD a (999, 0) = (ty, n)) (hx : x = Int32.ofNat m) (hm : m < n) (hn : n ≤ 65536) (hv : I a m = v) (h : zp_wp (g v) Q (zp_Z t I J D)) : zp_wp (sf_bnd (sf_aI ty (some a) x) g) Q (zp_Z t I J D) := by
  subst hx; rw [pz_aI hk (zi_in hm (by omega)), zi_ixn (by omega), hv]; exact h
theorem ss_aL {a n m : Nat} {x : Int32} {v : Int64} {g : Int64 → sf_M β} (hk : (zp_sh0 ++ t).getD a (999, 0) = (1, n)) (hx : x = Int32.ofNat m) (hm : m < n) (hn : n ≤ 65536) (hv : J a m = v) (h : zp_wp (g v) Q (zp_Z t I J D)) : zp_wp (sf_bnd (sf_aL (some a) x) g) Q (zp_Z t I J D) := by
  subst hx; rw [pz_aL hk (zi_in hm (by omega)), zi_ixn (by omega), hv]; exact h
theorem ss_aR {ty a n m : Nat} {x : Int32} {v : Option Nat} {g : Option Nat → sf_M β} (hk : (zp_sh0 ++ t).getD a (999, 0) = (ty, n)) (hx : x = Int32.ofNat m) (hm : m < n) (hn : n ≤ 65536) (hv : zp_rfs D a m = v) (h : zp_wp (g v) Q (zp_Z t I J D)) : zp_wp (sf_bnd (sf_aR ty (some a) x) g) Q (zp_Z t I J D) := by
  subst hx; rw [pz_aR hk (zi_in hm (by omega)), zi_ixn (by omega), hv]; exact h
theorem ss_sI {a n m : Nat} {x v : Int32} {g : Unit → sf_M β} (hk : (zp_sh0 ++ t).getD a (999, 0) = (0, n)) (hx : x = Int32.ofNat m) (hm : m < n) (hn : n ≤ 65536) (h : zp_wp (g ()) Q (zp_Z t (sf_u2 I a m v) J D)) : zp_wp (sf_bnd (sf_sI 0 (some a) x v) g) Q (zp_Z t I J D) := by
  subst hx; rw [pz_sI hk (zi_in hm (by omega)), zi_ixn (by omega)]; exact h
theorem ss_sB {ty a n m : Nat} {x v w : Int32} {g : Unit → sf_M β} (hk : (zp_sh0 ++ t).getD a (999, 0) = (ty, n)) (hx : x = Int32.ofNat m) (hm : m < n) (hn : n ≤ 65536) (hw : sf_nw ty v = w) (h : zp_wp (g ()) Q (zp_Z t (sf_u2 I a m w) J D)) : zp_wp (sf_bnd (sf_sI ty (some a) x v) g) Q (zp_Z t I J D) := by
  subst hx; rw [pz_sI hk (zi_in hm (by omega)), zi_ixn (by omega), hw]; exact h
theorem ss_sL {a n m : Nat} {x : Int32} {v : Int64} {g : Unit → sf_M β} (hk : (zp_sh0 ++ t).getD a (999, 0) = (1, n)) (hx : x = Int32.ofNat m) (hm : m < n) (hn : n ≤ 65536) (h : zp_wp (g ()) Q (zp_Z t I (sf_u2 J a m v) D)) : zp_wp (sf_bnd (sf_sL (some a) x v) g) Q (zp_Z t I J D) := by
  subst hx; rw [pz_sL hk (zi_in hm (by omega)), zi_ixn (by omega)]; exact h
theorem ss_len {ty a n : Nat} {g : Int32 → sf_M β} (hk : (zp_sh0 ++ t).getD a (999, 0) = (ty, n)) (hty : ty < 7) (h : zp_wp (g (Int32.ofNat n)) Q (zp_Z t I J D)) : zp_wp (sf_bnd (sf_len (some a)) g) Q (zp_Z t I J D) := by rw [pz_len hk hty]; exact h
end
theorem zn_add {x y : Int32} {a b : Nat} (h1 : x = Int32.ofNat a) (h2 : y = Int32.ofNat b) : x + y = Int32.ofNat (a + b) := by rw [h1, h2, zi_add]
theorem zn_mul {x y : Int32} {a b : Nat} (h1 : x = Int32.ofNat a) (h2 : y = Int32.ofNat b) : x * y = Int32.ofNat (a * b) := by rw [h1, h2, zi_mul]
theorem zn_sub {x y : Int32} {a b : Nat} (h1 : x = Int32.ofNat a) (h2 : y = Int32.ofNat b) (h : b ≤ a) : x - y = Int32.ofNat (a - b) := by rw [h1, h2, zi_sub h]
section
variable {α : Type} {f : Nat → Nat → α} {a b k j : Nat} {v w : α}
theorem zr_e (h : v = w) : sf_u2 f a k v a k = w := zu_eq.trans h
theorem zr_a (h : b ≠ a) (e : f b j = w) : sf_u2 f a k v b j = w := (zu_a h).trans e
theorem zr_k (h : j ≠ k) (e : f a j = w) : sf_u2 f a k v a j = w := (zu_k h).trans e
theorem zr_1e {g : Nat → α} (h : g j = w) : sf_u1 f a g a j = w := by rw [zu1_e]; exact h
theorem zr_1a {g : Nat → α} (h : b ≠ a) (e : f b j = w) : sf_u1 f a g b j = w := by rw [zu1_a h]; exact e
end
