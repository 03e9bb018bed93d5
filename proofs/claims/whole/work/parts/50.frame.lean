/-! The fixed heap: one object of each class, the model; steps by what they need. -/
def zp_wp {α : Type} (f : sf_M α) (Q : α → sf_St → Prop) (σ : sf_St) : Prop := ∃ x τ, f σ = some (x, τ) ∧ Q x τ
abbrev zp_in (x : Int32) (n : Nat) : Prop := 0 ≤ x.toInt ∧ x.toInt < (n : Int)
theorem zp_wp_bnd {α β : Type} {f : sf_M α} {g : α → sf_M β} {Q : β → sf_St → Prop} {σ τ : sf_St} {v : α} (h : f σ = some (v, τ)) : zp_wp (sf_bnd f g) Q σ = zp_wp (g v) Q τ := by
  unfold zp_wp; rw [sf_bnd_eq h]
theorem zp_wp_ret {α : Type} {v : α} {Q : α → sf_St → Prop} {σ : sf_St} : zp_wp (sf_ret v) Q σ = Q v σ := by
  apply propext; constructor
  · rintro ⟨x, τ, h, hq⟩; cases h; exact hq
  · intro h; exact ⟨v, σ, rfl, h⟩
theorem zp_wp_bret {α β : Type} {v : α} {g : α → sf_M β} {Q : β → sf_St → Prop} {σ : sf_St} : zp_wp (sf_bnd (sf_ret v) g) Q σ = zp_wp (g v) Q σ := zp_wp_bnd rfl
theorem zp_wp_ite {α : Type} {c : Prop} [Decidable c] {f g : sf_M α} {Q : α → sf_St → Prop} {σ : sf_St} : zp_wp (if c then f else g) Q σ = if c then zp_wp f Q σ else zp_wp g Q σ := by split <;> rfl
theorem zp_wp_bite {α β : Type} {c : Prop} [Decidable c] {f g : sf_M α} {k : α → sf_M β} {Q : β → sf_St → Prop} {σ : sf_St} : zp_wp (sf_bnd (if c then f else g) k) Q σ = if c then zp_wp (sf_bnd f k) Q σ else zp_wp (sf_bnd g k) Q σ := by split <;> rfl
theorem zp_bnd_as {α β γ : Type} {f : sf_M α} {g : α → sf_M β} {k : β → sf_M γ} : sf_bnd (sf_bnd f g) k = sf_bnd f (fun x => sf_bnd (g x) k) := by
  funext σ; unfold sf_bnd; cases f σ <;> rfl
theorem zp_wp_as {α β γ : Type} {f : sf_M α} {g : α → sf_M β} {k : β → sf_M γ} {Q : γ → sf_St → Prop} {σ : sf_St} : zp_wp (sf_bnd (sf_bnd f g) k) Q σ = zp_wp (sf_bnd f (fun x => sf_bnd (g x) k)) Q σ := by rw [zp_bnd_as]
theorem zp_wp_or {α β : Type} {f : sf_M (α ⊕ β)} {g : β → sf_M α} {Q : α → sf_St → Prop} {σ : sf_St} : zp_wp (sf_or f g) Q σ = zp_wp (sf_bnd f (fun r => match r with | .inl a => sf_ret a | .inr b => g b)) Q σ := rfl
theorem zp_wp_bor {α β γ : Type} {f : sf_M (α ⊕ β)} {g : β → sf_M α} {k : α → sf_M γ} {Q : γ → sf_St → Prop} {σ : sf_St} : zp_wp (sf_bnd (sf_or f g) k) Q σ = zp_wp (sf_bnd f (fun r => match r with | .inl a => k a | .inr b => sf_bnd (g b) k)) Q σ := by
  unfold sf_or; rw [zp_bnd_as]; congr 1; congr 1; funext r; cases r <;> rfl
theorem zp_wp_mono {α : Type} {f : sf_M α} {P Q : α → sf_St → Prop} {σ : sf_St} (h : zp_wp f P σ) (hq : ∀ x τ, P x τ → Q x τ) : zp_wp f Q σ := by
  obtain ⟨x, τ, h1, h2⟩ := h; exact ⟨x, τ, h1, hq x τ h2⟩
theorem zp_wp_call {α β : Type} {f : sf_M α} {g : α → sf_M β} {P : α → sf_St → Prop} {Q : β → sf_St → Prop} {σ : sf_St} (h : zp_wp f P σ) (hq : ∀ x τ, P x τ → zp_wp (g x) Q τ) : zp_wp (sf_bnd f g) Q σ := by
  obtain ⟨x, τ, h1, h2⟩ := h; rw [zp_wp_bnd h1]; exact hq x τ h2
theorem zp_wp_eq {α : Type} {f : sf_M α} {v : α} {σ τ : sf_St} (h : zp_wp f (fun x s => x = v ∧ s = τ) σ) : f σ = some (v, τ) := by
  obtain ⟨x, s, h1, rfl, rfl⟩ := h; exact h1
theorem zp_wp_of_eq {α : Type} {f : sf_M α} {v : α} {σ τ : sf_St} {Q : α → sf_St → Prop} (h : f σ = some (v, τ)) : zp_wp f Q σ = Q v τ := by
  apply propext; constructor
  · rintro ⟨x, s, h1, hq⟩; rw [h] at h1; cases h1; exact hq
  · intro hq; exact ⟨v, τ, h, hq⟩
/-- a loop: a measure, what holds ahead of each turn, what holds at its end -/
theorem zp_loop_wp {β γ : Type} {body : β → sf_M (β ⊕ γ)} (P : Nat → β → sf_St → Prop) (Q : γ → sf_St → Prop)
    (hs : ∀ n b σ, P n b σ → zp_wp (body b) (fun r τ => match r with | .inl b' => ∃ m, m < n ∧ P m b' τ | .inr g => Q g τ) σ) :
    ∀ (N n : Nat) (b : β) (σ : sf_St), n < N → P n b σ → zp_wp (sf_loop body N b) Q σ := by
  intro N
  induction N with
  | zero => intro n b σ hn; exact absurd hn (Nat.not_lt_zero _)
  | succ N ih =>
    intro n b σ hn hP
    obtain ⟨r, τ, h1, h2⟩ := hs n b σ hP
    show zp_wp (sf_bnd (body b) _) Q σ
    rw [zp_wp_bnd h1]
    cases r with
    | inl b' =>
      obtain ⟨m, hm, h3⟩ := h2
      exact ih m b' τ (by omega) h3
    | inr g =>
      show zp_wp (sf_ret g) Q τ
      rw [zp_wp_ret]; exact h2
theorem zp_loop_b {β γ δ : Type} {body : β → sf_M (β ⊕ γ)} {k : γ → sf_M δ} {Q : δ → sf_St → Prop} {N : Nat} {b : β} {σ : sf_St} (P : Nat → β → sf_St → Prop) (n : Nat) (hn : n < N) (h0 : P n b σ)
    (hs : ∀ n b σ, P n b σ → zp_wp (body b) (fun r τ => match r with | .inl b' => ∃ m, m < n ∧ P m b' τ | .inr g => zp_wp (k g) Q τ) σ) : zp_wp (sf_bnd (sf_loop body N b) k) Q σ := by
  refine zp_wp_call (zp_loop_wp P (fun g τ => zp_wp (k g) Q τ) hs N n b σ hn h0) (fun x τ h => h)
def zp_sh0 : List (Nat × Nat) := [(10, 13), (11, 8), (14, 14), (15, 4), (0, 192), (0, 6), (0, 6), (0, 6), (6, 6), (0, 6), (0, 6), (13, 2), (0, 12), (0, 64), (20, 5), (0, 64), (0, 64), (0, 64), (0, 8), (0, 8), (12, 4), (4, 16), (0, 16), (15, 4), (0, 192), (15, 4), (0, 192), (15, 4), (0, 192), (15, 4), (0, 192), (15, 4), (0, 192), (15, 4), (0, 192), (15, 4), (0, 192), (15, 4), (0, 192), (15, 4), (0, 192), (15, 4), (0, 192), (15, 4), (0, 192), (15, 4), (0, 192), (15, 4), (0, 192), (15, 4), (0, 192), (15, 4), (0, 192), (15, 4), (0, 192), (12, 4), (4, 16), (0, 16), (15, 4), (0, 192), (15, 4), (0, 192), (15, 4), (0, 192), (15, 4), (0, 192), (15, 4), (0, 192), (15, 4), (0, 192), (15, 4), (0, 192), (15, 4), (0, 192), (15, 4), (0, 192), (15, 4), (0, 192), (15, 4), (0, 192), (15, 4), (0, 192), (15, 4), (0, 192), (15, 4), (0, 192), (15, 4), (0, 192), (15, 4), (0, 192), (15, 4), (0, 192), (13, 2), (0, 12), (0, 64), (18, 2), (0, 400), (17, 4), (16, 5), (0, 400), (0, 400), (0, 72), (19, 9), (0, 400), (0, 401), (0, 401), (0, 401), (5, 2), (0, 7), (0, 48), (0, 4), (1, 20), (21, 53), (0, 7), (0, 5838), (0, 11676), (3, 2), (0, 390), (2, 118), (2, 400), (0, 5), (0, 401), (0, 401), (0, 401), (0, 7), (0, 8), (0, 64), (0, 8), (0, 64), (0, 8), (0, 64), (0, 64), (0, 64), (0, 3136), (0, 3136), (0, 48), (1, 21), (1, 2), (0, 4)]
def zp_ptl : List (List (Option Nat)) := [[some 1, some 95, some 97, some 107, some 108, some 109, some 110, some 111], [some 2, some 14, some 20, some 55, some 90, some 92], [some 3, none, some 5, some 6, some 7, none, none, some 8, none, some 9, some 10, none, none, some 11], [some 4], [], [], [], [], [], [], [], [some 12, some 13], [], [], [some 15, some 16, some 17, some 18, some 19], [], [], [], [], [], [some 21, some 22], [some 23, some 25, some 27, some 29, some 31, some 33, some 35, some 37, some 39, some 41, some 43, some 45, some 47, some 49, some 51, some 53], [], [some 24], [], [some 26], [], [some 28], [], [some 30], [], [some 32], [], [some 34], [], [some 36], [], [some 38], [], [some 40], [], [some 42], [], [some 44], [], [some 46], [], [some 48], [], [some 50], [], [some 52], [], [some 54], [], [some 56, some 57], [some 58, some 60, some 62, some 64, some 66, some 68, some 70, some 72, some 74, some 76, some 78, some 80, some 82, some 84, some 86, some 88], [], [some 59], [], [some 61], [], [some 63], [], [some 65], [], [some 67], [], [some 69], [], [some 71], [], [some 73], [], [some 75], [], [some 77], [], [some 79], [], [some 81], [], [some 83], [], [some 85], [], [some 87], [], [some 89], [], [some 91], [], [some 93, some 94], [], [], [some 96], [], [some 98, some 102], [some 99, some 100, some 101], [], [], [], [some 103, some 104, some 105, some 106], [], [], [], [], [], [], [], [], [], [none, some 113, some 114, some 115, some 116, some 117, none, some 118, none, none, none, some 119, some 120, none, none, some 121, some 122, some 123, none, none, none, none, none, none, none, none, some 124, none, none, some 125, none, some 126, some 127, some 128, some 129, some 130, some 131, some 132, some 133, some 134, none, some 135, some 136, none, none, none, none, none, none, some 137, some 138], [], [], [], [], [], [], [], [], [], [], [], [], [], [], [], [], [], [], [], [], [], [], [], [], [], []]
def zp_pt (a k : Nat) : Option Nat := (zp_ptl.getD a []).getD k none
def zp_rfs (D : Nat → Nat → Option Nat) : Nat → Nat → Option Nat := fun a k => match zp_pt a k with
  | some p => some p
  | none => D a k
def zp_Z (t : List (Nat × Nat)) (I : Nat → Nat → Int32) (J : Nat → Nat → Int64) (D : Nat → Nat → Option Nat) : sf_St := (zp_sh0 ++ t, I, J, zp_rfs D)
theorem zp_rfs_u2 {D : Nat → Nat → Option Nat} {a k : Nat} {v : Option Nat} (h : zp_pt a k = none) : sf_u2 (zp_rfs D) a k v = zp_rfs (sf_u2 D a k v) := by
  funext b j
  unfold sf_u2 zp_rfs
  by_cases hb : b = a ∧ j = k
  · obtain ⟨rfl, rfl⟩ := hb; simp [h]
  · simp only [hb, if_false]
theorem zp_pt_big {a k : Nat} (h : 139 ≤ a) : zp_pt a k = none := by
  unfold zp_pt
  rw [show zp_ptl.getD a [] = [] from by rw [List.getD_eq_getElem?_getD, List.getElem?_eq_none (by simpa [zp_ptl] using h)]; rfl]; rfl
theorem zp_rfs_u1 {D : Nat → Nat → Option Nat} {a : Nat} {g : Nat → Option Nat} (h : 139 ≤ a) : sf_u1 (zp_rfs D) a g = zp_rfs (sf_u1 D a g) := by
  funext b j
  unfold sf_u1 zp_rfs
  by_cases hb : b = a
  · subst hb; simp [zp_pt_big h]
  · simp only [hb, if_false]
set_option maxRecDepth 20000 in
theorem zp_sh0_len : zp_sh0.length = 139 := rfl
section
variable {α β : Type} {t : List (Nat × Nat)} {I : Nat → Nat → Int32} {J : Nat → Nat → Int64} {D : Nat → Nat → Option Nat} {Q : β → sf_St → Prop}
theorem pz_gI {ci a N k : Nat} {g : Int32 → sf_M β} (hk : (zp_sh0 ++ t).getD a (999, 0) = (10 + ci, N)) : zp_wp (sf_bnd (sf_gI ci k (some a)) g) Q (zp_Z t I J D) = zp_wp (g (I a k)) Q (zp_Z t I J D) := by
  apply zp_wp_bnd
  simp [-List.getD_eq_getElem?_getD, sf_gI, sf_isO, sf_k, zp_Z, hk, sf_ad]
theorem pz_gR {ci a N k : Nat} {g : Option Nat → sf_M β} (hk : (zp_sh0 ++ t).getD a (999, 0) = (10 + ci, N)) : zp_wp (sf_bnd (sf_gR ci k (some a)) g) Q (zp_Z t I J D) = zp_wp (g (zp_rfs D a k)) Q (zp_Z t I J D) := by
  apply zp_wp_bnd
  simp [-List.getD_eq_getElem?_getD, sf_gR, sf_isO, sf_k, zp_Z, hk, sf_ad]
theorem pz_pt {ci a N k p : Nat} {g : Option Nat → sf_M β} (hk : (zp_sh0 ++ t).getD a (999, 0) = (10 + ci, N)) (hp : zp_pt a k = some p) : zp_wp (sf_bnd (sf_gR ci k (some a)) g) Q (zp_Z t I J D) = zp_wp (g (some p)) Q (zp_Z t I J D) := by
  rw [pz_gR hk]; unfold zp_rfs; rw [hp]
theorem pz_pI {ci a N k : Nat} {v : Int32} {g : Unit → sf_M β} (hk : (zp_sh0 ++ t).getD a (999, 0) = (10 + ci, N)) : zp_wp (sf_bnd (sf_pI ci k (some a) v) g) Q (zp_Z t I J D) = zp_wp (g ()) Q (zp_Z t (sf_u2 I a k v) J D) := by
  apply zp_wp_bnd
  simp [-List.getD_eq_getElem?_getD, sf_pI, sf_isO, sf_k, zp_Z, hk, sf_ad]
theorem pz_pR {ci a N k : Nat} {v : Option Nat} {g : Unit → sf_M β} (hk : (zp_sh0 ++ t).getD a (999, 0) = (10 + ci, N)) (hp : zp_pt a k = none) : zp_wp (sf_bnd (sf_pR ci k (some a) v) g) Q (zp_Z t I J D) = zp_wp (g ()) Q (zp_Z t I J (sf_u2 D a k v)) := by
  apply zp_wp_bnd
  simp [-List.getD_eq_getElem?_getD, sf_pR, sf_isO, sf_k, zp_Z, hk, sf_ad, zp_rfs_u2 hp]
theorem pz_rc {ci a N : Nat} {f : sf_M α} {g : α → sf_M β} (hk : (zp_sh0 ++ t).getD a (999, 0) = (10 + ci, N)) : zp_wp (sf_bnd (sf_rc ci (some a) f) g) Q (zp_Z t I J D) = zp_wp (sf_bnd f g) Q (zp_Z t I J D) := by
  unfold zp_wp sf_bnd sf_rc
  simp [-List.getD_eq_getElem?_getD, sf_isO, sf_k, zp_Z, hk]
theorem pz_aI {ty a n : Nat} {x : Int32} {g : Int32 → sf_M β} (hk : (zp_sh0 ++ t).getD a (999, 0) = (ty, n)) (h : zp_in x n) : zp_wp (sf_bnd (sf_aI ty (some a) x) g) Q (zp_Z t I J D) = zp_wp (g (I a (sf_ix x))) Q (zp_Z t I J D) := by
  apply zp_wp_bnd
  simp [-List.getD_eq_getElem?_getD, sf_aI, sf_isA, sf_k, sf_n, zp_Z, hk, sf_ad, h]
theorem pz_aL {a n : Nat} {x : Int32} {g : Int64 → sf_M β} (hk : (zp_sh0 ++ t).getD a (999, 0) = (1, n)) (h : zp_in x n) : zp_wp (sf_bnd (sf_aL (some a) x) g) Q (zp_Z t I J D) = zp_wp (g (J a (sf_ix x))) Q (zp_Z t I J D) := by
  apply zp_wp_bnd
  simp [-List.getD_eq_getElem?_getD, sf_aL, sf_isA, sf_k, sf_n, zp_Z, hk, sf_ad, h]
theorem pz_aR {ty a n : Nat} {x : Int32} {g : Option Nat → sf_M β} (hk : (zp_sh0 ++ t).getD a (999, 0) = (ty, n)) (h : zp_in x n) : zp_wp (sf_bnd (sf_aR ty (some a) x) g) Q (zp_Z t I J D) = zp_wp (g (zp_rfs D a (sf_ix x))) Q (zp_Z t I J D) := by
  apply zp_wp_bnd
  simp [-List.getD_eq_getElem?_getD, sf_aR, sf_isA, sf_k, sf_n, zp_Z, hk, sf_ad, h]
theorem pz_sI {ty a n : Nat} {x v : Int32} {g : Unit → sf_M β} (hk : (zp_sh0 ++ t).getD a (999, 0) = (ty, n)) (h : zp_in x n) : zp_wp (sf_bnd (sf_sI ty (some a) x v) g) Q (zp_Z t I J D) = zp_wp (g ()) Q (zp_Z t (sf_u2 I a (sf_ix x) (sf_nw ty v)) J D) := by
  apply zp_wp_bnd
  simp [-List.getD_eq_getElem?_getD, sf_sI, sf_isA, sf_k, sf_n, zp_Z, hk, sf_ad, h]
theorem pz_sL {a n : Nat} {x : Int32} {v : Int64} {g : Unit → sf_M β} (hk : (zp_sh0 ++ t).getD a (999, 0) = (1, n)) (h : zp_in x n) : zp_wp (sf_bnd (sf_sL (some a) x v) g) Q (zp_Z t I J D) = zp_wp (g ()) Q (zp_Z t I (sf_u2 J a (sf_ix x) v) D) := by
  apply zp_wp_bnd
  simp [-List.getD_eq_getElem?_getD, sf_sL, sf_isA, sf_k, sf_n, zp_Z, hk, sf_ad, h]
theorem pz_sR {ty ci a n p N : Nat} {x : Int32} {g : Unit → sf_M β} (hk : (zp_sh0 ++ t).getD a (999, 0) = (ty, n)) (h : zp_in x n) (hp : zp_pt a (sf_ix x) = none) (ho : (zp_sh0 ++ t).getD p (999, 0) = (10 + ci, N)) : zp_wp (sf_bnd (sf_sR ty ci (some a) x (some p)) g) Q (zp_Z t I J D) = zp_wp (g ()) Q (zp_Z t I J (sf_u2 D a (sf_ix x) (some p))) := by
  apply zp_wp_bnd
  simp [-List.getD_eq_getElem?_getD, sf_sR, sf_isA, sf_isO, sf_k, sf_n, zp_Z, hk, ho, sf_ad, h, zp_rfs_u2 hp]
theorem pz_sRn {ty ci a n : Nat} {x : Int32} {g : Unit → sf_M β} (hk : (zp_sh0 ++ t).getD a (999, 0) = (ty, n)) (h : zp_in x n) (hp : zp_pt a (sf_ix x) = none) : zp_wp (sf_bnd (sf_sR ty ci (some a) x none) g) Q (zp_Z t I J D) = zp_wp (g ()) Q (zp_Z t I J (sf_u2 D a (sf_ix x) none)) := by
  apply zp_wp_bnd
  simp [-List.getD_eq_getElem?_getD, sf_sR, sf_isA, sf_isO, sf_k, sf_n, zp_Z, hk, sf_ad, h, zp_rfs_u2 hp]
theorem pz_len {ty a n : Nat} {g : Int32 → sf_M β} (hk : (zp_sh0 ++ t).getD a (999, 0) = (ty, n)) (hty : ty < 7) : zp_wp (sf_bnd (sf_len (some a)) g) Q (zp_Z t I J D) = zp_wp (g (Int32.ofNat n)) Q (zp_Z t I J D) := by
  apply zp_wp_bnd
  simp [-List.getD_eq_getElem?_getD, sf_len, sf_k, sf_n, zp_Z, hk, hty]
theorem pz_cpI {a b n m : Nat} {sp dp l : Int32} {g : Unit → sf_M β} (hk : (zp_sh0 ++ t).getD a (999, 0) = (0, n)) (hq : (zp_sh0 ++ t).getD b (999, 0) = (0, m)) (h : (0 ≤ sp.toInt ∧ 0 ≤ dp.toInt ∧ 0 ≤ l.toInt) ∧ sp.toInt + l.toInt ≤ (n : Int) ∧ dp.toInt + l.toInt ≤ (m : Int)) : zp_wp (sf_bnd (sf_cpI (some a) sp (some b) dp l) g) Q (zp_Z t I J D) = zp_wp (g ()) Q (zp_Z t (sf_u1 I b (va_cpy (I a) (I b) (sf_ix sp) (sf_ix dp) (sf_ix l))) J D) := by
  apply zp_wp_bnd
  simp [-List.getD_eq_getElem?_getD, sf_cpI, sf_k, sf_n, zp_Z, hk, hq, h]
theorem pz_new {ci N : Nat} {g : Option Nat → sf_M β} : zp_wp (sf_bnd (sf_new ci N) g) Q (zp_Z t I J D) = zp_wp (g (some (139 + t.length))) Q (zp_Z (t ++ [(10 + ci, N)]) (sf_u1 I (139 + t.length) (fun _ => 0)) (sf_u1 J (139 + t.length) (fun _ => 0)) (sf_u1 D (139 + t.length) (fun _ => none))) := by
  apply zp_wp_bnd
  simp only [sf_new, sf_mk, zp_Z, List.length_append, zp_sh0_len, List.append_assoc]
  rw [zp_rfs_u1 (by omega)]
theorem pz_newA {ty : Nat} {n : Int32} {g : Option Nat → sf_M β} (h : zp_in n 65536) : zp_wp (sf_bnd (sf_newA ty n) g) Q (zp_Z t I J D) = zp_wp (g (some (139 + t.length))) Q (zp_Z (t ++ [(ty, sf_ix n)]) (sf_u1 I (139 + t.length) (fun _ => 0)) (sf_u1 J (139 + t.length) (fun _ => 0)) (sf_u1 D (139 + t.length) (fun _ => none))) := by
  apply zp_wp_bnd
  have h' : 0 ≤ n.toInt ∧ n.toInt < 65536 := h
  simp only [sf_newA, h'.1, h'.2, decide_true, Bool.and_self, if_true, sf_mk, zp_Z, List.length_append, zp_sh0_len, List.append_assoc]
  rw [zp_rfs_u1 (by omega)]
theorem pz_dvI {x y : Int32} {g : Int32 → sf_M β} {σ : sf_St} (h : y ≠ 0) : zp_wp (sf_bnd (sf_dvI x y) g) Q σ = zp_wp (g (x / y)) Q σ := by
  apply zp_wp_bnd; simp [sf_dvI, h]
theorem pz_rmI {x y : Int32} {g : Int32 → sf_M β} {σ : sf_St} (h : y ≠ 0) : zp_wp (sf_bnd (sf_rmI x y) g) Q σ = zp_wp (g (x - x / y * y)) Q σ := by
  apply zp_wp_bnd; simp [sf_rmI, h]
theorem pz_dvL {x y : Int64} {g : Int64 → sf_M β} {σ : sf_St} (h : y ≠ 0) : zp_wp (sf_bnd (sf_dvL x y) g) Q σ = zp_wp (g (x / y)) Q σ := by
  apply zp_wp_bnd; simp [sf_dvL, h]
theorem pz_rmL {x y : Int64} {g : Int64 → sf_M β} {σ : sf_St} (h : y ≠ 0) : zp_wp (sf_bnd (sf_rmL x y) g) Q σ = zp_wp (g (x - x / y * y)) Q σ := by
  apply zp_wp_bnd; simp [sf_rmL, h]
theorem pz_cst {l : List Int32} {i : Int32} {g : Int32 → sf_M β} {σ : sf_St} (h : zp_in i l.length) : zp_wp (sf_bnd (sf_cst l i) g) Q σ = zp_wp (g (l.getD (sf_ix i) 0)) Q σ := by
  apply zp_wp_bnd; simp [sf_cst, h]
end
set_option maxRecDepth 20000 in
theorem pb_X {β : Type} {t : List (Nat × Nat)} {I : Nat → Nat → Int32} {J : Nat → Nat → Int64} {D : Nat → Nat → Option Nat} {Q : β → sf_St → Prop} :
  (∀ (k : Nat) (g : Int32 → sf_M β), zp_wp (sf_bnd (sf_gI 0 k (some 0)) g) Q (zp_Z t I J D) = zp_wp (g (I 0 k)) Q (zp_Z t I J D)) ∧
  (∀ (k : Nat) (v : Int32) (g : Unit → sf_M β), zp_wp (sf_bnd (sf_pI 0 k (some 0) v) g) Q (zp_Z t I J D) = zp_wp (g ()) Q (zp_Z t (sf_u2 I 0 k v) J D)) ∧
  (∀ {α : Type} (f : sf_M α) (g : α → sf_M β), zp_wp (sf_bnd (sf_rc 0 (some 0) f) g) Q (zp_Z t I J D) = zp_wp (sf_bnd f g) Q (zp_Z t I J D)) ∧
  (∀ (g : Option Nat → sf_M β), zp_wp (sf_bnd (sf_gR 0 0 (some 0)) g) Q (zp_Z t I J D) = zp_wp (g (some 1)) Q (zp_Z t I J D)) ∧
  (∀ (g : Option Nat → sf_M β), zp_wp (sf_bnd (sf_gR 0 1 (some 0)) g) Q (zp_Z t I J D) = zp_wp (g (some 95)) Q (zp_Z t I J D)) ∧
  (∀ (g : Option Nat → sf_M β), zp_wp (sf_bnd (sf_gR 0 2 (some 0)) g) Q (zp_Z t I J D) = zp_wp (g (some 97)) Q (zp_Z t I J D)) ∧
  (∀ (g : Option Nat → sf_M β), zp_wp (sf_bnd (sf_gR 0 3 (some 0)) g) Q (zp_Z t I J D) = zp_wp (g (some 107)) Q (zp_Z t I J D)) ∧
  (∀ (g : Option Nat → sf_M β), zp_wp (sf_bnd (sf_gR 0 4 (some 0)) g) Q (zp_Z t I J D) = zp_wp (g (some 108)) Q (zp_Z t I J D)) ∧
  (∀ (g : Option Nat → sf_M β), zp_wp (sf_bnd (sf_gR 0 5 (some 0)) g) Q (zp_Z t I J D) = zp_wp (g (some 109)) Q (zp_Z t I J D)) ∧
  (∀ (g : Option Nat → sf_M β), zp_wp (sf_bnd (sf_gR 0 6 (some 0)) g) Q (zp_Z t I J D) = zp_wp (g (some 110)) Q (zp_Z t I J D)) ∧
  (∀ (g : Option Nat → sf_M β), zp_wp (sf_bnd (sf_gR 0 7 (some 0)) g) Q (zp_Z t I J D) = zp_wp (g (some 111)) Q (zp_Z t I J D)) ∧
  (∀ (k : Nat) (g : Int32 → sf_M β), zp_wp (sf_bnd (sf_gI 1 k (some 1)) g) Q (zp_Z t I J D) = zp_wp (g (I 1 k)) Q (zp_Z t I J D)) ∧
  (∀ (k : Nat) (v : Int32) (g : Unit → sf_M β), zp_wp (sf_bnd (sf_pI 1 k (some 1) v) g) Q (zp_Z t I J D) = zp_wp (g ()) Q (zp_Z t (sf_u2 I 1 k v) J D)) ∧
  (∀ {α : Type} (f : sf_M α) (g : α → sf_M β), zp_wp (sf_bnd (sf_rc 1 (some 1) f) g) Q (zp_Z t I J D) = zp_wp (sf_bnd f g) Q (zp_Z t I J D)) ∧
  (∀ (g : Option Nat → sf_M β), zp_wp (sf_bnd (sf_gR 1 0 (some 1)) g) Q (zp_Z t I J D) = zp_wp (g (some 2)) Q (zp_Z t I J D)) ∧
  (∀ (g : Option Nat → sf_M β), zp_wp (sf_bnd (sf_gR 1 1 (some 1)) g) Q (zp_Z t I J D) = zp_wp (g (some 14)) Q (zp_Z t I J D)) ∧
  (∀ (g : Option Nat → sf_M β), zp_wp (sf_bnd (sf_gR 1 2 (some 1)) g) Q (zp_Z t I J D) = zp_wp (g (some 20)) Q (zp_Z t I J D)) ∧
  (∀ (g : Option Nat → sf_M β), zp_wp (sf_bnd (sf_gR 1 3 (some 1)) g) Q (zp_Z t I J D) = zp_wp (g (some 55)) Q (zp_Z t I J D)) ∧
  (∀ (g : Option Nat → sf_M β), zp_wp (sf_bnd (sf_gR 1 4 (some 1)) g) Q (zp_Z t I J D) = zp_wp (g (some 90)) Q (zp_Z t I J D)) ∧
  (∀ (g : Option Nat → sf_M β), zp_wp (sf_bnd (sf_gR 1 5 (some 1)) g) Q (zp_Z t I J D) = zp_wp (g (some 92)) Q (zp_Z t I J D)) ∧
  (∀ (k : Nat) (g : Int32 → sf_M β), zp_wp (sf_bnd (sf_gI 4 k (some 2)) g) Q (zp_Z t I J D) = zp_wp (g (I 2 k)) Q (zp_Z t I J D)) ∧
  (∀ (k : Nat) (v : Int32) (g : Unit → sf_M β), zp_wp (sf_bnd (sf_pI 4 k (some 2) v) g) Q (zp_Z t I J D) = zp_wp (g ()) Q (zp_Z t (sf_u2 I 2 k v) J D)) ∧
  (∀ {α : Type} (f : sf_M α) (g : α → sf_M β), zp_wp (sf_bnd (sf_rc 4 (some 2) f) g) Q (zp_Z t I J D) = zp_wp (sf_bnd f g) Q (zp_Z t I J D)) ∧
  (∀ (g : Option Nat → sf_M β), zp_wp (sf_bnd (sf_gR 4 0 (some 2)) g) Q (zp_Z t I J D) = zp_wp (g (some 3)) Q (zp_Z t I J D)) ∧
  (∀ (g : Option Nat → sf_M β), zp_wp (sf_bnd (sf_gR 4 2 (some 2)) g) Q (zp_Z t I J D) = zp_wp (g (some 5)) Q (zp_Z t I J D)) ∧
  (∀ (g : Option Nat → sf_M β), zp_wp (sf_bnd (sf_gR 4 3 (some 2)) g) Q (zp_Z t I J D) = zp_wp (g (some 6)) Q (zp_Z t I J D)) ∧
  (∀ (g : Option Nat → sf_M β), zp_wp (sf_bnd (sf_gR 4 4 (some 2)) g) Q (zp_Z t I J D) = zp_wp (g (some 7)) Q (zp_Z t I J D)) ∧
  (∀ (g : Option Nat → sf_M β), zp_wp (sf_bnd (sf_gR 4 7 (some 2)) g) Q (zp_Z t I J D) = zp_wp (g (some 8)) Q (zp_Z t I J D)) ∧
  (∀ (g : Option Nat → sf_M β), zp_wp (sf_bnd (sf_gR 4 9 (some 2)) g) Q (zp_Z t I J D) = zp_wp (g (some 9)) Q (zp_Z t I J D)) ∧
  (∀ (g : Option Nat → sf_M β), zp_wp (sf_bnd (sf_gR 4 10 (some 2)) g) Q (zp_Z t I J D) = zp_wp (g (some 10)) Q (zp_Z t I J D)) ∧
  (∀ (g : Option Nat → sf_M β), zp_wp (sf_bnd (sf_gR 4 13 (some 2)) g) Q (zp_Z t I J D) = zp_wp (g (some 11)) Q (zp_Z t I J D)) ∧
  (∀ (k : Nat) (g : Int32 → sf_M β), zp_wp (sf_bnd (sf_gI 5 k (some 3)) g) Q (zp_Z t I J D) = zp_wp (g (I 3 k)) Q (zp_Z t I J D)) ∧
  (∀ (k : Nat) (v : Int32) (g : Unit → sf_M β), zp_wp (sf_bnd (sf_pI 5 k (some 3) v) g) Q (zp_Z t I J D) = zp_wp (g ()) Q (zp_Z t (sf_u2 I 3 k v) J D)) ∧
  (∀ {α : Type} (f : sf_M α) (g : α → sf_M β), zp_wp (sf_bnd (sf_rc 5 (some 3) f) g) Q (zp_Z t I J D) = zp_wp (sf_bnd f g) Q (zp_Z t I J D)) ∧
  (∀ (g : Option Nat → sf_M β), zp_wp (sf_bnd (sf_gR 5 0 (some 3)) g) Q (zp_Z t I J D) = zp_wp (g (some 4)) Q (zp_Z t I J D)) ∧
  (∀ (x : Int32) (g : Int32 → sf_M β), zp_in x 192 → zp_wp (sf_bnd (sf_aI 0 (some 4) x) g) Q (zp_Z t I J D) = zp_wp (g (I 4 (sf_ix x))) Q (zp_Z t I J D)) ∧
  (∀ (x v : Int32) (g : Unit → sf_M β), zp_in x 192 → zp_wp (sf_bnd (sf_sI 0 (some 4) x v) g) Q (zp_Z t I J D) = zp_wp (g ()) Q (zp_Z t (sf_u2 I 4 (sf_ix x) v) J D)) ∧
  (∀ (g : Int32 → sf_M β), zp_wp (sf_bnd (sf_len (some 4)) g) Q (zp_Z t I J D) = zp_wp (g (192 : Int32)) Q (zp_Z t I J D)) ∧
  (∀ (x : Int32) (g : Int32 → sf_M β), zp_in x 6 → zp_wp (sf_bnd (sf_aI 0 (some 5) x) g) Q (zp_Z t I J D) = zp_wp (g (I 5 (sf_ix x))) Q (zp_Z t I J D)) ∧
  (∀ (x v : Int32) (g : Unit → sf_M β), zp_in x 6 → zp_wp (sf_bnd (sf_sI 0 (some 5) x v) g) Q (zp_Z t I J D) = zp_wp (g ()) Q (zp_Z t (sf_u2 I 5 (sf_ix x) v) J D)) ∧
  (∀ (g : Int32 → sf_M β), zp_wp (sf_bnd (sf_len (some 5)) g) Q (zp_Z t I J D) = zp_wp (g (6 : Int32)) Q (zp_Z t I J D)) ∧
  (∀ (x : Int32) (g : Int32 → sf_M β), zp_in x 6 → zp_wp (sf_bnd (sf_aI 0 (some 6) x) g) Q (zp_Z t I J D) = zp_wp (g (I 6 (sf_ix x))) Q (zp_Z t I J D)) ∧
  (∀ (x v : Int32) (g : Unit → sf_M β), zp_in x 6 → zp_wp (sf_bnd (sf_sI 0 (some 6) x v) g) Q (zp_Z t I J D) = zp_wp (g ()) Q (zp_Z t (sf_u2 I 6 (sf_ix x) v) J D)) ∧
  (∀ (g : Int32 → sf_M β), zp_wp (sf_bnd (sf_len (some 6)) g) Q (zp_Z t I J D) = zp_wp (g (6 : Int32)) Q (zp_Z t I J D)) ∧
  (∀ (x : Int32) (g : Int32 → sf_M β), zp_in x 6 → zp_wp (sf_bnd (sf_aI 0 (some 7) x) g) Q (zp_Z t I J D) = zp_wp (g (I 7 (sf_ix x))) Q (zp_Z t I J D)) ∧
  (∀ (x v : Int32) (g : Unit → sf_M β), zp_in x 6 → zp_wp (sf_bnd (sf_sI 0 (some 7) x v) g) Q (zp_Z t I J D) = zp_wp (g ()) Q (zp_Z t (sf_u2 I 7 (sf_ix x) v) J D)) ∧
  (∀ (g : Int32 → sf_M β), zp_wp (sf_bnd (sf_len (some 7)) g) Q (zp_Z t I J D) = zp_wp (g (6 : Int32)) Q (zp_Z t I J D)) ∧
  (∀ (x : Int32) (g : Option Nat → sf_M β), zp_in x 6 → zp_wp (sf_bnd (sf_aR 6 (some 8) x) g) Q (zp_Z t I J D) = zp_wp (g (zp_rfs D 8 (sf_ix x))) Q (zp_Z t I J D)) ∧
  (∀ (g : Int32 → sf_M β), zp_wp (sf_bnd (sf_len (some 8)) g) Q (zp_Z t I J D) = zp_wp (g (6 : Int32)) Q (zp_Z t I J D)) ∧
  (∀ (x : Int32) (g : Int32 → sf_M β), zp_in x 6 → zp_wp (sf_bnd (sf_aI 0 (some 9) x) g) Q (zp_Z t I J D) = zp_wp (g (I 9 (sf_ix x))) Q (zp_Z t I J D)) ∧
  (∀ (x v : Int32) (g : Unit → sf_M β), zp_in x 6 → zp_wp (sf_bnd (sf_sI 0 (some 9) x v) g) Q (zp_Z t I J D) = zp_wp (g ()) Q (zp_Z t (sf_u2 I 9 (sf_ix x) v) J D)) ∧
  (∀ (g : Int32 → sf_M β), zp_wp (sf_bnd (sf_len (some 9)) g) Q (zp_Z t I J D) = zp_wp (g (6 : Int32)) Q (zp_Z t I J D)) ∧
  (∀ (x : Int32) (g : Int32 → sf_M β), zp_in x 6 → zp_wp (sf_bnd (sf_aI 0 (some 10) x) g) Q (zp_Z t I J D) = zp_wp (g (I 10 (sf_ix x))) Q (zp_Z t I J D)) ∧
  (∀ (x v : Int32) (g : Unit → sf_M β), zp_in x 6 → zp_wp (sf_bnd (sf_sI 0 (some 10) x v) g) Q (zp_Z t I J D) = zp_wp (g ()) Q (zp_Z t (sf_u2 I 10 (sf_ix x) v) J D)) ∧
  (∀ (g : Int32 → sf_M β), zp_wp (sf_bnd (sf_len (some 10)) g) Q (zp_Z t I J D) = zp_wp (g (6 : Int32)) Q (zp_Z t I J D)) ∧
  (∀ (k : Nat) (g : Int32 → sf_M β), zp_wp (sf_bnd (sf_gI 3 k (some 11)) g) Q (zp_Z t I J D) = zp_wp (g (I 11 k)) Q (zp_Z t I J D)) ∧
  (∀ (k : Nat) (v : Int32) (g : Unit → sf_M β), zp_wp (sf_bnd (sf_pI 3 k (some 11) v) g) Q (zp_Z t I J D) = zp_wp (g ()) Q (zp_Z t (sf_u2 I 11 k v) J D)) ∧
  (∀ {α : Type} (f : sf_M α) (g : α → sf_M β), zp_wp (sf_bnd (sf_rc 3 (some 11) f) g) Q (zp_Z t I J D) = zp_wp (sf_bnd f g) Q (zp_Z t I J D)) ∧
  (∀ (g : Option Nat → sf_M β), zp_wp (sf_bnd (sf_gR 3 0 (some 11)) g) Q (zp_Z t I J D) = zp_wp (g (some 12)) Q (zp_Z t I J D)) ∧
  (∀ (g : Option Nat → sf_M β), zp_wp (sf_bnd (sf_gR 3 1 (some 11)) g) Q (zp_Z t I J D) = zp_wp (g (some 13)) Q (zp_Z t I J D)) ∧
  (∀ (x : Int32) (g : Int32 → sf_M β), zp_in x 12 → zp_wp (sf_bnd (sf_aI 0 (some 12) x) g) Q (zp_Z t I J D) = zp_wp (g (I 12 (sf_ix x))) Q (zp_Z t I J D)) ∧
  (∀ (x v : Int32) (g : Unit → sf_M β), zp_in x 12 → zp_wp (sf_bnd (sf_sI 0 (some 12) x v) g) Q (zp_Z t I J D) = zp_wp (g ()) Q (zp_Z t (sf_u2 I 12 (sf_ix x) v) J D)) ∧
  (∀ (g : Int32 → sf_M β), zp_wp (sf_bnd (sf_len (some 12)) g) Q (zp_Z t I J D) = zp_wp (g (12 : Int32)) Q (zp_Z t I J D)) ∧
  (∀ (x : Int32) (g : Int32 → sf_M β), zp_in x 64 → zp_wp (sf_bnd (sf_aI 0 (some 13) x) g) Q (zp_Z t I J D) = zp_wp (g (I 13 (sf_ix x))) Q (zp_Z t I J D)) ∧
  (∀ (x v : Int32) (g : Unit → sf_M β), zp_in x 64 → zp_wp (sf_bnd (sf_sI 0 (some 13) x v) g) Q (zp_Z t I J D) = zp_wp (g ()) Q (zp_Z t (sf_u2 I 13 (sf_ix x) v) J D)) ∧
  (∀ (g : Int32 → sf_M β), zp_wp (sf_bnd (sf_len (some 13)) g) Q (zp_Z t I J D) = zp_wp (g (64 : Int32)) Q (zp_Z t I J D)) ∧
  (∀ (k : Nat) (g : Int32 → sf_M β), zp_wp (sf_bnd (sf_gI 10 k (some 14)) g) Q (zp_Z t I J D) = zp_wp (g (I 14 k)) Q (zp_Z t I J D)) ∧
  (∀ (k : Nat) (v : Int32) (g : Unit → sf_M β), zp_wp (sf_bnd (sf_pI 10 k (some 14) v) g) Q (zp_Z t I J D) = zp_wp (g ()) Q (zp_Z t (sf_u2 I 14 k v) J D)) ∧
  (∀ {α : Type} (f : sf_M α) (g : α → sf_M β), zp_wp (sf_bnd (sf_rc 10 (some 14) f) g) Q (zp_Z t I J D) = zp_wp (sf_bnd f g) Q (zp_Z t I J D)) ∧
  (∀ (g : Option Nat → sf_M β), zp_wp (sf_bnd (sf_gR 10 0 (some 14)) g) Q (zp_Z t I J D) = zp_wp (g (some 15)) Q (zp_Z t I J D)) ∧
  (∀ (g : Option Nat → sf_M β), zp_wp (sf_bnd (sf_gR 10 1 (some 14)) g) Q (zp_Z t I J D) = zp_wp (g (some 16)) Q (zp_Z t I J D)) ∧
  (∀ (g : Option Nat → sf_M β), zp_wp (sf_bnd (sf_gR 10 2 (some 14)) g) Q (zp_Z t I J D) = zp_wp (g (some 17)) Q (zp_Z t I J D)) ∧
  (∀ (g : Option Nat → sf_M β), zp_wp (sf_bnd (sf_gR 10 3 (some 14)) g) Q (zp_Z t I J D) = zp_wp (g (some 18)) Q (zp_Z t I J D)) ∧
  (∀ (g : Option Nat → sf_M β), zp_wp (sf_bnd (sf_gR 10 4 (some 14)) g) Q (zp_Z t I J D) = zp_wp (g (some 19)) Q (zp_Z t I J D)) ∧
  (∀ (x : Int32) (g : Int32 → sf_M β), zp_in x 64 → zp_wp (sf_bnd (sf_aI 0 (some 15) x) g) Q (zp_Z t I J D) = zp_wp (g (I 15 (sf_ix x))) Q (zp_Z t I J D)) ∧
  (∀ (x v : Int32) (g : Unit → sf_M β), zp_in x 64 → zp_wp (sf_bnd (sf_sI 0 (some 15) x v) g) Q (zp_Z t I J D) = zp_wp (g ()) Q (zp_Z t (sf_u2 I 15 (sf_ix x) v) J D)) ∧
  (∀ (g : Int32 → sf_M β), zp_wp (sf_bnd (sf_len (some 15)) g) Q (zp_Z t I J D) = zp_wp (g (64 : Int32)) Q (zp_Z t I J D)) ∧
  (∀ (x : Int32) (g : Int32 → sf_M β), zp_in x 64 → zp_wp (sf_bnd (sf_aI 0 (some 16) x) g) Q (zp_Z t I J D) = zp_wp (g (I 16 (sf_ix x))) Q (zp_Z t I J D)) ∧
  (∀ (x v : Int32) (g : Unit → sf_M β), zp_in x 64 → zp_wp (sf_bnd (sf_sI 0 (some 16) x v) g) Q (zp_Z t I J D) = zp_wp (g ()) Q (zp_Z t (sf_u2 I 16 (sf_ix x) v) J D)) ∧
  (∀ (g : Int32 → sf_M β), zp_wp (sf_bnd (sf_len (some 16)) g) Q (zp_Z t I J D) = zp_wp (g (64 : Int32)) Q (zp_Z t I J D)) ∧
  (∀ (x : Int32) (g : Int32 → sf_M β), zp_in x 64 → zp_wp (sf_bnd (sf_aI 0 (some 17) x) g) Q (zp_Z t I J D) = zp_wp (g (I 17 (sf_ix x))) Q (zp_Z t I J D)) ∧
  (∀ (x v : Int32) (g : Unit → sf_M β), zp_in x 64 → zp_wp (sf_bnd (sf_sI 0 (some 17) x v) g) Q (zp_Z t I J D) = zp_wp (g ()) Q (zp_Z t (sf_u2 I 17 (sf_ix x) v) J D)) ∧
  (∀ (g : Int32 → sf_M β), zp_wp (sf_bnd (sf_len (some 17)) g) Q (zp_Z t I J D) = zp_wp (g (64 : Int32)) Q (zp_Z t I J D)) ∧
  (∀ (x : Int32) (g : Int32 → sf_M β), zp_in x 8 → zp_wp (sf_bnd (sf_aI 0 (some 18) x) g) Q (zp_Z t I J D) = zp_wp (g (I 18 (sf_ix x))) Q (zp_Z t I J D)) ∧
  (∀ (x v : Int32) (g : Unit → sf_M β), zp_in x 8 → zp_wp (sf_bnd (sf_sI 0 (some 18) x v) g) Q (zp_Z t I J D) = zp_wp (g ()) Q (zp_Z t (sf_u2 I 18 (sf_ix x) v) J D)) ∧
  (∀ (g : Int32 → sf_M β), zp_wp (sf_bnd (sf_len (some 18)) g) Q (zp_Z t I J D) = zp_wp (g (8 : Int32)) Q (zp_Z t I J D)) ∧
  (∀ (x : Int32) (g : Int32 → sf_M β), zp_in x 8 → zp_wp (sf_bnd (sf_aI 0 (some 19) x) g) Q (zp_Z t I J D) = zp_wp (g (I 19 (sf_ix x))) Q (zp_Z t I J D)) ∧
  (∀ (x v : Int32) (g : Unit → sf_M β), zp_in x 8 → zp_wp (sf_bnd (sf_sI 0 (some 19) x v) g) Q (zp_Z t I J D) = zp_wp (g ()) Q (zp_Z t (sf_u2 I 19 (sf_ix x) v) J D)) ∧
  (∀ (g : Int32 → sf_M β), zp_wp (sf_bnd (sf_len (some 19)) g) Q (zp_Z t I J D) = zp_wp (g (8 : Int32)) Q (zp_Z t I J D)) ∧
  (∀ (k : Nat) (g : Int32 → sf_M β), zp_wp (sf_bnd (sf_gI 2 k (some 20)) g) Q (zp_Z t I J D) = zp_wp (g (I 20 k)) Q (zp_Z t I J D)) ∧
  (∀ (k : Nat) (v : Int32) (g : Unit → sf_M β), zp_wp (sf_bnd (sf_pI 2 k (some 20) v) g) Q (zp_Z t I J D) = zp_wp (g ()) Q (zp_Z t (sf_u2 I 20 k v) J D)) ∧
  (∀ {α : Type} (f : sf_M α) (g : α → sf_M β), zp_wp (sf_bnd (sf_rc 2 (some 20) f) g) Q (zp_Z t I J D) = zp_wp (sf_bnd f g) Q (zp_Z t I J D)) ∧
  (∀ (g : Option Nat → sf_M β), zp_wp (sf_bnd (sf_gR 2 0 (some 20)) g) Q (zp_Z t I J D) = zp_wp (g (some 21)) Q (zp_Z t I J D)) ∧
  (∀ (g : Option Nat → sf_M β), zp_wp (sf_bnd (sf_gR 2 1 (some 20)) g) Q (zp_Z t I J D) = zp_wp (g (some 22)) Q (zp_Z t I J D)) ∧
  (∀ (x : Int32) (g : Option Nat → sf_M β), zp_in x 16 → zp_wp (sf_bnd (sf_aR 4 (some 21) x) g) Q (zp_Z t I J D) = zp_wp (g (zp_rfs D 21 (sf_ix x))) Q (zp_Z t I J D)) ∧
  (∀ (g : Int32 → sf_M β), zp_wp (sf_bnd (sf_len (some 21)) g) Q (zp_Z t I J D) = zp_wp (g (16 : Int32)) Q (zp_Z t I J D)) ∧
  (∀ (x : Int32) (g : Int32 → sf_M β), zp_in x 16 → zp_wp (sf_bnd (sf_aI 0 (some 22) x) g) Q (zp_Z t I J D) = zp_wp (g (I 22 (sf_ix x))) Q (zp_Z t I J D)) ∧
  (∀ (x v : Int32) (g : Unit → sf_M β), zp_in x 16 → zp_wp (sf_bnd (sf_sI 0 (some 22) x v) g) Q (zp_Z t I J D) = zp_wp (g ()) Q (zp_Z t (sf_u2 I 22 (sf_ix x) v) J D)) ∧
  (∀ (g : Int32 → sf_M β), zp_wp (sf_bnd (sf_len (some 22)) g) Q (zp_Z t I J D) = zp_wp (g (16 : Int32)) Q (zp_Z t I J D)) ∧
  (∀ (k : Nat) (g : Int32 → sf_M β), zp_wp (sf_bnd (sf_gI 2 k (some 55)) g) Q (zp_Z t I J D) = zp_wp (g (I 55 k)) Q (zp_Z t I J D)) ∧
  (∀ (k : Nat) (v : Int32) (g : Unit → sf_M β), zp_wp (sf_bnd (sf_pI 2 k (some 55) v) g) Q (zp_Z t I J D) = zp_wp (g ()) Q (zp_Z t (sf_u2 I 55 k v) J D)) ∧
  (∀ {α : Type} (f : sf_M α) (g : α → sf_M β), zp_wp (sf_bnd (sf_rc 2 (some 55) f) g) Q (zp_Z t I J D) = zp_wp (sf_bnd f g) Q (zp_Z t I J D)) ∧
  (∀ (g : Option Nat → sf_M β), zp_wp (sf_bnd (sf_gR 2 0 (some 55)) g) Q (zp_Z t I J D) = zp_wp (g (some 56)) Q (zp_Z t I J D)) ∧
  (∀ (g : Option Nat → sf_M β), zp_wp (sf_bnd (sf_gR 2 1 (some 55)) g) Q (zp_Z t I J D) = zp_wp (g (some 57)) Q (zp_Z t I J D)) ∧
  (∀ (x : Int32) (g : Option Nat → sf_M β), zp_in x 16 → zp_wp (sf_bnd (sf_aR 4 (some 56) x) g) Q (zp_Z t I J D) = zp_wp (g (zp_rfs D 56 (sf_ix x))) Q (zp_Z t I J D)) ∧
  (∀ (g : Int32 → sf_M β), zp_wp (sf_bnd (sf_len (some 56)) g) Q (zp_Z t I J D) = zp_wp (g (16 : Int32)) Q (zp_Z t I J D)) ∧
  (∀ (x : Int32) (g : Int32 → sf_M β), zp_in x 16 → zp_wp (sf_bnd (sf_aI 0 (some 57) x) g) Q (zp_Z t I J D) = zp_wp (g (I 57 (sf_ix x))) Q (zp_Z t I J D)) ∧
  (∀ (x v : Int32) (g : Unit → sf_M β), zp_in x 16 → zp_wp (sf_bnd (sf_sI 0 (some 57) x v) g) Q (zp_Z t I J D) = zp_wp (g ()) Q (zp_Z t (sf_u2 I 57 (sf_ix x) v) J D)) ∧
  (∀ (g : Int32 → sf_M β), zp_wp (sf_bnd (sf_len (some 57)) g) Q (zp_Z t I J D) = zp_wp (g (16 : Int32)) Q (zp_Z t I J D)) ∧
  (∀ (k : Nat) (g : Int32 → sf_M β), zp_wp (sf_bnd (sf_gI 5 k (some 90)) g) Q (zp_Z t I J D) = zp_wp (g (I 90 k)) Q (zp_Z t I J D)) ∧
  (∀ (k : Nat) (v : Int32) (g : Unit → sf_M β), zp_wp (sf_bnd (sf_pI 5 k (some 90) v) g) Q (zp_Z t I J D) = zp_wp (g ()) Q (zp_Z t (sf_u2 I 90 k v) J D)) ∧
  (∀ {α : Type} (f : sf_M α) (g : α → sf_M β), zp_wp (sf_bnd (sf_rc 5 (some 90) f) g) Q (zp_Z t I J D) = zp_wp (sf_bnd f g) Q (zp_Z t I J D)) ∧
  (∀ (g : Option Nat → sf_M β), zp_wp (sf_bnd (sf_gR 5 0 (some 90)) g) Q (zp_Z t I J D) = zp_wp (g (some 91)) Q (zp_Z t I J D)) ∧
  (∀ (x : Int32) (g : Int32 → sf_M β), zp_in x 192 → zp_wp (sf_bnd (sf_aI 0 (some 91) x) g) Q (zp_Z t I J D) = zp_wp (g (I 91 (sf_ix x))) Q (zp_Z t I J D)) ∧
  (∀ (x v : Int32) (g : Unit → sf_M β), zp_in x 192 → zp_wp (sf_bnd (sf_sI 0 (some 91) x v) g) Q (zp_Z t I J D) = zp_wp (g ()) Q (zp_Z t (sf_u2 I 91 (sf_ix x) v) J D)) ∧
  (∀ (g : Int32 → sf_M β), zp_wp (sf_bnd (sf_len (some 91)) g) Q (zp_Z t I J D) = zp_wp (g (192 : Int32)) Q (zp_Z t I J D)) ∧
  (∀ (k : Nat) (g : Int32 → sf_M β), zp_wp (sf_bnd (sf_gI 3 k (some 92)) g) Q (zp_Z t I J D) = zp_wp (g (I 92 k)) Q (zp_Z t I J D)) ∧
  (∀ (k : Nat) (v : Int32) (g : Unit → sf_M β), zp_wp (sf_bnd (sf_pI 3 k (some 92) v) g) Q (zp_Z t I J D) = zp_wp (g ()) Q (zp_Z t (sf_u2 I 92 k v) J D)) ∧
  (∀ {α : Type} (f : sf_M α) (g : α → sf_M β), zp_wp (sf_bnd (sf_rc 3 (some 92) f) g) Q (zp_Z t I J D) = zp_wp (sf_bnd f g) Q (zp_Z t I J D)) ∧
  (∀ (g : Option Nat → sf_M β), zp_wp (sf_bnd (sf_gR 3 0 (some 92)) g) Q (zp_Z t I J D) = zp_wp (g (some 93)) Q (zp_Z t I J D)) ∧
  (∀ (g : Option Nat → sf_M β), zp_wp (sf_bnd (sf_gR 3 1 (some 92)) g) Q (zp_Z t I J D) = zp_wp (g (some 94)) Q (zp_Z t I J D)) ∧
  (∀ (x : Int32) (g : Int32 → sf_M β), zp_in x 12 → zp_wp (sf_bnd (sf_aI 0 (some 93) x) g) Q (zp_Z t I J D) = zp_wp (g (I 93 (sf_ix x))) Q (zp_Z t I J D)) ∧
  (∀ (x v : Int32) (g : Unit → sf_M β), zp_in x 12 → zp_wp (sf_bnd (sf_sI 0 (some 93) x v) g) Q (zp_Z t I J D) = zp_wp (g ()) Q (zp_Z t (sf_u2 I 93 (sf_ix x) v) J D)) ∧
  (∀ (g : Int32 → sf_M β), zp_wp (sf_bnd (sf_len (some 93)) g) Q (zp_Z t I J D) = zp_wp (g (12 : Int32)) Q (zp_Z t I J D)) ∧
  (∀ (x : Int32) (g : Int32 → sf_M β), zp_in x 64 → zp_wp (sf_bnd (sf_aI 0 (some 94) x) g) Q (zp_Z t I J D) = zp_wp (g (I 94 (sf_ix x))) Q (zp_Z t I J D)) ∧
  (∀ (x v : Int32) (g : Unit → sf_M β), zp_in x 64 → zp_wp (sf_bnd (sf_sI 0 (some 94) x v) g) Q (zp_Z t I J D) = zp_wp (g ()) Q (zp_Z t (sf_u2 I 94 (sf_ix x) v) J D)) ∧
  (∀ (g : Int32 → sf_M β), zp_wp (sf_bnd (sf_len (some 94)) g) Q (zp_Z t I J D) = zp_wp (g (64 : Int32)) Q (zp_Z t I J D)) ∧
  (∀ (k : Nat) (g : Int32 → sf_M β), zp_wp (sf_bnd (sf_gI 8 k (some 95)) g) Q (zp_Z t I J D) = zp_wp (g (I 95 k)) Q (zp_Z t I J D)) ∧
  (∀ (k : Nat) (v : Int32) (g : Unit → sf_M β), zp_wp (sf_bnd (sf_pI 8 k (some 95) v) g) Q (zp_Z t I J D) = zp_wp (g ()) Q (zp_Z t (sf_u2 I 95 k v) J D)) ∧
  (∀ {α : Type} (f : sf_M α) (g : α → sf_M β), zp_wp (sf_bnd (sf_rc 8 (some 95) f) g) Q (zp_Z t I J D) = zp_wp (sf_bnd f g) Q (zp_Z t I J D)) ∧
  (∀ (g : Option Nat → sf_M β), zp_wp (sf_bnd (sf_gR 8 0 (some 95)) g) Q (zp_Z t I J D) = zp_wp (g (some 96)) Q (zp_Z t I J D)) ∧
  (∀ (x : Int32) (g : Int32 → sf_M β), zp_in x 400 → zp_wp (sf_bnd (sf_aI 0 (some 96) x) g) Q (zp_Z t I J D) = zp_wp (g (I 96 (sf_ix x))) Q (zp_Z t I J D)) ∧
  (∀ (x v : Int32) (g : Unit → sf_M β), zp_in x 400 → zp_wp (sf_bnd (sf_sI 0 (some 96) x v) g) Q (zp_Z t I J D) = zp_wp (g ()) Q (zp_Z t (sf_u2 I 96 (sf_ix x) v) J D)) ∧
  (∀ (g : Int32 → sf_M β), zp_wp (sf_bnd (sf_len (some 96)) g) Q (zp_Z t I J D) = zp_wp (g (400 : Int32)) Q (zp_Z t I J D)) ∧
  (∀ (k : Nat) (g : Int32 → sf_M β), zp_wp (sf_bnd (sf_gI 7 k (some 97)) g) Q (zp_Z t I J D) = zp_wp (g (I 97 k)) Q (zp_Z t I J D)) ∧
  (∀ (k : Nat) (v : Int32) (g : Unit → sf_M β), zp_wp (sf_bnd (sf_pI 7 k (some 97) v) g) Q (zp_Z t I J D) = zp_wp (g ()) Q (zp_Z t (sf_u2 I 97 k v) J D)) ∧
  (∀ {α : Type} (f : sf_M α) (g : α → sf_M β), zp_wp (sf_bnd (sf_rc 7 (some 97) f) g) Q (zp_Z t I J D) = zp_wp (sf_bnd f g) Q (zp_Z t I J D)) ∧
  (∀ (g : Option Nat → sf_M β), zp_wp (sf_bnd (sf_gR 7 0 (some 97)) g) Q (zp_Z t I J D) = zp_wp (g (some 98)) Q (zp_Z t I J D)) ∧
  (∀ (g : Option Nat → sf_M β), zp_wp (sf_bnd (sf_gR 7 1 (some 97)) g) Q (zp_Z t I J D) = zp_wp (g (some 102)) Q (zp_Z t I J D)) ∧
  (∀ (k : Nat) (g : Int32 → sf_M β), zp_wp (sf_bnd (sf_gI 6 k (some 98)) g) Q (zp_Z t I J D) = zp_wp (g (I 98 k)) Q (zp_Z t I J D)) ∧
  (∀ (k : Nat) (v : Int32) (g : Unit → sf_M β), zp_wp (sf_bnd (sf_pI 6 k (some 98) v) g) Q (zp_Z t I J D) = zp_wp (g ()) Q (zp_Z t (sf_u2 I 98 k v) J D)) ∧
  (∀ {α : Type} (f : sf_M α) (g : α → sf_M β), zp_wp (sf_bnd (sf_rc 6 (some 98) f) g) Q (zp_Z t I J D) = zp_wp (sf_bnd f g) Q (zp_Z t I J D)) ∧
  (∀ (g : Option Nat → sf_M β), zp_wp (sf_bnd (sf_gR 6 0 (some 98)) g) Q (zp_Z t I J D) = zp_wp (g (some 99)) Q (zp_Z t I J D)) ∧
  (∀ (g : Option Nat → sf_M β), zp_wp (sf_bnd (sf_gR 6 1 (some 98)) g) Q (zp_Z t I J D) = zp_wp (g (some 100)) Q (zp_Z t I J D)) ∧
  (∀ (g : Option Nat → sf_M β), zp_wp (sf_bnd (sf_gR 6 2 (some 98)) g) Q (zp_Z t I J D) = zp_wp (g (some 101)) Q (zp_Z t I J D)) ∧
  (∀ (x : Int32) (g : Int32 → sf_M β), zp_in x 400 → zp_wp (sf_bnd (sf_aI 0 (some 99) x) g) Q (zp_Z t I J D) = zp_wp (g (I 99 (sf_ix x))) Q (zp_Z t I J D)) ∧
  (∀ (x v : Int32) (g : Unit → sf_M β), zp_in x 400 → zp_wp (sf_bnd (sf_sI 0 (some 99) x v) g) Q (zp_Z t I J D) = zp_wp (g ()) Q (zp_Z t (sf_u2 I 99 (sf_ix x) v) J D)) ∧
  (∀ (g : Int32 → sf_M β), zp_wp (sf_bnd (sf_len (some 99)) g) Q (zp_Z t I J D) = zp_wp (g (400 : Int32)) Q (zp_Z t I J D)) ∧
  (∀ (x : Int32) (g : Int32 → sf_M β), zp_in x 400 → zp_wp (sf_bnd (sf_aI 0 (some 100) x) g) Q (zp_Z t I J D) = zp_wp (g (I 100 (sf_ix x))) Q (zp_Z t I J D)) ∧
  (∀ (x v : Int32) (g : Unit → sf_M β), zp_in x 400 → zp_wp (sf_bnd (sf_sI 0 (some 100) x v) g) Q (zp_Z t I J D) = zp_wp (g ()) Q (zp_Z t (sf_u2 I 100 (sf_ix x) v) J D)) ∧
  (∀ (g : Int32 → sf_M β), zp_wp (sf_bnd (sf_len (some 100)) g) Q (zp_Z t I J D) = zp_wp (g (400 : Int32)) Q (zp_Z t I J D)) ∧
  (∀ (x : Int32) (g : Int32 → sf_M β), zp_in x 72 → zp_wp (sf_bnd (sf_aI 0 (some 101) x) g) Q (zp_Z t I J D) = zp_wp (g (I 101 (sf_ix x))) Q (zp_Z t I J D)) ∧
  (∀ (x v : Int32) (g : Unit → sf_M β), zp_in x 72 → zp_wp (sf_bnd (sf_sI 0 (some 101) x v) g) Q (zp_Z t I J D) = zp_wp (g ()) Q (zp_Z t (sf_u2 I 101 (sf_ix x) v) J D)) ∧
  (∀ (g : Int32 → sf_M β), zp_wp (sf_bnd (sf_len (some 101)) g) Q (zp_Z t I J D) = zp_wp (g (72 : Int32)) Q (zp_Z t I J D)) ∧
  (∀ (k : Nat) (g : Int32 → sf_M β), zp_wp (sf_bnd (sf_gI 9 k (some 102)) g) Q (zp_Z t I J D) = zp_wp (g (I 102 k)) Q (zp_Z t I J D)) ∧
  (∀ (k : Nat) (v : Int32) (g : Unit → sf_M β), zp_wp (sf_bnd (sf_pI 9 k (some 102) v) g) Q (zp_Z t I J D) = zp_wp (g ()) Q (zp_Z t (sf_u2 I 102 k v) J D)) ∧
  (∀ {α : Type} (f : sf_M α) (g : α → sf_M β), zp_wp (sf_bnd (sf_rc 9 (some 102) f) g) Q (zp_Z t I J D) = zp_wp (sf_bnd f g) Q (zp_Z t I J D)) ∧
  (∀ (g : Option Nat → sf_M β), zp_wp (sf_bnd (sf_gR 9 0 (some 102)) g) Q (zp_Z t I J D) = zp_wp (g (some 103)) Q (zp_Z t I J D)) ∧
  (∀ (g : Option Nat → sf_M β), zp_wp (sf_bnd (sf_gR 9 1 (some 102)) g) Q (zp_Z t I J D) = zp_wp (g (some 104)) Q (zp_Z t I J D)) ∧
  (∀ (g : Option Nat → sf_M β), zp_wp (sf_bnd (sf_gR 9 2 (some 102)) g) Q (zp_Z t I J D) = zp_wp (g (some 105)) Q (zp_Z t I J D)) ∧
  (∀ (g : Option Nat → sf_M β), zp_wp (sf_bnd (sf_gR 9 3 (some 102)) g) Q (zp_Z t I J D) = zp_wp (g (some 106)) Q (zp_Z t I J D)) ∧
  (∀ (x : Int32) (g : Int32 → sf_M β), zp_in x 400 → zp_wp (sf_bnd (sf_aI 0 (some 103) x) g) Q (zp_Z t I J D) = zp_wp (g (I 103 (sf_ix x))) Q (zp_Z t I J D)) ∧
  (∀ (x v : Int32) (g : Unit → sf_M β), zp_in x 400 → zp_wp (sf_bnd (sf_sI 0 (some 103) x v) g) Q (zp_Z t I J D) = zp_wp (g ()) Q (zp_Z t (sf_u2 I 103 (sf_ix x) v) J D)) ∧
  (∀ (g : Int32 → sf_M β), zp_wp (sf_bnd (sf_len (some 103)) g) Q (zp_Z t I J D) = zp_wp (g (400 : Int32)) Q (zp_Z t I J D)) ∧
  (∀ (x : Int32) (g : Int32 → sf_M β), zp_in x 401 → zp_wp (sf_bnd (sf_aI 0 (some 104) x) g) Q (zp_Z t I J D) = zp_wp (g (I 104 (sf_ix x))) Q (zp_Z t I J D)) ∧
  (∀ (x v : Int32) (g : Unit → sf_M β), zp_in x 401 → zp_wp (sf_bnd (sf_sI 0 (some 104) x v) g) Q (zp_Z t I J D) = zp_wp (g ()) Q (zp_Z t (sf_u2 I 104 (sf_ix x) v) J D)) ∧
  (∀ (g : Int32 → sf_M β), zp_wp (sf_bnd (sf_len (some 104)) g) Q (zp_Z t I J D) = zp_wp (g (401 : Int32)) Q (zp_Z t I J D)) ∧
  (∀ (x : Int32) (g : Int32 → sf_M β), zp_in x 401 → zp_wp (sf_bnd (sf_aI 0 (some 105) x) g) Q (zp_Z t I J D) = zp_wp (g (I 105 (sf_ix x))) Q (zp_Z t I J D)) ∧
  (∀ (x v : Int32) (g : Unit → sf_M β), zp_in x 401 → zp_wp (sf_bnd (sf_sI 0 (some 105) x v) g) Q (zp_Z t I J D) = zp_wp (g ()) Q (zp_Z t (sf_u2 I 105 (sf_ix x) v) J D)) ∧
  (∀ (g : Int32 → sf_M β), zp_wp (sf_bnd (sf_len (some 105)) g) Q (zp_Z t I J D) = zp_wp (g (401 : Int32)) Q (zp_Z t I J D)) ∧
  (∀ (x : Int32) (g : Int32 → sf_M β), zp_in x 401 → zp_wp (sf_bnd (sf_aI 0 (some 106) x) g) Q (zp_Z t I J D) = zp_wp (g (I 106 (sf_ix x))) Q (zp_Z t I J D)) ∧
  (∀ (x v : Int32) (g : Unit → sf_M β), zp_in x 401 → zp_wp (sf_bnd (sf_sI 0 (some 106) x v) g) Q (zp_Z t I J D) = zp_wp (g ()) Q (zp_Z t (sf_u2 I 106 (sf_ix x) v) J D)) ∧
  (∀ (g : Int32 → sf_M β), zp_wp (sf_bnd (sf_len (some 106)) g) Q (zp_Z t I J D) = zp_wp (g (401 : Int32)) Q (zp_Z t I J D)) ∧
  (∀ (x : Int32) (g : Option Nat → sf_M β), zp_in x 2 → zp_wp (sf_bnd (sf_aR 5 (some 107) x) g) Q (zp_Z t I J D) = zp_wp (g (zp_rfs D 107 (sf_ix x))) Q (zp_Z t I J D)) ∧
  (∀ (g : Int32 → sf_M β), zp_wp (sf_bnd (sf_len (some 107)) g) Q (zp_Z t I J D) = zp_wp (g (2 : Int32)) Q (zp_Z t I J D)) ∧
  (∀ (x : Int32) (g : Int32 → sf_M β), zp_in x 7 → zp_wp (sf_bnd (sf_aI 0 (some 108) x) g) Q (zp_Z t I J D) = zp_wp (g (I 108 (sf_ix x))) Q (zp_Z t I J D)) ∧
  (∀ (x v : Int32) (g : Unit → sf_M β), zp_in x 7 → zp_wp (sf_bnd (sf_sI 0 (some 108) x v) g) Q (zp_Z t I J D) = zp_wp (g ()) Q (zp_Z t (sf_u2 I 108 (sf_ix x) v) J D)) ∧
  (∀ (g : Int32 → sf_M β), zp_wp (sf_bnd (sf_len (some 108)) g) Q (zp_Z t I J D) = zp_wp (g (7 : Int32)) Q (zp_Z t I J D)) ∧
  (∀ (x : Int32) (g : Int32 → sf_M β), zp_in x 48 → zp_wp (sf_bnd (sf_aI 0 (some 109) x) g) Q (zp_Z t I J D) = zp_wp (g (I 109 (sf_ix x))) Q (zp_Z t I J D)) ∧
  (∀ (x v : Int32) (g : Unit → sf_M β), zp_in x 48 → zp_wp (sf_bnd (sf_sI 0 (some 109) x v) g) Q (zp_Z t I J D) = zp_wp (g ()) Q (zp_Z t (sf_u2 I 109 (sf_ix x) v) J D)) ∧
  (∀ (g : Int32 → sf_M β), zp_wp (sf_bnd (sf_len (some 109)) g) Q (zp_Z t I J D) = zp_wp (g (48 : Int32)) Q (zp_Z t I J D)) ∧
  (∀ (x : Int32) (g : Int32 → sf_M β), zp_in x 4 → zp_wp (sf_bnd (sf_aI 0 (some 110) x) g) Q (zp_Z t I J D) = zp_wp (g (I 110 (sf_ix x))) Q (zp_Z t I J D)) ∧
  (∀ (x v : Int32) (g : Unit → sf_M β), zp_in x 4 → zp_wp (sf_bnd (sf_sI 0 (some 110) x v) g) Q (zp_Z t I J D) = zp_wp (g ()) Q (zp_Z t (sf_u2 I 110 (sf_ix x) v) J D)) ∧
  (∀ (g : Int32 → sf_M β), zp_wp (sf_bnd (sf_len (some 110)) g) Q (zp_Z t I J D) = zp_wp (g (4 : Int32)) Q (zp_Z t I J D)) ∧
  (∀ (x : Int32) (g : Int64 → sf_M β), zp_in x 20 → zp_wp (sf_bnd (sf_aL (some 111) x) g) Q (zp_Z t I J D) = zp_wp (g (J 111 (sf_ix x))) Q (zp_Z t I J D)) ∧
  (∀ (x : Int32) (v : Int64) (g : Unit → sf_M β), zp_in x 20 → zp_wp (sf_bnd (sf_sL (some 111) x v) g) Q (zp_Z t I J D) = zp_wp (g ()) Q (zp_Z t I (sf_u2 J 111 (sf_ix x) v) D)) ∧
  (∀ (g : Int32 → sf_M β), zp_wp (sf_bnd (sf_len (some 111)) g) Q (zp_Z t I J D) = zp_wp (g (20 : Int32)) Q (zp_Z t I J D)) :=
  ⟨fun k g => pz_gI (N := 13) rfl,
   fun k v g => pz_pI (N := 13) rfl,
   fun f g => pz_rc (N := 13) rfl,
   fun g => pz_pt (N := 13) rfl rfl,
   fun g => pz_pt (N := 13) rfl rfl,
   fun g => pz_pt (N := 13) rfl rfl,
   fun g => pz_pt (N := 13) rfl rfl,
   fun g => pz_pt (N := 13) rfl rfl,
   fun g => pz_pt (N := 13) rfl rfl,
   fun g => pz_pt (N := 13) rfl rfl,
   fun g => pz_pt (N := 13) rfl rfl,
   fun k g => pz_gI (N := 8) rfl,
   fun k v g => pz_pI (N := 8) rfl,
   fun f g => pz_rc (N := 8) rfl,
   fun g => pz_pt (N := 8) rfl rfl,
   fun g => pz_pt (N := 8) rfl rfl,
   fun g => pz_pt (N := 8) rfl rfl,
   fun g => pz_pt (N := 8) rfl rfl,
   fun g => pz_pt (N := 8) rfl rfl,
   fun g => pz_pt (N := 8) rfl rfl,
   fun k g => pz_gI (N := 14) rfl,
   fun k v g => pz_pI (N := 14) rfl,
   fun f g => pz_rc (N := 14) rfl,
   fun g => pz_pt (N := 14) rfl rfl,
   fun g => pz_pt (N := 14) rfl rfl,
   fun g => pz_pt (N := 14) rfl rfl,
   fun g => pz_pt (N := 14) rfl rfl,
   fun g => pz_pt (N := 14) rfl rfl,
   fun g => pz_pt (N := 14) rfl rfl,
   fun g => pz_pt (N := 14) rfl rfl,
   fun g => pz_pt (N := 14) rfl rfl,
   fun k g => pz_gI (N := 4) rfl,
   fun k v g => pz_pI (N := 4) rfl,
   fun f g => pz_rc (N := 4) rfl,
   fun g => pz_pt (N := 4) rfl rfl,
   fun x g h => pz_aI rfl h,
   fun x v g h => pz_sI rfl h,
   fun g => pz_len rfl (by decide),
   fun x g h => pz_aI rfl h,
   fun x v g h => pz_sI rfl h,
   fun g => pz_len rfl (by decide),
   fun x g h => pz_aI rfl h,
   fun x v g h => pz_sI rfl h,
   fun g => pz_len rfl (by decide),
   fun x g h => pz_aI rfl h,
   fun x v g h => pz_sI rfl h,
   fun g => pz_len rfl (by decide),
   fun x g h => pz_aR rfl h,
   fun g => pz_len rfl (by decide),
   fun x g h => pz_aI rfl h,
   fun x v g h => pz_sI rfl h,
   fun g => pz_len rfl (by decide),
   fun x g h => pz_aI rfl h,
   fun x v g h => pz_sI rfl h,
   fun g => pz_len rfl (by decide),
   fun k g => pz_gI (N := 2) rfl,
   fun k v g => pz_pI (N := 2) rfl,
   fun f g => pz_rc (N := 2) rfl,
   fun g => pz_pt (N := 2) rfl rfl,
   fun g => pz_pt (N := 2) rfl rfl,
   fun x g h => pz_aI rfl h,
   fun x v g h => pz_sI rfl h,
   fun g => pz_len rfl (by decide),
   fun x g h => pz_aI rfl h,
   fun x v g h => pz_sI rfl h,
   fun g => pz_len rfl (by decide),
   fun k g => pz_gI (N := 5) rfl,
   fun k v g => pz_pI (N := 5) rfl,
   fun f g => pz_rc (N := 5) rfl,
   fun g => pz_pt (N := 5) rfl rfl,
   fun g => pz_pt (N := 5) rfl rfl,
   fun g => pz_pt (N := 5) rfl rfl,
   fun g => pz_pt (N := 5) rfl rfl,
   fun g => pz_pt (N := 5) rfl rfl,
   fun x g h => pz_aI rfl h,
   fun x v g h => pz_sI rfl h,
   fun g => pz_len rfl (by decide),
   fun x g h => pz_aI rfl h,
   fun x v g h => pz_sI rfl h,
   fun g => pz_len rfl (by decide),
   fun x g h => pz_aI rfl h,
   fun x v g h => pz_sI rfl h,
   fun g => pz_len rfl (by decide),
   fun x g h => pz_aI rfl h,
   fun x v g h => pz_sI rfl h,
   fun g => pz_len rfl (by decide),
   fun x g h => pz_aI rfl h,
   fun x v g h => pz_sI rfl h,
   fun g => pz_len rfl (by decide),
   fun k g => pz_gI (N := 4) rfl,
   fun k v g => pz_pI (N := 4) rfl,
   fun f g => pz_rc (N := 4) rfl,
   fun g => pz_pt (N := 4) rfl rfl,
   fun g => pz_pt (N := 4) rfl rfl,
   fun x g h => pz_aR rfl h,
   fun g => pz_len rfl (by decide),
   fun x g h => pz_aI rfl h,
   fun x v g h => pz_sI rfl h,
   fun g => pz_len rfl (by decide),
   fun k g => pz_gI (N := 4) rfl,
   fun k v g => pz_pI (N := 4) rfl,
   fun f g => pz_rc (N := 4) rfl,
   fun g => pz_pt (N := 4) rfl rfl,
   fun g => pz_pt (N := 4) rfl rfl,
   fun x g h => pz_aR rfl h,
   fun g => pz_len rfl (by decide),
   fun x g h => pz_aI rfl h,
   fun x v g h => pz_sI rfl h,
   fun g => pz_len rfl (by decide),
   fun k g => pz_gI (N := 4) rfl,
   fun k v g => pz_pI (N := 4) rfl,
   fun f g => pz_rc (N := 4) rfl,
   fun g => pz_pt (N := 4) rfl rfl,
   fun x g h => pz_aI rfl h,
   fun x v g h => pz_sI rfl h,
   fun g => pz_len rfl (by decide),
   fun k g => pz_gI (N := 2) rfl,
   fun k v g => pz_pI (N := 2) rfl,
   fun f g => pz_rc (N := 2) rfl,
   fun g => pz_pt (N := 2) rfl rfl,
   fun g => pz_pt (N := 2) rfl rfl,
   fun x g h => pz_aI rfl h,
   fun x v g h => pz_sI rfl h,
   fun g => pz_len rfl (by decide),
   fun x g h => pz_aI rfl h,
   fun x v g h => pz_sI rfl h,
   fun g => pz_len rfl (by decide),
   fun k g => pz_gI (N := 2) rfl,
   fun k v g => pz_pI (N := 2) rfl,
   fun f g => pz_rc (N := 2) rfl,
   fun g => pz_pt (N := 2) rfl rfl,
   fun x g h => pz_aI rfl h,
   fun x v g h => pz_sI rfl h,
   fun g => pz_len rfl (by decide),
   fun k g => pz_gI (N := 4) rfl,
   fun k v g => pz_pI (N := 4) rfl,
   fun f g => pz_rc (N := 4) rfl,
   fun g => pz_pt (N := 4) rfl rfl,
   fun g => pz_pt (N := 4) rfl rfl,
   fun k g => pz_gI (N := 5) rfl,
   fun k v g => pz_pI (N := 5) rfl,
   fun f g => pz_rc (N := 5) rfl,
   fun g => pz_pt (N := 5) rfl rfl,
   fun g => pz_pt (N := 5) rfl rfl,
   fun g => pz_pt (N := 5) rfl rfl,
   fun x g h => pz_aI rfl h,
   fun x v g h => pz_sI rfl h,
   fun g => pz_len rfl (by decide),
   fun x g h => pz_aI rfl h,
   fun x v g h => pz_sI rfl h,
   fun g => pz_len rfl (by decide),
   fun x g h => pz_aI rfl h,
   fun x v g h => pz_sI rfl h,
   fun g => pz_len rfl (by decide),
   fun k g => pz_gI (N := 9) rfl,
   fun k v g => pz_pI (N := 9) rfl,
   fun f g => pz_rc (N := 9) rfl,
   fun g => pz_pt (N := 9) rfl rfl,
   fun g => pz_pt (N := 9) rfl rfl,
   fun g => pz_pt (N := 9) rfl rfl,
   fun g => pz_pt (N := 9) rfl rfl,
   fun x g h => pz_aI rfl h,
   fun x v g h => pz_sI rfl h,
   fun g => pz_len rfl (by decide),
   fun x g h => pz_aI rfl h,
   fun x v g h => pz_sI rfl h,
   fun g => pz_len rfl (by decide),
   fun x g h => pz_aI rfl h,
   fun x v g h => pz_sI rfl h,
   fun g => pz_len rfl (by decide),
   fun x g h => pz_aI rfl h,
   fun x v g h => pz_sI rfl h,
   fun g => pz_len rfl (by decide),
   fun x g h => pz_aR rfl h,
   fun g => pz_len rfl (by decide),
   fun x g h => pz_aI rfl h,
   fun x v g h => pz_sI rfl h,
   fun g => pz_len rfl (by decide),
   fun x g h => pz_aI rfl h,
   fun x v g h => pz_sI rfl h,
   fun g => pz_len rfl (by decide),
   fun x g h => pz_aI rfl h,
   fun x v g h => pz_sI rfl h,
   fun g => pz_len rfl (by decide),
   fun x g h => pz_aL rfl h,
   fun x v g h => pz_sL rfl h,
   fun g => pz_len rfl (by decide)⟩
set_option maxRecDepth 20000 in
theorem pb_M {β : Type} {t : List (Nat × Nat)} {I : Nat → Nat → Int32} {J : Nat → Nat → Int64} {D : Nat → Nat → Option Nat} {Q : β → sf_St → Prop} :
  (∀ (k : Nat) (g : Int32 → sf_M β), zp_wp (sf_bnd (sf_gI 11 k (some 112)) g) Q (zp_Z t I J D) = zp_wp (g (I 112 k)) Q (zp_Z t I J D)) ∧
  (∀ (k : Nat) (v : Int32) (g : Unit → sf_M β), zp_wp (sf_bnd (sf_pI 11 k (some 112) v) g) Q (zp_Z t I J D) = zp_wp (g ()) Q (zp_Z t (sf_u2 I 112 k v) J D)) ∧
  (∀ {α : Type} (f : sf_M α) (g : α → sf_M β), zp_wp (sf_bnd (sf_rc 11 (some 112) f) g) Q (zp_Z t I J D) = zp_wp (sf_bnd f g) Q (zp_Z t I J D)) ∧
  (∀ (g : Option Nat → sf_M β), zp_wp (sf_bnd (sf_gR 11 1 (some 112)) g) Q (zp_Z t I J D) = zp_wp (g (some 113)) Q (zp_Z t I J D)) ∧
  (∀ (g : Option Nat → sf_M β), zp_wp (sf_bnd (sf_gR 11 2 (some 112)) g) Q (zp_Z t I J D) = zp_wp (g (some 114)) Q (zp_Z t I J D)) ∧
  (∀ (g : Option Nat → sf_M β), zp_wp (sf_bnd (sf_gR 11 3 (some 112)) g) Q (zp_Z t I J D) = zp_wp (g (some 115)) Q (zp_Z t I J D)) ∧
  (∀ (g : Option Nat → sf_M β), zp_wp (sf_bnd (sf_gR 11 4 (some 112)) g) Q (zp_Z t I J D) = zp_wp (g (some 116)) Q (zp_Z t I J D)) ∧
  (∀ (g : Option Nat → sf_M β), zp_wp (sf_bnd (sf_gR 11 5 (some 112)) g) Q (zp_Z t I J D) = zp_wp (g (some 117)) Q (zp_Z t I J D)) ∧
  (∀ (g : Option Nat → sf_M β), zp_wp (sf_bnd (sf_gR 11 7 (some 112)) g) Q (zp_Z t I J D) = zp_wp (g (some 118)) Q (zp_Z t I J D)) ∧
  (∀ (g : Option Nat → sf_M β), zp_wp (sf_bnd (sf_gR 11 11 (some 112)) g) Q (zp_Z t I J D) = zp_wp (g (some 119)) Q (zp_Z t I J D)) ∧
  (∀ (g : Option Nat → sf_M β), zp_wp (sf_bnd (sf_gR 11 12 (some 112)) g) Q (zp_Z t I J D) = zp_wp (g (some 120)) Q (zp_Z t I J D)) ∧
  (∀ (g : Option Nat → sf_M β), zp_wp (sf_bnd (sf_gR 11 15 (some 112)) g) Q (zp_Z t I J D) = zp_wp (g (some 121)) Q (zp_Z t I J D)) ∧
  (∀ (g : Option Nat → sf_M β), zp_wp (sf_bnd (sf_gR 11 16 (some 112)) g) Q (zp_Z t I J D) = zp_wp (g (some 122)) Q (zp_Z t I J D)) ∧
  (∀ (g : Option Nat → sf_M β), zp_wp (sf_bnd (sf_gR 11 17 (some 112)) g) Q (zp_Z t I J D) = zp_wp (g (some 123)) Q (zp_Z t I J D)) ∧
  (∀ (g : Option Nat → sf_M β), zp_wp (sf_bnd (sf_gR 11 26 (some 112)) g) Q (zp_Z t I J D) = zp_wp (g (some 124)) Q (zp_Z t I J D)) ∧
  (∀ (g : Option Nat → sf_M β), zp_wp (sf_bnd (sf_gR 11 29 (some 112)) g) Q (zp_Z t I J D) = zp_wp (g (some 125)) Q (zp_Z t I J D)) ∧
  (∀ (g : Option Nat → sf_M β), zp_wp (sf_bnd (sf_gR 11 31 (some 112)) g) Q (zp_Z t I J D) = zp_wp (g (some 126)) Q (zp_Z t I J D)) ∧
  (∀ (g : Option Nat → sf_M β), zp_wp (sf_bnd (sf_gR 11 32 (some 112)) g) Q (zp_Z t I J D) = zp_wp (g (some 127)) Q (zp_Z t I J D)) ∧
  (∀ (g : Option Nat → sf_M β), zp_wp (sf_bnd (sf_gR 11 33 (some 112)) g) Q (zp_Z t I J D) = zp_wp (g (some 128)) Q (zp_Z t I J D)) ∧
  (∀ (g : Option Nat → sf_M β), zp_wp (sf_bnd (sf_gR 11 34 (some 112)) g) Q (zp_Z t I J D) = zp_wp (g (some 129)) Q (zp_Z t I J D)) ∧
  (∀ (g : Option Nat → sf_M β), zp_wp (sf_bnd (sf_gR 11 35 (some 112)) g) Q (zp_Z t I J D) = zp_wp (g (some 130)) Q (zp_Z t I J D)) ∧
  (∀ (g : Option Nat → sf_M β), zp_wp (sf_bnd (sf_gR 11 36 (some 112)) g) Q (zp_Z t I J D) = zp_wp (g (some 131)) Q (zp_Z t I J D)) ∧
  (∀ (g : Option Nat → sf_M β), zp_wp (sf_bnd (sf_gR 11 37 (some 112)) g) Q (zp_Z t I J D) = zp_wp (g (some 132)) Q (zp_Z t I J D)) ∧
  (∀ (g : Option Nat → sf_M β), zp_wp (sf_bnd (sf_gR 11 38 (some 112)) g) Q (zp_Z t I J D) = zp_wp (g (some 133)) Q (zp_Z t I J D)) ∧
  (∀ (g : Option Nat → sf_M β), zp_wp (sf_bnd (sf_gR 11 39 (some 112)) g) Q (zp_Z t I J D) = zp_wp (g (some 134)) Q (zp_Z t I J D)) ∧
  (∀ (g : Option Nat → sf_M β), zp_wp (sf_bnd (sf_gR 11 41 (some 112)) g) Q (zp_Z t I J D) = zp_wp (g (some 135)) Q (zp_Z t I J D)) ∧
  (∀ (g : Option Nat → sf_M β), zp_wp (sf_bnd (sf_gR 11 42 (some 112)) g) Q (zp_Z t I J D) = zp_wp (g (some 136)) Q (zp_Z t I J D)) ∧
  (∀ (g : Option Nat → sf_M β), zp_wp (sf_bnd (sf_gR 11 49 (some 112)) g) Q (zp_Z t I J D) = zp_wp (g (some 137)) Q (zp_Z t I J D)) ∧
  (∀ (g : Option Nat → sf_M β), zp_wp (sf_bnd (sf_gR 11 50 (some 112)) g) Q (zp_Z t I J D) = zp_wp (g (some 138)) Q (zp_Z t I J D)) ∧
  (∀ (x : Int32) (g : Int32 → sf_M β), zp_in x 7 → zp_wp (sf_bnd (sf_aI 0 (some 113) x) g) Q (zp_Z t I J D) = zp_wp (g (I 113 (sf_ix x))) Q (zp_Z t I J D)) ∧
  (∀ (x v : Int32) (g : Unit → sf_M β), zp_in x 7 → zp_wp (sf_bnd (sf_sI 0 (some 113) x v) g) Q (zp_Z t I J D) = zp_wp (g ()) Q (zp_Z t (sf_u2 I 113 (sf_ix x) v) J D)) ∧
  (∀ (g : Int32 → sf_M β), zp_wp (sf_bnd (sf_len (some 113)) g) Q (zp_Z t I J D) = zp_wp (g (7 : Int32)) Q (zp_Z t I J D)) ∧
  (∀ (x : Int32) (g : Int32 → sf_M β), zp_in x 5838 → zp_wp (sf_bnd (sf_aI 0 (some 114) x) g) Q (zp_Z t I J D) = zp_wp (g (I 114 (sf_ix x))) Q (zp_Z t I J D)) ∧
  (∀ (x v : Int32) (g : Unit → sf_M β), zp_in x 5838 → zp_wp (sf_bnd (sf_sI 0 (some 114) x v) g) Q (zp_Z t I J D) = zp_wp (g ()) Q (zp_Z t (sf_u2 I 114 (sf_ix x) v) J D)) ∧
  (∀ (g : Int32 → sf_M β), zp_wp (sf_bnd (sf_len (some 114)) g) Q (zp_Z t I J D) = zp_wp (g (5838 : Int32)) Q (zp_Z t I J D)) ∧
  (∀ (x : Int32) (g : Int32 → sf_M β), zp_in x 11676 → zp_wp (sf_bnd (sf_aI 0 (some 115) x) g) Q (zp_Z t I J D) = zp_wp (g (I 115 (sf_ix x))) Q (zp_Z t I J D)) ∧
  (∀ (x v : Int32) (g : Unit → sf_M β), zp_in x 11676 → zp_wp (sf_bnd (sf_sI 0 (some 115) x v) g) Q (zp_Z t I J D) = zp_wp (g ()) Q (zp_Z t (sf_u2 I 115 (sf_ix x) v) J D)) ∧
  (∀ (g : Int32 → sf_M β), zp_wp (sf_bnd (sf_len (some 115)) g) Q (zp_Z t I J D) = zp_wp (g (11676 : Int32)) Q (zp_Z t I J D)) ∧
  (∀ (x : Int32) (g : Int32 → sf_M β), zp_in x 2 → zp_wp (sf_bnd (sf_aI 3 (some 116) x) g) Q (zp_Z t I J D) = zp_wp (g (I 116 (sf_ix x))) Q (zp_Z t I J D)) ∧
  (∀ (x v : Int32) (g : Unit → sf_M β), zp_in x 2 → zp_wp (sf_bnd (sf_sI 3 (some 116) x v) g) Q (zp_Z t I J D) = zp_wp (g ()) Q (zp_Z t (sf_u2 I 116 (sf_ix x) (sf_nw 3 v)) J D)) ∧
  (∀ (g : Int32 → sf_M β), zp_wp (sf_bnd (sf_len (some 116)) g) Q (zp_Z t I J D) = zp_wp (g (2 : Int32)) Q (zp_Z t I J D)) ∧
  (∀ (x : Int32) (g : Int32 → sf_M β), zp_in x 390 → zp_wp (sf_bnd (sf_aI 0 (some 117) x) g) Q (zp_Z t I J D) = zp_wp (g (I 117 (sf_ix x))) Q (zp_Z t I J D)) ∧
  (∀ (x v : Int32) (g : Unit → sf_M β), zp_in x 390 → zp_wp (sf_bnd (sf_sI 0 (some 117) x v) g) Q (zp_Z t I J D) = zp_wp (g ()) Q (zp_Z t (sf_u2 I 117 (sf_ix x) v) J D)) ∧
  (∀ (g : Int32 → sf_M β), zp_wp (sf_bnd (sf_len (some 117)) g) Q (zp_Z t I J D) = zp_wp (g (390 : Int32)) Q (zp_Z t I J D)) ∧
  (∀ (x : Int32) (g : Int32 → sf_M β), zp_in x 118 → zp_wp (sf_bnd (sf_aI 2 (some 118) x) g) Q (zp_Z t I J D) = zp_wp (g (I 118 (sf_ix x))) Q (zp_Z t I J D)) ∧
  (∀ (x v : Int32) (g : Unit → sf_M β), zp_in x 118 → zp_wp (sf_bnd (sf_sI 2 (some 118) x v) g) Q (zp_Z t I J D) = zp_wp (g ()) Q (zp_Z t (sf_u2 I 118 (sf_ix x) (sf_nw 2 v)) J D)) ∧
  (∀ (g : Int32 → sf_M β), zp_wp (sf_bnd (sf_len (some 118)) g) Q (zp_Z t I J D) = zp_wp (g (118 : Int32)) Q (zp_Z t I J D)) ∧
  (∀ (x : Int32) (g : Int32 → sf_M β), zp_in x 400 → zp_wp (sf_bnd (sf_aI 2 (some 119) x) g) Q (zp_Z t I J D) = zp_wp (g (I 119 (sf_ix x))) Q (zp_Z t I J D)) ∧
  (∀ (x v : Int32) (g : Unit → sf_M β), zp_in x 400 → zp_wp (sf_bnd (sf_sI 2 (some 119) x v) g) Q (zp_Z t I J D) = zp_wp (g ()) Q (zp_Z t (sf_u2 I 119 (sf_ix x) (sf_nw 2 v)) J D)) ∧
  (∀ (g : Int32 → sf_M β), zp_wp (sf_bnd (sf_len (some 119)) g) Q (zp_Z t I J D) = zp_wp (g (400 : Int32)) Q (zp_Z t I J D)) ∧
  (∀ (x : Int32) (g : Int32 → sf_M β), zp_in x 5 → zp_wp (sf_bnd (sf_aI 0 (some 120) x) g) Q (zp_Z t I J D) = zp_wp (g (I 120 (sf_ix x))) Q (zp_Z t I J D)) ∧
  (∀ (x v : Int32) (g : Unit → sf_M β), zp_in x 5 → zp_wp (sf_bnd (sf_sI 0 (some 120) x v) g) Q (zp_Z t I J D) = zp_wp (g ()) Q (zp_Z t (sf_u2 I 120 (sf_ix x) v) J D)) ∧
  (∀ (g : Int32 → sf_M β), zp_wp (sf_bnd (sf_len (some 120)) g) Q (zp_Z t I J D) = zp_wp (g (5 : Int32)) Q (zp_Z t I J D)) ∧
  (∀ (x : Int32) (g : Int32 → sf_M β), zp_in x 401 → zp_wp (sf_bnd (sf_aI 0 (some 121) x) g) Q (zp_Z t I J D) = zp_wp (g (I 121 (sf_ix x))) Q (zp_Z t I J D)) ∧
  (∀ (x v : Int32) (g : Unit → sf_M β), zp_in x 401 → zp_wp (sf_bnd (sf_sI 0 (some 121) x v) g) Q (zp_Z t I J D) = zp_wp (g ()) Q (zp_Z t (sf_u2 I 121 (sf_ix x) v) J D)) ∧
  (∀ (g : Int32 → sf_M β), zp_wp (sf_bnd (sf_len (some 121)) g) Q (zp_Z t I J D) = zp_wp (g (401 : Int32)) Q (zp_Z t I J D)) ∧
  (∀ (x : Int32) (g : Int32 → sf_M β), zp_in x 401 → zp_wp (sf_bnd (sf_aI 0 (some 122) x) g) Q (zp_Z t I J D) = zp_wp (g (I 122 (sf_ix x))) Q (zp_Z t I J D)) ∧
  (∀ (x v : Int32) (g : Unit → sf_M β), zp_in x 401 → zp_wp (sf_bnd (sf_sI 0 (some 122) x v) g) Q (zp_Z t I J D) = zp_wp (g ()) Q (zp_Z t (sf_u2 I 122 (sf_ix x) v) J D)) ∧
  (∀ (g : Int32 → sf_M β), zp_wp (sf_bnd (sf_len (some 122)) g) Q (zp_Z t I J D) = zp_wp (g (401 : Int32)) Q (zp_Z t I J D)) ∧
  (∀ (x : Int32) (g : Int32 → sf_M β), zp_in x 401 → zp_wp (sf_bnd (sf_aI 0 (some 123) x) g) Q (zp_Z t I J D) = zp_wp (g (I 123 (sf_ix x))) Q (zp_Z t I J D)) ∧
  (∀ (x v : Int32) (g : Unit → sf_M β), zp_in x 401 → zp_wp (sf_bnd (sf_sI 0 (some 123) x v) g) Q (zp_Z t I J D) = zp_wp (g ()) Q (zp_Z t (sf_u2 I 123 (sf_ix x) v) J D)) ∧
  (∀ (g : Int32 → sf_M β), zp_wp (sf_bnd (sf_len (some 123)) g) Q (zp_Z t I J D) = zp_wp (g (401 : Int32)) Q (zp_Z t I J D)) ∧
  (∀ (x : Int32) (g : Int32 → sf_M β), zp_in x 7 → zp_wp (sf_bnd (sf_aI 0 (some 124) x) g) Q (zp_Z t I J D) = zp_wp (g (I 124 (sf_ix x))) Q (zp_Z t I J D)) ∧
  (∀ (x v : Int32) (g : Unit → sf_M β), zp_in x 7 → zp_wp (sf_bnd (sf_sI 0 (some 124) x v) g) Q (zp_Z t I J D) = zp_wp (g ()) Q (zp_Z t (sf_u2 I 124 (sf_ix x) v) J D)) ∧
  (∀ (g : Int32 → sf_M β), zp_wp (sf_bnd (sf_len (some 124)) g) Q (zp_Z t I J D) = zp_wp (g (7 : Int32)) Q (zp_Z t I J D)) ∧
  (∀ (x : Int32) (g : Int32 → sf_M β), zp_in x 8 → zp_wp (sf_bnd (sf_aI 0 (some 125) x) g) Q (zp_Z t I J D) = zp_wp (g (I 125 (sf_ix x))) Q (zp_Z t I J D)) ∧
  (∀ (x v : Int32) (g : Unit → sf_M β), zp_in x 8 → zp_wp (sf_bnd (sf_sI 0 (some 125) x v) g) Q (zp_Z t I J D) = zp_wp (g ()) Q (zp_Z t (sf_u2 I 125 (sf_ix x) v) J D)) ∧
  (∀ (g : Int32 → sf_M β), zp_wp (sf_bnd (sf_len (some 125)) g) Q (zp_Z t I J D) = zp_wp (g (8 : Int32)) Q (zp_Z t I J D)) ∧
  (∀ (x : Int32) (g : Int32 → sf_M β), zp_in x 64 → zp_wp (sf_bnd (sf_aI 0 (some 126) x) g) Q (zp_Z t I J D) = zp_wp (g (I 126 (sf_ix x))) Q (zp_Z t I J D)) ∧
  (∀ (x v : Int32) (g : Unit → sf_M β), zp_in x 64 → zp_wp (sf_bnd (sf_sI 0 (some 126) x v) g) Q (zp_Z t I J D) = zp_wp (g ()) Q (zp_Z t (sf_u2 I 126 (sf_ix x) v) J D)) ∧
  (∀ (g : Int32 → sf_M β), zp_wp (sf_bnd (sf_len (some 126)) g) Q (zp_Z t I J D) = zp_wp (g (64 : Int32)) Q (zp_Z t I J D)) ∧
  (∀ (x : Int32) (g : Int32 → sf_M β), zp_in x 8 → zp_wp (sf_bnd (sf_aI 0 (some 127) x) g) Q (zp_Z t I J D) = zp_wp (g (I 127 (sf_ix x))) Q (zp_Z t I J D)) ∧
  (∀ (x v : Int32) (g : Unit → sf_M β), zp_in x 8 → zp_wp (sf_bnd (sf_sI 0 (some 127) x v) g) Q (zp_Z t I J D) = zp_wp (g ()) Q (zp_Z t (sf_u2 I 127 (sf_ix x) v) J D)) ∧
  (∀ (g : Int32 → sf_M β), zp_wp (sf_bnd (sf_len (some 127)) g) Q (zp_Z t I J D) = zp_wp (g (8 : Int32)) Q (zp_Z t I J D)) ∧
  (∀ (x : Int32) (g : Int32 → sf_M β), zp_in x 64 → zp_wp (sf_bnd (sf_aI 0 (some 128) x) g) Q (zp_Z t I J D) = zp_wp (g (I 128 (sf_ix x))) Q (zp_Z t I J D)) ∧
  (∀ (x v : Int32) (g : Unit → sf_M β), zp_in x 64 → zp_wp (sf_bnd (sf_sI 0 (some 128) x v) g) Q (zp_Z t I J D) = zp_wp (g ()) Q (zp_Z t (sf_u2 I 128 (sf_ix x) v) J D)) ∧
  (∀ (g : Int32 → sf_M β), zp_wp (sf_bnd (sf_len (some 128)) g) Q (zp_Z t I J D) = zp_wp (g (64 : Int32)) Q (zp_Z t I J D)) ∧
  (∀ (x : Int32) (g : Int32 → sf_M β), zp_in x 8 → zp_wp (sf_bnd (sf_aI 0 (some 129) x) g) Q (zp_Z t I J D) = zp_wp (g (I 129 (sf_ix x))) Q (zp_Z t I J D)) ∧
  (∀ (x v : Int32) (g : Unit → sf_M β), zp_in x 8 → zp_wp (sf_bnd (sf_sI 0 (some 129) x v) g) Q (zp_Z t I J D) = zp_wp (g ()) Q (zp_Z t (sf_u2 I 129 (sf_ix x) v) J D)) ∧
  (∀ (g : Int32 → sf_M β), zp_wp (sf_bnd (sf_len (some 129)) g) Q (zp_Z t I J D) = zp_wp (g (8 : Int32)) Q (zp_Z t I J D)) ∧
  (∀ (x : Int32) (g : Int32 → sf_M β), zp_in x 64 → zp_wp (sf_bnd (sf_aI 0 (some 130) x) g) Q (zp_Z t I J D) = zp_wp (g (I 130 (sf_ix x))) Q (zp_Z t I J D)) ∧
  (∀ (x v : Int32) (g : Unit → sf_M β), zp_in x 64 → zp_wp (sf_bnd (sf_sI 0 (some 130) x v) g) Q (zp_Z t I J D) = zp_wp (g ()) Q (zp_Z t (sf_u2 I 130 (sf_ix x) v) J D)) ∧
  (∀ (g : Int32 → sf_M β), zp_wp (sf_bnd (sf_len (some 130)) g) Q (zp_Z t I J D) = zp_wp (g (64 : Int32)) Q (zp_Z t I J D)) ∧
  (∀ (x : Int32) (g : Int32 → sf_M β), zp_in x 64 → zp_wp (sf_bnd (sf_aI 0 (some 131) x) g) Q (zp_Z t I J D) = zp_wp (g (I 131 (sf_ix x))) Q (zp_Z t I J D)) ∧
  (∀ (x v : Int32) (g : Unit → sf_M β), zp_in x 64 → zp_wp (sf_bnd (sf_sI 0 (some 131) x v) g) Q (zp_Z t I J D) = zp_wp (g ()) Q (zp_Z t (sf_u2 I 131 (sf_ix x) v) J D)) ∧
  (∀ (g : Int32 → sf_M β), zp_wp (sf_bnd (sf_len (some 131)) g) Q (zp_Z t I J D) = zp_wp (g (64 : Int32)) Q (zp_Z t I J D)) ∧
  (∀ (x : Int32) (g : Int32 → sf_M β), zp_in x 64 → zp_wp (sf_bnd (sf_aI 0 (some 132) x) g) Q (zp_Z t I J D) = zp_wp (g (I 132 (sf_ix x))) Q (zp_Z t I J D)) ∧
  (∀ (x v : Int32) (g : Unit → sf_M β), zp_in x 64 → zp_wp (sf_bnd (sf_sI 0 (some 132) x v) g) Q (zp_Z t I J D) = zp_wp (g ()) Q (zp_Z t (sf_u2 I 132 (sf_ix x) v) J D)) ∧
  (∀ (g : Int32 → sf_M β), zp_wp (sf_bnd (sf_len (some 132)) g) Q (zp_Z t I J D) = zp_wp (g (64 : Int32)) Q (zp_Z t I J D)) ∧
  (∀ (x : Int32) (g : Int32 → sf_M β), zp_in x 3136 → zp_wp (sf_bnd (sf_aI 0 (some 133) x) g) Q (zp_Z t I J D) = zp_wp (g (I 133 (sf_ix x))) Q (zp_Z t I J D)) ∧
  (∀ (x v : Int32) (g : Unit → sf_M β), zp_in x 3136 → zp_wp (sf_bnd (sf_sI 0 (some 133) x v) g) Q (zp_Z t I J D) = zp_wp (g ()) Q (zp_Z t (sf_u2 I 133 (sf_ix x) v) J D)) ∧
  (∀ (g : Int32 → sf_M β), zp_wp (sf_bnd (sf_len (some 133)) g) Q (zp_Z t I J D) = zp_wp (g (3136 : Int32)) Q (zp_Z t I J D)) ∧
  (∀ (x : Int32) (g : Int32 → sf_M β), zp_in x 3136 → zp_wp (sf_bnd (sf_aI 0 (some 134) x) g) Q (zp_Z t I J D) = zp_wp (g (I 134 (sf_ix x))) Q (zp_Z t I J D)) ∧
  (∀ (x v : Int32) (g : Unit → sf_M β), zp_in x 3136 → zp_wp (sf_bnd (sf_sI 0 (some 134) x v) g) Q (zp_Z t I J D) = zp_wp (g ()) Q (zp_Z t (sf_u2 I 134 (sf_ix x) v) J D)) ∧
  (∀ (g : Int32 → sf_M β), zp_wp (sf_bnd (sf_len (some 134)) g) Q (zp_Z t I J D) = zp_wp (g (3136 : Int32)) Q (zp_Z t I J D)) ∧
  (∀ (x : Int32) (g : Int32 → sf_M β), zp_in x 48 → zp_wp (sf_bnd (sf_aI 0 (some 135) x) g) Q (zp_Z t I J D) = zp_wp (g (I 135 (sf_ix x))) Q (zp_Z t I J D)) ∧
  (∀ (x v : Int32) (g : Unit → sf_M β), zp_in x 48 → zp_wp (sf_bnd (sf_sI 0 (some 135) x v) g) Q (zp_Z t I J D) = zp_wp (g ()) Q (zp_Z t (sf_u2 I 135 (sf_ix x) v) J D)) ∧
  (∀ (g : Int32 → sf_M β), zp_wp (sf_bnd (sf_len (some 135)) g) Q (zp_Z t I J D) = zp_wp (g (48 : Int32)) Q (zp_Z t I J D)) ∧
  (∀ (x : Int32) (g : Int64 → sf_M β), zp_in x 21 → zp_wp (sf_bnd (sf_aL (some 136) x) g) Q (zp_Z t I J D) = zp_wp (g (J 136 (sf_ix x))) Q (zp_Z t I J D)) ∧
  (∀ (x : Int32) (v : Int64) (g : Unit → sf_M β), zp_in x 21 → zp_wp (sf_bnd (sf_sL (some 136) x v) g) Q (zp_Z t I J D) = zp_wp (g ()) Q (zp_Z t I (sf_u2 J 136 (sf_ix x) v) D)) ∧
  (∀ (g : Int32 → sf_M β), zp_wp (sf_bnd (sf_len (some 136)) g) Q (zp_Z t I J D) = zp_wp (g (21 : Int32)) Q (zp_Z t I J D)) ∧
  (∀ (x : Int32) (g : Int64 → sf_M β), zp_in x 2 → zp_wp (sf_bnd (sf_aL (some 137) x) g) Q (zp_Z t I J D) = zp_wp (g (J 137 (sf_ix x))) Q (zp_Z t I J D)) ∧
  (∀ (x : Int32) (v : Int64) (g : Unit → sf_M β), zp_in x 2 → zp_wp (sf_bnd (sf_sL (some 137) x v) g) Q (zp_Z t I J D) = zp_wp (g ()) Q (zp_Z t I (sf_u2 J 137 (sf_ix x) v) D)) ∧
  (∀ (g : Int32 → sf_M β), zp_wp (sf_bnd (sf_len (some 137)) g) Q (zp_Z t I J D) = zp_wp (g (2 : Int32)) Q (zp_Z t I J D)) ∧
  (∀ (x : Int32) (g : Int32 → sf_M β), zp_in x 4 → zp_wp (sf_bnd (sf_aI 0 (some 138) x) g) Q (zp_Z t I J D) = zp_wp (g (I 138 (sf_ix x))) Q (zp_Z t I J D)) ∧
  (∀ (x v : Int32) (g : Unit → sf_M β), zp_in x 4 → zp_wp (sf_bnd (sf_sI 0 (some 138) x v) g) Q (zp_Z t I J D) = zp_wp (g ()) Q (zp_Z t (sf_u2 I 138 (sf_ix x) v) J D)) ∧
  (∀ (g : Int32 → sf_M β), zp_wp (sf_bnd (sf_len (some 138)) g) Q (zp_Z t I J D) = zp_wp (g (4 : Int32)) Q (zp_Z t I J D)) :=
  ⟨fun k g => pz_gI (N := 53) rfl,
   fun k v g => pz_pI (N := 53) rfl,
   fun f g => pz_rc (N := 53) rfl,
   fun g => pz_pt (N := 53) rfl rfl,
   fun g => pz_pt (N := 53) rfl rfl,
   fun g => pz_pt (N := 53) rfl rfl,
   fun g => pz_pt (N := 53) rfl rfl,
   fun g => pz_pt (N := 53) rfl rfl,
   fun g => pz_pt (N := 53) rfl rfl,
   fun g => pz_pt (N := 53) rfl rfl,
   fun g => pz_pt (N := 53) rfl rfl,
   fun g => pz_pt (N := 53) rfl rfl,
   fun g => pz_pt (N := 53) rfl rfl,
   fun g => pz_pt (N := 53) rfl rfl,
   fun g => pz_pt (N := 53) rfl rfl,
   fun g => pz_pt (N := 53) rfl rfl,
   fun g => pz_pt (N := 53) rfl rfl,
   fun g => pz_pt (N := 53) rfl rfl,
   fun g => pz_pt (N := 53) rfl rfl,
   fun g => pz_pt (N := 53) rfl rfl,
   fun g => pz_pt (N := 53) rfl rfl,
   fun g => pz_pt (N := 53) rfl rfl,
   fun g => pz_pt (N := 53) rfl rfl,
   fun g => pz_pt (N := 53) rfl rfl,
   fun g => pz_pt (N := 53) rfl rfl,
   fun g => pz_pt (N := 53) rfl rfl,
   fun g => pz_pt (N := 53) rfl rfl,
   fun g => pz_pt (N := 53) rfl rfl,
   fun g => pz_pt (N := 53) rfl rfl,
   fun x g h => pz_aI rfl h,
   fun x v g h => pz_sI rfl h,
   fun g => pz_len rfl (by decide),
   fun x g h => pz_aI rfl h,
   fun x v g h => pz_sI rfl h,
   fun g => pz_len rfl (by decide),
   fun x g h => pz_aI rfl h,
   fun x v g h => pz_sI rfl h,
   fun g => pz_len rfl (by decide),
   fun x g h => pz_aI rfl h,
   fun x v g h => pz_sI rfl h,
   fun g => pz_len rfl (by decide),
   fun x g h => pz_aI rfl h,
   fun x v g h => pz_sI rfl h,
   fun g => pz_len rfl (by decide),
   fun x g h => pz_aI rfl h,
   fun x v g h => pz_sI rfl h,
   fun g => pz_len rfl (by decide),
   fun x g h => pz_aI rfl h,
   fun x v g h => pz_sI rfl h,
   fun g => pz_len rfl (by decide),
   fun x g h => pz_aI rfl h,
   fun x v g h => pz_sI rfl h,
   fun g => pz_len rfl (by decide),
   fun x g h => pz_aI rfl h,
   fun x v g h => pz_sI rfl h,
   fun g => pz_len rfl (by decide),
   fun x g h => pz_aI rfl h,
   fun x v g h => pz_sI rfl h,
   fun g => pz_len rfl (by decide),
   fun x g h => pz_aI rfl h,
   fun x v g h => pz_sI rfl h,
   fun g => pz_len rfl (by decide),
   fun x g h => pz_aI rfl h,
   fun x v g h => pz_sI rfl h,
   fun g => pz_len rfl (by decide),
   fun x g h => pz_aI rfl h,
   fun x v g h => pz_sI rfl h,
   fun g => pz_len rfl (by decide),
   fun x g h => pz_aI rfl h,
   fun x v g h => pz_sI rfl h,
   fun g => pz_len rfl (by decide),
   fun x g h => pz_aI rfl h,
   fun x v g h => pz_sI rfl h,
   fun g => pz_len rfl (by decide),
   fun x g h => pz_aI rfl h,
   fun x v g h => pz_sI rfl h,
   fun g => pz_len rfl (by decide),
   fun x g h => pz_aI rfl h,
   fun x v g h => pz_sI rfl h,
   fun g => pz_len rfl (by decide),
   fun x g h => pz_aI rfl h,
   fun x v g h => pz_sI rfl h,
   fun g => pz_len rfl (by decide),
   fun x g h => pz_aI rfl h,
   fun x v g h => pz_sI rfl h,
   fun g => pz_len rfl (by decide),
   fun x g h => pz_aI rfl h,
   fun x v g h => pz_sI rfl h,
   fun g => pz_len rfl (by decide),
   fun x g h => pz_aI rfl h,
   fun x v g h => pz_sI rfl h,
   fun g => pz_len rfl (by decide),
   fun x g h => pz_aI rfl h,
   fun x v g h => pz_sI rfl h,
   fun g => pz_len rfl (by decide),
   fun x g h => pz_aI rfl h,
   fun x v g h => pz_sI rfl h,
   fun g => pz_len rfl (by decide),
   fun x g h => pz_aL rfl h,
   fun x v g h => pz_sL rfl h,
   fun g => pz_len rfl (by decide),
   fun x g h => pz_aL rfl h,
   fun x v g h => pz_sL rfl h,
   fun g => pz_len rfl (by decide),
   fun x g h => pz_aI rfl h,
   fun x v g h => pz_sI rfl h,
   fun g => pz_len rfl (by decide)⟩
theorem pb_C : (∀ {α : Type} {Q : α → sf_St → Prop} {σ : sf_St} (v : α), zp_wp (sf_ret v) Q σ = Q v σ) ∧ (∀ {α : Type} {Q : α → sf_St → Prop} {σ : sf_St} (c : Prop) [Decidable c] (f g : sf_M α), zp_wp (if c then f else g) Q σ = if c then zp_wp f Q σ else zp_wp g Q σ) ∧ (∀ {α β : Type} {Q : α → sf_St → Prop} {σ : sf_St} (v : β) (g : β → sf_M α), zp_wp (sf_bnd (sf_ret v) g) Q σ = zp_wp (g v) Q σ) ∧ (∀ {α β : Type} {Q : α → sf_St → Prop} {σ : sf_St} (c : Prop) [Decidable c] (f g : sf_M β) (k : β → sf_M α), zp_wp (sf_bnd (if c then f else g) k) Q σ = if c then zp_wp (sf_bnd f k) Q σ else zp_wp (sf_bnd g k) Q σ) ∧ (∀ {α β γ : Type} {Q : α → sf_St → Prop} {σ : sf_St} (f : sf_M β) (g : β → sf_M γ) (k : γ → sf_M α), zp_wp (sf_bnd (sf_bnd f g) k) Q σ = zp_wp (sf_bnd f (fun x => sf_bnd (g x) k)) Q σ) ∧ (∀ {α β γ : Type} {Q : γ → sf_St → Prop} {σ : sf_St} (f : sf_M (α ⊕ β)) (g : β → sf_M α) (k : α → sf_M γ), zp_wp (sf_bnd (sf_or f g) k) Q σ = zp_wp (sf_bnd f (fun r => match r with | .inl a => k a | .inr b => sf_bnd (g b) k)) Q σ) ∧ (∀ {α β : Type} {Q : α → sf_St → Prop} {σ : sf_St} (f : sf_M (α ⊕ β)) (g : β → sf_M α), zp_wp (sf_or f g) Q σ = zp_wp (sf_bnd f (fun r => match r with | .inl a => sf_ret a | .inr b => g b)) Q σ) :=
  ⟨fun _ => zp_wp_ret, fun _ _ _ _ => zp_wp_ite, fun _ _ => zp_wp_bret, fun _ _ _ _ _ => zp_wp_bite, fun _ _ _ => zp_wp_as, fun _ _ _ => zp_wp_bor, fun _ _ => zp_wp_or⟩
