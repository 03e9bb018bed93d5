/-! The plain machine: states as functions, partial steps, and what it means that bytecode runs them. -/
-- states: what lies at each place (its kind, its size), the ints, the longs, the references
abbrev sf_St : Type := List (Nat × Nat) × (Nat → Nat → Int32) × (Nat → Nat → Int64) × (Nat → Nat → Option Nat)
abbrev sf_M (α : Type) : Type := sf_St → Option (α × sf_St)
def sf_ret {α : Type} (a : α) : sf_M α := fun σ => some (a, σ)
def sf_nil {α : Type} : sf_M α := fun _ => none
def sf_bnd {α β : Type} (f : sf_M α) (g : α → sf_M β) : sf_M β := fun σ => match f σ with
  | none => none
  | some r => g r.1 r.2
def sf_or {α β : Type} (f : sf_M (α ⊕ β)) (g : β → sf_M α) : sf_M α := sf_bnd f (fun r => match r with
  | .inl a => sf_ret a
  | .inr b => g b)
def sf_loop {β γ : Type} (body : β → sf_M (β ⊕ γ)) : Nat → β → sf_M γ
  | 0, _ => sf_nil
  | n + 1, b => sf_bnd (body b) (fun r => match r with
    | .inl b' => sf_loop body n b'
    | .inr g => sf_ret g)
theorem sf_bnd_some {α β : Type} {f : sf_M α} {g : α → sf_M β} {σ σ' : sf_St} {r : β} (h : sf_bnd f g σ = some (r, σ')) : ∃ a τ, f σ = some (a, τ) ∧ g a τ = some (r, σ') := by
  unfold sf_bnd at h
  cases hf : f σ with
  | none => rw [hf] at h; cases h
  | some q => rw [hf] at h; exact ⟨q.1, q.2, rfl, h⟩
theorem sf_bnd_eq {α β : Type} {f : sf_M α} {g : α → sf_M β} {σ τ : sf_St} {a : α} (h : f σ = some (a, τ)) : sf_bnd f g σ = g a τ := by
  unfold sf_bnd; rw [h]
-- what lies at a place
def sf_k (σ : sf_St) (a : Nat) : Nat := (σ.1.getD a (999, 0)).1
def sf_n (σ : sf_St) (a : Nat) : Nat := (σ.1.getD a (999, 0)).2
def sf_u2 {α : Type} (f : Nat → Nat → α) (a k : Nat) (v : α) : Nat → Nat → α := fun b j => if b = a ∧ j = k then v else f b j
def sf_u1 {α : Type} (f : Nat → Nat → α) (a : Nat) (g : Nat → α) : Nat → Nat → α := fun b => if b = a then g else f b
def sf_isO (ci : Nat) (o : Option Nat) (σ : sf_St) : Bool := match o with
  | none => false
  | some a => sf_k σ a == 10 + ci
def sf_isA (ty : Nat) (o : Option Nat) (i : Int32) (σ : sf_St) : Bool := match o with
  | none => false
  | some a => sf_k σ a == ty && (decide (0 ≤ i.toInt) && decide (i.toInt < sf_n σ a))
def sf_ad (o : Option Nat) : Nat := o.getD 0
def sf_ix (i : Int32) : Nat := i.toNatClampNeg
-- fields
def sf_gI (ci k : Nat) (o : Option Nat) : sf_M Int32 := fun σ => if sf_isO ci o σ = true then some (σ.2.1 (sf_ad o) k, σ) else none
def sf_gR (ci k : Nat) (o : Option Nat) : sf_M (Option Nat) := fun σ => if sf_isO ci o σ = true then some (σ.2.2.2 (sf_ad o) k, σ) else none
def sf_pI (ci k : Nat) (o : Option Nat) (v : Int32) : sf_M Unit := fun σ => if sf_isO ci o σ = true then some ((), (σ.1, sf_u2 σ.2.1 (sf_ad o) k v, σ.2.2)) else none
def sf_pR (ci k : Nat) (o v : Option Nat) : sf_M Unit := fun σ => if sf_isO ci o σ = true then some ((), (σ.1, σ.2.1, σ.2.2.1, sf_u2 σ.2.2.2 (sf_ad o) k v)) else none
-- arrays: ty 0 int, 1 long, 2 byte, 3 boolean, 4 .. 6 references
def sf_aI (ty : Nat) (o : Option Nat) (i : Int32) : sf_M Int32 := fun σ => if sf_isA ty o i σ = true then some (σ.2.1 (sf_ad o) (sf_ix i), σ) else none
def sf_aL (o : Option Nat) (i : Int32) : sf_M Int64 := fun σ => if sf_isA 1 o i σ = true then some (σ.2.2.1 (sf_ad o) (sf_ix i), σ) else none
def sf_aR (ty : Nat) (o : Option Nat) (i : Int32) : sf_M (Option Nat) := fun σ => if sf_isA ty o i σ = true then some (σ.2.2.2 (sf_ad o) (sf_ix i), σ) else none
def sf_nw (ty : Nat) (v : Int32) : Int32 := if ty = 2 then v.toInt8.toInt32 else if ty = 3 then vp_nar .boolean v else v
def sf_sI (ty : Nat) (o : Option Nat) (i v : Int32) : sf_M Unit := fun σ => if sf_isA ty o i σ = true then some ((), (σ.1, sf_u2 σ.2.1 (sf_ad o) (sf_ix i) (sf_nw ty v), σ.2.2)) else none
def sf_sL (o : Option Nat) (i : Int32) (v : Int64) : sf_M Unit := fun σ => if sf_isA 1 o i σ = true then some ((), (σ.1, σ.2.1, sf_u2 σ.2.2.1 (sf_ad o) (sf_ix i) v, σ.2.2.2)) else none
/-- a reference is stored: null, or an object of the row's own class (ci) -/
def sf_sR (ty ci : Nat) (o : Option Nat) (i : Int32) (v : Option Nat) : sf_M Unit := fun σ => if (sf_isA ty o i σ && (v.isNone || sf_isO ci v σ)) = true then some ((), (σ.1, σ.2.1, σ.2.2.1, sf_u2 σ.2.2.2 (sf_ad o) (sf_ix i) v)) else none
def sf_len (o : Option Nat) : sf_M Int32 := fun σ => match o with
  | none => none
  | some a => if sf_k σ a < 7 then some (Int32.ofNat (sf_n σ a), σ) else none
-- what is made
def sf_mk (k n : Nat) (σ : sf_St) : sf_St := (σ.1 ++ [(k, n)], sf_u1 σ.2.1 σ.1.length (fun _ => 0), sf_u1 σ.2.2.1 σ.1.length (fun _ => 0), sf_u1 σ.2.2.2 σ.1.length (fun _ => none))
def sf_new (ci N : Nat) : sf_M (Option Nat) := fun σ => some (some σ.1.length, sf_mk (10 + ci) N σ)
def sf_newA (ty : Nat) (n : Int32) : sf_M (Option Nat) := fun σ => if (decide (0 ≤ n.toInt) && decide (n.toInt < 65536)) = true then some (some σ.1.length, sf_mk ty (sf_ix n) σ) else none
-- a receiver of a class
def sf_rc {α : Type} (ci : Nat) (o : Option Nat) (f : sf_M α) : sf_M α := fun σ => if sf_isO ci o σ = true then f σ else none
-- division, and reading a row of constants
def sf_dvI (x y : Int32) : sf_M Int32 := fun σ => if y = 0 then none else some (x / y, σ)
def sf_rmI (x y : Int32) : sf_M Int32 := fun σ => if y = 0 then none else some (x - x / y * y, σ)
def sf_dvL (x y : Int64) : sf_M Int64 := fun σ => if y = 0 then none else some (x / y, σ)
def sf_rmL (x y : Int64) : sf_M Int64 := fun σ => if y = 0 then none else some (x - x / y * y, σ)
def sf_cst (l : List Int32) (i : Int32) : sf_M Int32 := fun σ => if (decide (0 ≤ i.toInt) && decide (i.toInt < l.length)) = true then some (l.getD (sf_ix i) 0, σ) else none
/-- all of a row, or a part of it, copied -/
def sf_cpI (o : Option Nat) (sp : Int32) (q : Option Nat) (dp n : Int32) : sf_M Unit := fun σ => match o, q with
  | some a, some b => if (sf_k σ a == 0 && (sf_k σ b == 0 && (decide (0 ≤ sp.toInt) && (decide (0 ≤ dp.toInt) && (decide (0 ≤ n.toInt) && (decide (sp.toInt + n.toInt ≤ sf_n σ a) && decide (dp.toInt + n.toInt ≤ sf_n σ b))))))) = true
      then some ((), (σ.1, sf_u1 σ.2.1 b (va_cpy (σ.2.1 a) (σ.2.1 b) (sf_ix sp) (sf_ix dp) (sf_ix n)), σ.2.2)) else none
  | _, _ => none
-- the state only grows
def sf_Gr {α : Type} (f : sf_M α) : Prop := ∀ σ r σ', f σ = some (r, σ') → ∃ t, σ'.1 = σ.1 ++ t
def sf_cn (σ : sf_St) : Nat := σ.1.length
def sf_sn (σ : sf_St) : Nat := (σ.1.map (fun q => q.2)).sum
theorem sf_Gr.cn {α : Type} {f : sf_M α} (h : sf_Gr f) {σ σ' : sf_St} {r : α} (e : f σ = some (r, σ')) : sf_cn σ ≤ sf_cn σ' := by
  obtain ⟨t, ht⟩ := h σ r σ' e
  simp [sf_cn, ht]
theorem sf_Gr.sn {α : Type} {f : sf_M α} (h : sf_Gr f) {σ σ' : sf_St} {r : α} (e : f σ = some (r, σ')) : sf_sn σ ≤ sf_sn σ' := by
  obtain ⟨t, ht⟩ := h σ r σ' e
  simp [sf_sn, ht]
theorem sf_Gr.ret {α : Type} (a : α) : sf_Gr (sf_ret a) := fun σ r σ' h => by cases h; exact ⟨[], by simp⟩
theorem sf_Gr.nil {α : Type} : sf_Gr (sf_nil : sf_M α) := fun σ r σ' h => by cases h
theorem sf_Gr.bnd {α β : Type} {f : sf_M α} {g : α → sf_M β} (hf : sf_Gr f) (hg : ∀ a, sf_Gr (g a)) : sf_Gr (sf_bnd f g) := by
  intro σ r σ' h
  obtain ⟨a, τ, h1, h2⟩ := sf_bnd_some h
  obtain ⟨t1, e1⟩ := hf _ _ _ h1
  obtain ⟨t2, e2⟩ := hg a _ _ _ h2
  exact ⟨t1 ++ t2, by rw [e2, e1, List.append_assoc]⟩
theorem sf_Gr.loop {β γ : Type} {body : β → sf_M (β ⊕ γ)} (h : ∀ b, sf_Gr (body b)) : ∀ n b, sf_Gr (sf_loop body n b)
  | 0, _ => sf_Gr.nil
  | n + 1, b => sf_Gr.bnd (h b) (fun r => by
    cases r with
    | inl b' => exact sf_Gr.loop h n b'
    | inr g => exact sf_Gr.ret g)
theorem sf_Gr.same {α : Type} {f : sf_M α} (h : ∀ σ r σ', f σ = some (r, σ') → σ'.1 = σ.1) : sf_Gr f := fun σ r σ' e => ⟨[], by rw [h σ r σ' e]; simp⟩
theorem sf_Gr.rc {α : Type} {ci : Nat} {o : Option Nat} {f : sf_M α} (h : sf_Gr f) : sf_Gr (sf_rc ci o f) := fun σ r σ' e => by
  unfold sf_rc at e
  split at e
  · exact h σ r σ' e
  · cases e
