/-! TEXTS: a pure reader of TOKENS (codes c, numbers v), which writes steps; a pure machine that runs steps. -/
abbrev tx_L : Type := List (Int32 × Int32)
abbrev tx_R : Type := Nat ⊕ (Nat × Nat × tx_L)
section
variable (c v : Nat → Int32) (ord : Bool)
def tx_jnB (o : Int32) (ys : tx_L) : tx_L := ys ++ [(o, 0)]
def tx_jnS (o : Int32) (ys : tx_L) : tx_L := (o, Int32.ofNat ys.length) :: ys
def tx_loop (sub : Nat → Nat → tx_R) (op : Int32 → Option Int32) (jn : Int32 → tx_L → tx_L) : Nat → Nat → Nat → tx_L → tx_R
  | 0, p, _, _ => .inl p
  | n + 1, p, l, xs => match op (c p) with
    | none => .inr (p, l, xs)
    | some o => match sub (p + 1) l with
      | .inl f => .inl f
      | .inr r => tx_loop sub op jn n r.1 r.2.1 (xs ++ jn o r.2.2)
def tx_lev (sub : Nat → Nat → tx_R) (op : Int32 → Option Int32) (jn : Int32 → tx_L → tx_L) (p l : Nat) : tx_R := match sub p l with
  | .inl f => .inl f
  | .inr r => tx_loop c sub op jn 401 r.1 r.2.1 r.2.2
def tx_opT (x : Int32) : Option Int32 := if x = 142 then some 7 else if x = 147 then some 8 else if x = 137 then some 9 else none
def tx_opS (x : Int32) : Option Int32 := if x = 143 then some 5 else if x = 145 then some 6 else none
def tx_opA (x : Int32) : Option Int32 := if x = 5 then some 4 else none
def tx_opO (x : Int32) : Option Int32 := if x = 4 then some 3 else none
def tx_cmp (x : Int32) : Option Int32 := if x = 160 then some 10 else if x = 162 then some 11 else if x = 161 then some 12 else none
def tx_wi (x : Int32) : Int32 := if ord = true then x - 13 else if x = 7 then 0 else if x = 8 then 2 else if x = 9 then 4 else if x = 10 then 6 else if x = 11 then 3 else if x = 12 then 1 else 5
def tx_isw (x : Int32) : Bool := if ord = true then zs_in 13 x 19 else zs_in 7 x 13
def tx_br (sub : Nat → Nat → tx_R) (close : Int32) (p l : Nat) : tx_R := match sub (p + 1) l with
  | .inl f => .inl f
  | .inr r => if c r.1 = close then .inr (r.1 + 1, r.2.1, r.2.2) else .inl r.1
def tx_part (inner : Nat → Nat → tx_R) (p l : Nat) : tx_R :=
  if c p = 191 then inner p l
  else if c p = 50 ∧ v p ≤ 1000 then (if 50 ≤ l then .inl p else .inr (p + 1, l + 1, [(0, v p)]))
  else if tx_isw ord (c p) = true then
    (if 50 ≤ l then .inl p
     else if ord = true ∧ c p = 19 then (if c (p + 1) = 50 ∧ v (p + 1) ≤ 5 then .inr (p + 2, l + 1, [(1, 6 + v (p + 1))]) else .inl (p + 1))
     else .inr (p + 1, l + 1, [(1, tx_wi ord (c p))]))
  else .inl p
def tx_sumI : Nat → (Nat → Nat → tx_R) → Nat → Nat → tx_R := fun _ inner => tx_lev c (tx_lev c (tx_part c v ord inner) tx_opT tx_jnB) tx_opS tx_jnB
def tx_sum : Nat → Nat → Nat → tx_R
  | 0 => tx_sumI c v ord 0 (fun p _ => .inl p)
  | b + 1 => tx_sumI c v ord 0 (tx_br c (tx_sum b) 193)
def tx_inS : Nat → Nat → Nat → tx_R
  | 0 => fun p _ => .inl p
  | b + 1 => tx_br c (tx_sum c v ord b) 193
theorem tx_sum_eq (b : Nat) : tx_sum c v ord b = tx_lev c (tx_lev c (tx_part c v ord (tx_inS c v ord b)) tx_opT tx_jnB) tx_opS tx_jnB := by
  cases b <;> rfl
def tx_nots : Nat → Nat → Bool → Nat × Bool
  | 0, p, t => (p, t)
  | n + 1, p, t => if c p = 6 then tx_nots n (p + 1) (!t) else (p, t)
def tx_pos (sum inner : Nat → Nat → tx_R) (q l : Nat) : tx_R :=
  if c q = 140 then inner q l else match sum q l with
    | .inl f => .inl f
    | .inr r => match tx_cmp (c r.1) with
      | none => .inl r.1
      | some o => match sum (r.1 + 1) r.2.1 with
        | .inl f => .inl f
        | .inr r2 => .inr (r2.1, r2.2.1, r.2.2 ++ (r2.2.2 ++ [(o, 0)]))
def tx_plain (sum inner : Nat → Nat → tx_R) (p l : Nat) : tx_R := match tx_pos c sum inner (tx_nots c 401 p false).1 l with
  | .inl f => .inl f
  | .inr r => .inr (r.1, r.2.1, if (tx_nots c 401 p false).2 = true then r.2.2 ++ [(2, 0)] else r.2.2)
def tx_testI (sum inner : Nat → Nat → tx_R) : Nat → Nat → tx_R := tx_lev c (tx_lev c (tx_plain c sum inner) tx_opA tx_jnS) tx_opO tx_jnS
def tx_test : Nat → Nat → Nat → tx_R
  | 0 => tx_testI c (tx_sum c v ord 0) (fun p _ => .inl p)
  | b + 1 => tx_testI c (tx_sum c v ord (b + 1)) (tx_br c (tx_test b) 141)
def tx_inT : Nat → Nat → Nat → tx_R
  | 0 => fun p _ => .inl p
  | b + 1 => tx_br c (tx_test c v ord b) 141
theorem tx_test_eq (b : Nat) : tx_test c v ord b = tx_lev c (tx_lev c (tx_plain c (tx_sum c v ord b) (tx_inT c v ord b)) tx_opA tx_jnS) tx_opO tx_jnS := by
  cases b <;> rfl
end
-- the machine
def tx_join (o a b : Int32) : Option Int32 :=
  let x := a.toInt64
  let y := b.toInt64
  let j : Int64 := if o = 5 then x + y else if o = 6 then x - y else if o = 7 then x * y
    else if o = 8 then (if y = 0 then 2000000000 else x / y) else if o = 9 then (if y = 0 then 2000000000 else x - x / y * y)
    else if o = 10 then (if x < y then 1 else 0) else if o = 11 then (if y < x then 1 else 0) else if o = 12 then (if x = y then 1 else 0) else 2000000000
  if j > 1000000000 then none else if j < -1000000000 then none else some j.toInt32
def tx_run (w : Nat → Int32) : tx_L → Nat → List Int32 → Option (List Int32)
  | [], _, st => some st
  | _ :: r, k + 1, st => tx_run w r k st
  | (o, a) :: r, 0, st =>
    if o = 0 ∨ o = 1 then (if st.length < 64 then tx_run w r 0 ((if o = 0 then a else w (sf_ix a)) :: st) else none)
    else match st with
      | [] => none
      | x :: st' => if o = 2 then tx_run w r 0 ((if x = 1 then 0 else 1) :: st')
        else if o = 3 ∨ o = 4 then (if (x = 1) = (o = 3) then tx_run w r (sf_ix a) (x :: st') else tx_run w r 0 st')
        else match st' with
          | [] => none
          | y :: st'' => match tx_join o y x with
            | none => none
            | some z => tx_run w r 0 (z :: st'')
theorem tx_run_c (w : Nat → Int32) (o a : Int32) (r : tx_L) (st : List Int32) : tx_run w ((o, a) :: r) 0 st =
    if o = 0 ∨ o = 1 then (if st.length < 64 then tx_run w r 0 ((if o = 0 then a else w (sf_ix a)) :: st) else none)
    else match st with
      | [] => none
      | x :: st' => if o = 2 then tx_run w r 0 ((if x = 1 then 0 else 1) :: st')
        else if o = 3 ∨ o = 4 then (if (x = 1) = (o = 3) then tx_run w r (sf_ix a) (x :: st') else tx_run w r 0 st')
        else match st' with
          | [] => none
          | y :: st'' => match tx_join o y x with
            | none => none
            | some z => tx_run w r 0 (z :: st'') := by
  cases st with
  | nil => rfl
  | cons x st' => cases st' <;> rfl
def tx_den (w : Nat → Int32) (xs : tx_L) : Option Int32 := match tx_run w xs 0 [] with
  | some (x :: _) => some x
  | _ => none
def tx_Sem (xs : tx_L) (need : Nat) : Prop := ∀ w rest st, st.length + need ≤ 64 → tx_run w (xs ++ rest) 0 st = match tx_den w xs with
  | none => none
  | some r => tx_run w rest 0 (r :: st)
theorem tx_Sem.of {xs : tx_L} {need : Nat} (r : (Nat → Int32) → Option Int32) (hn : need ≤ 64) (h : ∀ w rest st, st.length + need ≤ 64 → tx_run w (xs ++ rest) 0 st = match r w with
  | none => none
  | some r => tx_run w rest 0 (r :: st)) : tx_Sem xs need ∧ ∀ w, tx_den w xs = r w := by
  have hd : ∀ w, tx_den w xs = r w := fun w => by
    have := h w [] [] (by simpa using hn)
    unfold tx_den
    rw [List.append_nil] at this
    rw [this]
    cases r w <;> rfl
  exact ⟨fun w rest st hs => by rw [hd w]; exact h w rest st hs, hd⟩
theorem tx_Sem.mono {xs : tx_L} {n m : Nat} (h : tx_Sem xs n) (hm : n ≤ m) : tx_Sem xs m := fun w rest st hs => h w rest st (by omega)
theorem tx_run_skip (w : Nat → Int32) : ∀ (ys : tx_L) (rest : tx_L) (st : List Int32), tx_run w (ys ++ rest) ys.length st = tx_run w rest 0 st
  | [], rest, st => rfl
  | y :: ys, rest, st => by
    show tx_run w (y :: (ys ++ rest)) (ys.length + 1) st = _
    exact tx_run_skip w ys rest st
theorem tx_Sem_num (a : Int32) : tx_Sem [(0, a)] 1 ∧ ∀ w, tx_den w [(0, a)] = some a := by
  refine tx_Sem.of (fun _ => some a) (by decide) (fun w rest st hs => ?_)
  show tx_run w ((0, a) :: rest) 0 st = _
  rw [tx_run_c]
  simp [show st.length < 64 by omega]
theorem tx_Sem_word (a : Int32) : tx_Sem [(1, a)] 1 ∧ ∀ w, tx_den w [(1, a)] = some (w (sf_ix a)) := by
  refine tx_Sem.of (fun w => some (w (sf_ix a))) (by decide) (fun w rest st hs => ?_)
  show tx_run w ((1, a) :: rest) 0 st = _
  rw [tx_run_c]
  simp [show st.length < 64 by omega]
def tx_bin (o : Int32) : Prop := o ≠ 0 ∧ o ≠ 1 ∧ o ≠ 2 ∧ o ≠ 3 ∧ o ≠ 4
theorem tx_Sem_bin {xs ys : tx_L} {n m : Nat} {o : Int32} (ho : tx_bin o) (hx : tx_Sem xs n) (hy : tx_Sem ys m) (hn : n ≤ 64) (hm : m + 1 ≤ 64) :
    tx_Sem (xs ++ tx_jnB o ys) (max n (m + 1)) ∧ ∀ w, tx_den w (xs ++ tx_jnB o ys) = (tx_den w xs).bind (fun a => (tx_den w ys).bind (fun b => tx_join o a b)) := by
  refine tx_Sem.of (fun w => (tx_den w xs).bind (fun a => (tx_den w ys).bind (fun b => tx_join o a b))) (by omega) (fun w rest st hs => ?_)
  unfold tx_jnB
  rw [List.append_assoc, List.append_assoc, hx w _ st (by omega)]
  cases hd : tx_den w xs with
  | none => rfl
  | some a =>
    simp only [Option.bind_some]
    rw [hy w _ (a :: st) (by simp only [List.length_cons]; omega)]
    cases hd2 : tx_den w ys with
    | none => rfl
    | some b =>
      simp only [Option.bind_some, List.cons_append, List.nil_append]
      rw [tx_run_c]
      obtain ⟨h0, h1, h2, h3, h4⟩ := ho
      simp only [h0, h1, h2, h3, h4, or_self, if_false]
theorem tx_Sem_not {xs : tx_L} {n : Nat} (hx : tx_Sem xs n) (hn : n ≤ 64) :
    tx_Sem (xs ++ [(2, 0)]) n ∧ ∀ w, tx_den w (xs ++ [(2, 0)]) = (tx_den w xs).map (fun a => if a = 1 then 0 else 1) := by
  refine tx_Sem.of (fun w => (tx_den w xs).map (fun a => if a = 1 then 0 else 1)) hn (fun w rest st hs => ?_)
  rw [List.append_assoc, hx w _ st (by omega)]
  cases hd : tx_den w xs with
  | none => rfl
  | some a =>
    simp only [Option.map_some, List.cons_append, List.nil_append]
    rw [tx_run_c]
    simp
theorem tx_Sem_jmp {xs ys : tx_L} {n m : Nat} {o : Int32} (ho : o = 3 ∨ o = 4) (hx : tx_Sem xs n) (hy : tx_Sem ys m) (hn : n ≤ 64) (hm : m ≤ 64) (hl : ys.length < 2147483648) :
    tx_Sem (xs ++ tx_jnS o ys) (max n m) ∧ ∀ w, tx_den w (xs ++ tx_jnS o ys) = (tx_den w xs).bind (fun a => if (a = 1) = (o = 3) then some a else tx_den w ys) := by
  refine tx_Sem.of (fun w => (tx_den w xs).bind (fun a => if (a = 1) = (o = 3) then some a else tx_den w ys)) (by omega) (fun w rest st hs => ?_)
  unfold tx_jnS
  rw [List.append_assoc, hx w _ st (by omega)]
  cases hd : tx_den w xs with
  | none => rfl
  | some a =>
    simp only [Option.bind_some, List.cons_append]
    rw [tx_run_c]
    have e0 : ¬ (o = 0 ∨ o = 1) := by rcases ho with rfl | rfl <;> decide
    have e2 : ¬ o = 2 := by rcases ho with rfl | rfl <;> decide
    simp only [e0, e2, if_false, ho, if_true, zi_ixn hl]
    by_cases hc : (a = 1) = (o = 3)
    · simp only [hc, if_true]
      rw [tx_run_skip]
    · simp only [hc, if_false]
      exact hy w rest st (by omega)
