/-! The classes as bundles; rows by kinds. -/
theorem cl_0 : sf_Cl 0 "SplitFares" sf_F0 13 sf_T0 := ⟨by decide, rfl, rfl, sf_us0, sf_ty0, sf_nm0, (by decide +kernel), (by decide +kernel)⟩
theorem cl_1 : sf_Cl 1 "SplitFares$Desk" sf_F1 8 sf_T1 := ⟨by decide, rfl, rfl, sf_us1, sf_ty1, sf_nm1, (by decide +kernel), (by decide +kernel)⟩
theorem cl_2 : sf_Cl 2 "SplitFares$Log" sf_F2 4 sf_T2 := ⟨by decide, rfl, rfl, sf_us2, sf_ty2, sf_nm2, (by decide +kernel), (by decide +kernel)⟩
theorem cl_3 : sf_Cl 3 "SplitFares$Machine" sf_F3 2 sf_T3 := ⟨by decide, rfl, rfl, sf_us3, sf_ty3, sf_nm3, (by decide +kernel), (by decide +kernel)⟩
theorem cl_4 : sf_Cl 4 "SplitFares$Office" sf_F4 14 sf_T4 := ⟨by decide, rfl, rfl, sf_us4, sf_ty4, sf_nm4, (by decide +kernel), (by decide +kernel)⟩
theorem cl_5 : sf_Cl 5 "SplitFares$Pocket" sf_F5 4 sf_T5 := ⟨by decide, rfl, rfl, sf_us5, sf_ty5, sf_nm5, (by decide +kernel), (by decide +kernel)⟩
theorem cl_6 : sf_Cl 6 "SplitFares$Program" sf_F6 5 sf_T6 := ⟨by decide, rfl, rfl, sf_us6, sf_ty6, sf_nm6, (by decide +kernel), (by decide +kernel)⟩
theorem cl_7 : sf_Cl 7 "SplitFares$Reader" sf_F7 4 sf_T7 := ⟨by decide, rfl, rfl, sf_us7, sf_ty7, sf_nm7, (by decide +kernel), (by decide +kernel)⟩
theorem cl_8 : sf_Cl 8 "SplitFares$Tape" sf_F8 2 sf_T8 := ⟨by decide, rfl, rfl, sf_us8, sf_ty8, sf_nm8, (by decide +kernel), (by decide +kernel)⟩
theorem cl_9 : sf_Cl 9 "SplitFares$Tokens" sf_F9 9 sf_T9 := ⟨by decide, rfl, rfl, sf_us9, sf_ty9, sf_nm9, (by decide +kernel), (by decide +kernel)⟩
theorem cl_10 : sf_Cl 10 "SplitFares$Ways" sf_F10 5 sf_T10 := ⟨by decide, rfl, rfl, sf_us10, sf_ty10, sf_nm10, (by decide +kernel), (by decide +kernel)⟩
theorem cl_11 : sf_Cl 11 "SplitFaresModel" sf_F11 53 sf_T11 := ⟨by decide, rfl, rfl, sf_us11, sf_ty11, sf_nm11, (by decide +kernel), (by decide +kernel)⟩
theorem ar_4 (G : sf_G) : (sf_tys G)[4]? = some (G.2.1 4, .object "SplitFares$Pocket") := rfl
theorem ar_5 (G : sf_G) : (sf_tys G)[5]? = some (G.2.1 5, .object "SplitFares$Office") := rfl
theorem ar_6 (G : sf_G) : (sf_tys G)[6]? = some (G.2.1 6, .object "SplitFares$Program") := rfl
section FRK
variable {X : sf_X} {Z : sf_Z} {env : List (Option Value)} {stk : List Value} {pc : Nat} {ρ : Type} {land : ρ → sf_L}
theorem fr_newI {n : Int32} {g : Option Nat → sf_M ρ} (hd : decode Z.2.1 pc = .ok (.newarray .int, 2)) (kk : ∀ v, sf_Fr X Z (sf_p (pc + 2) env (sf_rv v :: stk)) (g v) land) : sf_Fr X Z (sf_p pc env (.int n :: stk)) (sf_bnd (sf_newA 0 n) g) land := fr_newA (t := .int) sw_67 rfl (fun _ => rfl) (by decide) (by decide) (fun G σ m => rfl) (fun U c h => h) hd kk
theorem fr_newL {n : Int32} {g : Option Nat → sf_M ρ} (hd : decode Z.2.1 pc = .ok (.newarray .long, 2)) (kk : ∀ v, sf_Fr X Z (sf_p (pc + 2) env (sf_rv v :: stk)) (g v) land) : sf_Fr X Z (sf_p pc env (.int n :: stk)) (sf_bnd (sf_newA 1 n) g) land := fr_newA (t := .long) sw_355 rfl (fun _ => rfl) (by decide) (by decide) (fun G σ m => rfl) (fun U c h => h) hd kk
theorem fr_newB {n : Int32} {g : Option Nat → sf_M ρ} (hd : decode Z.2.1 pc = .ok (.newarray .byte, 2)) (kk : ∀ v, sf_Fr X Z (sf_p (pc + 2) env (sf_rv v :: stk)) (g v) land) : sf_Fr X Z (sf_p pc env (.int n :: stk)) (sf_bnd (sf_newA 2 n) g) land := fr_newA (t := .byte) sw_737 rfl (fun _ => rfl) (by decide) (by decide) (fun G σ m => rfl) (fun U c h => h) hd kk
theorem fr_newZ {n : Int32} {g : Option Nat → sf_M ρ} (hd : decode Z.2.1 pc = .ok (.newarray .boolean, 2)) (kk : ∀ v, sf_Fr X Z (sf_p (pc + 2) env (sf_rv v :: stk)) (g v) land) : sf_Fr X Z (sf_p pc env (.int n :: stk)) (sf_bnd (sf_newA 3 n) g) land := fr_newA (t := .boolean) sw_1232 rfl (fun _ => rfl) (by decide) (by decide) (fun G σ m => rfl) (fun U c h => h) hd kk
/-- a boolean field -/
def sf_pZ (ci k : Nat) (o : Option Nat) (v : Int32) : sf_M Unit := fun σ => if v = 0 ∨ v = 1 then sf_pI ci k o v σ else none
theorem gr_pZ {ci k : Nat} {o : Option Nat} {v : Int32} : sf_Gr (sf_pZ ci k o v) := fun σ r σ' h => by
  unfold sf_pZ at h
  split at h
  · exact gr_pI σ r σ' h
  · cases h
theorem fr_pZ {ci : Nat} {Cn : String} {T : u_T} {N : Nat} {ty0 : Nat → FieldType} (q : sf_Cl ci Cn T N ty0) (k : Nat) (hk : k < N) (hf : sf_fr ci k = false) {index : Nat} {o : Option Nat} {v : Int32} {g : Unit → sf_M ρ} (hl : Cond.fieldLink Z.1 index Cn (T k).2.1 (T k).2.2.1 ∈ sf_TB) (hfin : (T k).2.2.2 = false) (hty : ty0 k = .boolean) (hd : decode Z.2.1 pc = .ok (.putfield index, 3)) (kk : sf_Fr X Z (sf_p (pc + 3) env stk) (g ()) land) : sf_Fr X Z (sf_p pc env (.int v :: sf_rv o :: stk)) (sf_bnd (sf_pZ ci k o v) g) land := by
  refine ⟨gr_pZ.bnd fun _ => kk.1, fun C σ r σ' e hb kt => ?_⟩
  by_cases hv : v = 0 ∨ v = 1
  · have e1 : sf_bnd (sf_pZ ci k o v) g = sf_bnd (sf_pI ci k o v) g := by
      have : sf_pZ ci k o v = sf_pI ci k o v := by
        funext τ
        unfold sf_pZ
        rw [if_pos hv]
      rw [this]
    rw [e1] at e
    exact (fr_pI q k hk hf hl hfin (by rw [hty]; rcases hv with h | h <;> rw [h] <;> exact ⟨rfl, rfl⟩) hd kk).2 C σ r σ' e hb kt
  · unfold sf_bnd sf_pZ at e
    rw [if_neg hv] at e
    cases e
/-- what stands below the cells of the heap: MOST_OF_TERM (0), REFUSALS_IN_ORDER (1) -/
def sf_cl0 : List (List Int32) := [[999, 10, 9], [1, 2, 3, 5, 6]]
theorem sf_S (hH0 : ∀ q : Nat, q < sf_sz (sf_XG X) → (sf_Xs X).heap[q]? = (sf_XG X).2.2.2.1[q]?) (C : sf_Cx X Z) {σ : sf_St} {H : Heap} {locs : List Loc} (hH : sf_HH X σ H locs) : va_S (fun q => sf_sz (sf_XG X) ≤ q) (sf_Xs X).heap H locs :=
  ⟨by rw [hH.1.1, C.2.2.2.2.2.2.2.1.2]; have := hH.2.2.1; unfold sf_cn at this; omega, fun q _ hq => by rw [hH.1.2.1 q (by omega), hH0 q (by omega)], hH.2.1⟩
theorem sf_old (C : sf_Cx X Z) : ∀ a : Nat, a < (sf_XG X).2.2.2.1.size → ¬ sf_sz (sf_XG X) ≤ a → (sf_Xs X).heap[a]? = (sf_XG X).2.2.2.1[a]? := fun a _ ha => C.2.2.2.2.2.2.1 a (by omega)
theorem fp_gets0 {f : sf_M ρ} {index : Nat} (hl : Cond.fieldLink Z.1 index "SplitFares" "MOST_OF_TERM" "[I" ∈ sf_TB) (hd : decode Z.2.1 pc = .ok (.getstatic index, 3)) (k : sf_Fr X Z (sf_p (pc + 3) env (.double 0 :: stk)) f land) : sf_Fr X Z (sf_p pc env stk) f land := fr_st (L' := sf_p (pc + 3) env (.double 0 :: stk)) (fun C σ k H locs ls hH hl2 => by
  obtain ⟨⟨t, e1, e2, e3⟩, -⟩ := C.kk.2.2.2.1
  have hk := k H locs ls hH hl2
  refine va_gets C.1 C.2.1 (e2.kept (sf_old C)) (sf_S C.2.2.2.2.2.2.1 C hH) C.2.2.2.1 (C.hts hl) (fun x h => h) hd ?_
  have e : sf_cv (sf_XG X) (.double 0) = .ref t := by
    show (match (sf_XG X).2.2.2.2.2 0 with | .ref a => Value.ref a | _ => .null) = _
    rw [e1]
  rw [← e]
  exact hk) k
theorem fp_gets1 {f : sf_M ρ} {index : Nat} (hl : Cond.fieldLink Z.1 index "SplitFares" "REFUSALS_IN_ORDER" "[I" ∈ sf_TB) (hd : decode Z.2.1 pc = .ok (.getstatic index, 3)) (k : sf_Fr X Z (sf_p (pc + 3) env (.double 1 :: stk)) f land) : sf_Fr X Z (sf_p pc env stk) f land := fr_st (L' := sf_p (pc + 3) env (.double 1 :: stk)) (fun C σ k H locs ls hH hl2 => by
  obtain ⟨-, ⟨t, e1, e2, e3⟩⟩ := C.kk.2.2.2.1
  have hk := k H locs ls hH hl2
  refine va_gets C.1 C.2.1 (e2.kept (sf_old C)) (sf_S C.2.2.2.2.2.2.1 C hH) C.2.2.2.1 (C.hts hl) (fun x h => h) hd ?_
  have e : sf_cv (sf_XG X) (.double 1) = .ref t := by
    show (match (sf_XG X).2.2.2.2.2 1 with | .ref a => Value.ref a | _ => .null) = _
    rw [e1]
  rw [← e]
  exact hk) k
theorem w_told {N t : Nat} {fv : Nat → Value} {pc : Nat} (C : sf_Cx X Z) (hT : va_T .int t N fv (fun q => sf_sz (sf_XG X) ≤ q) (sf_Xs X) (sf_XG X).2.2.2.1) {σ : sf_St} {H : Heap} {locs : List Loc} (hH : sf_HH X σ H locs) {ls : Array Slot} {rest : List Value} {i : Int32} {cells slots : Nat} (h0 : 0 ≤ i.toInt) (h1 : i.toInt < N) (hd : decode Z.2.1 pc = .ok (.iaload, 1)) (k : sf_W X H locs cells slots (F0 (sf_Xm X) (pc + 1) ls (fv (sf_ix i) :: rest))) : sf_W X H locs cells slots (F0 (sf_Xm X) pc ls (.int i :: .ref t :: rest)) := by
  obtain ⟨cell, g1, g2, g3, g4, g5, g6, g7⟩ := hT
  have h2 := (sf_in_of h0 h1).2
  have hi0 : ¬ i < 0 := fun q => (sf_in_of h0 h1).1 (Or.inl q)
  refine W.iald (v := fv (sf_ix i)) C.1 C.2.1 (by rw [hH.1.2.1 t (by omega)]; exact g1) g2 g3 (fun q => ?_) (g6 _ h2) rfl rfl hd k
  rcases q with q | q
  · exact hi0 q
  · omega
theorem w_told_len {N t : Nat} {fv : Nat → Value} {pc : Nat} (C : sf_Cx X Z) (hT : va_T .int t N fv (fun q => sf_sz (sf_XG X) ≤ q) (sf_Xs X) (sf_XG X).2.2.2.1) {σ : sf_St} {H : Heap} {locs : List Loc} (hH : sf_HH X σ H locs) {ls : Array Slot} {rest : List Value} {cells slots : Nat} (hd : decode Z.2.1 pc = .ok (.arraylength, 1)) (k : sf_W X H locs cells slots (F0 (sf_Xm X) (pc + 1) ls (.int (Int32.ofNat N) :: rest))) : sf_W X H locs cells slots (F0 (sf_Xm X) pc ls (.ref t :: rest)) := by
  obtain ⟨cell, g1, g2, g3, g4, g5, g6, g7⟩ := hT
  exact W.alen (n := Int32.ofNat N) C.1 C.2.1 (by rw [hH.1.2.1 t (by omega)]; exact g1) g2 g5 rfl rfl hd k
theorem fr_cst0 {i : Int32} {g : Int32 → sf_M ρ} (hd : decode Z.2.1 pc = .ok (.iaload, 1)) (kk : ∀ v, sf_Fr X Z (sf_p (pc + 1) env (.int v :: stk)) (g v) land) : sf_Fr X Z (sf_p pc env (.int i :: .double 0 :: stk)) (sf_bnd (sf_cst [999, 10, 9] i) g) land := by
  refine fr_ef gr_cst (fun C σ v σ' e _ kt H locs ls hH hL => ?_) kk
  unfold sf_cst at e
  split at e
  next ho =>
    cases e
    simp only [Bool.and_eq_true, decide_eq_true_eq] at ho
    obtain ⟨⟨t, e1, e2, e3⟩, -⟩ := C.kk.2.2.2.1
    have e : sf_cv (sf_XG X) (.double 0) = .ref t := by
      show (match (sf_XG X).2.2.2.2.2 0 with | .ref a => Value.ref a | _ => .null) = _
      rw [e1]
    show sf_W X H locs _ _ (F0 (sf_Xm X) pc ls (.int i :: sf_cv (sf_XG X) (.double 0) :: stk.map (sf_cv (sf_XG X))))
    rw [e]
    exact w_told C e3 hH ho.1 ho.2 hd (kt H locs ls hH hL)
  next => cases e
theorem fr_cst1 {i : Int32} {g : Int32 → sf_M ρ} (hd : decode Z.2.1 pc = .ok (.iaload, 1)) (kk : ∀ v, sf_Fr X Z (sf_p (pc + 1) env (.int v :: stk)) (g v) land) : sf_Fr X Z (sf_p pc env (.int i :: .double 1 :: stk)) (sf_bnd (sf_cst [1, 2, 3, 5, 6] i) g) land := by
  refine fr_ef gr_cst (fun C σ v σ' e _ kt H locs ls hH hL => ?_) kk
  unfold sf_cst at e
  split at e
  next ho =>
    cases e
    simp only [Bool.and_eq_true, decide_eq_true_eq] at ho
    obtain ⟨-, ⟨t, e1, e2, e3⟩⟩ := C.kk.2.2.2.1
    have e : sf_cv (sf_XG X) (.double 1) = .ref t := by
      show (match (sf_XG X).2.2.2.2.2 1 with | .ref a => Value.ref a | _ => .null) = _
      rw [e1]
    show sf_W X H locs _ _ (F0 (sf_Xm X) pc ls (.int i :: sf_cv (sf_XG X) (.double 1) :: stk.map (sf_cv (sf_XG X))))
    rw [e]
    exact w_told C e3 hH ho.1 ho.2 hd (kt H locs ls hH hL)
  next => cases e
theorem fp_clen0 {f : sf_M ρ} (hd : decode Z.2.1 pc = .ok (.arraylength, 1)) (k : sf_Fr X Z (sf_p (pc + 1) env (.int 3 :: stk)) f land) : sf_Fr X Z (sf_p pc env (.double 0 :: stk)) f land := fr_st (L' := sf_p (pc + 1) env (.int 3 :: stk)) (fun C σ k H locs ls hH hl2 => by
  obtain ⟨⟨t, e1, e2, e3⟩, -⟩ := C.kk.2.2.2.1
  have e : sf_cv (sf_XG X) (.double 0) = .ref t := by
    show (match (sf_XG X).2.2.2.2.2 0 with | .ref a => Value.ref a | _ => .null) = _
    rw [e1]
  show sf_W X H locs _ _ (F0 (sf_Xm X) pc ls (sf_cv (sf_XG X) (.double 0) :: stk.map (sf_cv (sf_XG X))))
  rw [e]
  exact w_told_len C e3 hH hd (k H locs ls hH hl2)) k
end FRK
