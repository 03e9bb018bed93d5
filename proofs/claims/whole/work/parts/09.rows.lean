/-! Rows (arrays), new cells, copies. -/
section FRA
variable {X : sf_X} {Z : sf_Z} {env : List (Option Value)} {stk : List Value} {pc : Nat} {ρ : Type} {land : ρ → sf_L}
theorem gr_aI {ty : Nat} {o : Option Nat} {i : Int32} : sf_Gr (sf_aI ty o i) := sf_Gr.same fun σ r σ' h => by
  unfold sf_aI at h; split at h <;> cases h; rfl
theorem gr_aL {o : Option Nat} {i : Int32} : sf_Gr (sf_aL o i) := sf_Gr.same fun σ r σ' h => by
  unfold sf_aL at h; split at h <;> cases h; rfl
theorem gr_aR {ty : Nat} {o : Option Nat} {i : Int32} : sf_Gr (sf_aR ty o i) := sf_Gr.same fun σ r σ' h => by
  unfold sf_aR at h; split at h <;> cases h; rfl
theorem gr_sI {ty : Nat} {o : Option Nat} {i v : Int32} : sf_Gr (sf_sI ty o i v) := sf_Gr.same fun σ r σ' h => by
  unfold sf_sI at h; split at h <;> cases h; rfl
theorem gr_sL {o : Option Nat} {i : Int32} {v : Int64} : sf_Gr (sf_sL o i v) := sf_Gr.same fun σ r σ' h => by
  unfold sf_sL at h; split at h <;> cases h; rfl
theorem gr_sR {ty ci : Nat} {o v : Option Nat} {i : Int32} : sf_Gr (sf_sR ty ci o i v) := sf_Gr.same fun σ r σ' h => by
  unfold sf_sR at h; split at h <;> cases h; rfl
theorem gr_len {o : Option Nat} : sf_Gr (sf_len o) := sf_Gr.same fun σ r σ' h => by
  unfold sf_len at h
  cases o with
  | none => cases h
  | some a => dsimp only at h; split at h <;> cases h; rfl
theorem gr_rm {x y : Int32} : sf_Gr (sf_rmI x y) := sf_Gr.same fun σ r σ' h => by
  unfold sf_rmI at h; split at h <;> cases h; rfl
theorem gr_dv {x y : Int32} : sf_Gr (sf_dvI x y) := sf_Gr.same fun σ r σ' h => by
  unfold sf_dvI at h; split at h <;> cases h; rfl
theorem gr_rmL {x y : Int64} : sf_Gr (sf_rmL x y) := sf_Gr.same fun σ r σ' h => by
  unfold sf_rmL at h; split at h <;> cases h; rfl
theorem gr_dvL {x y : Int64} : sf_Gr (sf_dvL x y) := sf_Gr.same fun σ r σ' h => by
  unfold sf_dvL at h; split at h <;> cases h; rfl
theorem gr_cst {l : List Int32} {i : Int32} : sf_Gr (sf_cst l i) := sf_Gr.same fun σ r σ' h => by
  unfold sf_cst at h; split at h <;> cases h; rfl
theorem gr_cpI {o q : Option Nat} {sp dp n : Int32} : sf_Gr (sf_cpI o sp q dp n) := sf_Gr.same fun σ r σ' h => by
  unfold sf_cpI at h
  cases o <;> cases q <;> try (cases h; done)
  dsimp only at h; split at h <;> cases h; rfl
theorem fr_dvI {x y : Int32} {g : Int32 → sf_M ρ} (hd : decode Z.2.1 pc = .ok (.idiv, 1)) (kk : ∀ v, sf_Fr X Z (sf_p (pc + 1) env (.int v :: stk)) (g v) land) : sf_Fr X Z (sf_p pc env (.int y :: .int x :: stk)) (sf_bnd (sf_dvI x y) g) land := by
  refine fr_ef gr_dv (fun C σ v σ' e _ kt => ?_) kk
  unfold sf_dvI at e
  split at e
  next => cases e
  next h => cases e; exact at_idiv0 C hd h kt
theorem fr_rmI {x y : Int32} {g : Int32 → sf_M ρ} (hd : decode Z.2.1 pc = .ok (.irem, 1)) (kk : ∀ v, sf_Fr X Z (sf_p (pc + 1) env (.int v :: stk)) (g v) land) : sf_Fr X Z (sf_p pc env (.int y :: .int x :: stk)) (sf_bnd (sf_rmI x y) g) land := by
  refine fr_ef gr_rm (fun C σ v σ' e _ kt => ?_) kk
  unfold sf_rmI at e
  split at e
  next => cases e
  next h => cases e; exact at_irem0 C hd h kt
theorem fr_dvL {x y : Int64} {g : Int64 → sf_M ρ} (hd : decode Z.2.1 pc = .ok (.ldiv, 1)) (kk : ∀ v, sf_Fr X Z (sf_p (pc + 1) env (.long v :: stk)) (g v) land) : sf_Fr X Z (sf_p pc env (.long y :: .long x :: stk)) (sf_bnd (sf_dvL x y) g) land := by
  refine fr_ef gr_dvL (fun C σ v σ' e _ kt => ?_) kk
  unfold sf_dvL at e
  split at e
  next => cases e
  next h => cases e; exact at_ldiv0 C hd h kt
theorem fr_rmL {x y : Int64} {g : Int64 → sf_M ρ} (hd : decode Z.2.1 pc = .ok (.lrem, 1)) (kk : ∀ v, sf_Fr X Z (sf_p (pc + 1) env (.long v :: stk)) (g v) land) : sf_Fr X Z (sf_p pc env (.long y :: .long x :: stk)) (sf_bnd (sf_rmL x y) g) land := by
  refine fr_ef gr_rmL (fun C σ v σ' e _ kt => ?_) kk
  unfold sf_rmL at e
  split at e
  next => cases e
  next h => cases e; exact at_lrem0 C hd h kt
theorem fr_aI0 {o : Option Nat} {i : Int32} {g : Int32 → sf_M ρ} (hd : decode Z.2.1 pc = .ok (.iaload, 1)) (kk : ∀ v, sf_Fr X Z (sf_p (pc + 1) env (.int v :: stk)) (g v) land) : sf_Fr X Z (sf_p pc env (.int i :: sf_rv o :: stk)) (sf_bnd (sf_aI 0 o i) g) land := by
  refine fr_ef gr_aI (fun C σ v σ' e _ kt H locs ls hH hL => ?_) kk
  unfold sf_aI at e
  split at e
  next ho =>
    cases e
    obtain ⟨a, n, rfl, ha, h1, h2⟩ := sf_isA_spec ho (by omega)
    have hP := sf_one hH.1 ha
    rw [sf_ce_I _ _ _ _ (Or.inl rfl)] at hP
    exact va_iald C.1 C.2.1 C.kk.1 hP 0 0 rfl rfl h1 hd (kt H locs ls hH hL)
  next => cases e
theorem fr_aI2 {o : Option Nat} {i : Int32} {g : Int32 → sf_M ρ} (hd : decode Z.2.1 pc = .ok (.baload, 1)) (kk : ∀ v, sf_Fr X Z (sf_p (pc + 1) env (.int v :: stk)) (g v) land) : sf_Fr X Z (sf_p pc env (.int i :: sf_rv o :: stk)) (sf_bnd (sf_aI 2 o i) g) land := by
  refine fr_ef gr_aI (fun C σ v σ' e _ kt H locs ls hH hL => ?_) kk
  unfold sf_aI at e
  split at e
  next ho =>
    cases e
    obtain ⟨a, n, rfl, ha, h1, h2⟩ := sf_isA_spec ho (by omega)
    have hP := sf_one hH.1 ha
    rw [sf_ce_I _ _ _ _ (Or.inr (Or.inl rfl))] at hP
    exact va_bald C.1 C.2.1 C.kk.1 hP 0 2 rfl rfl h1 hd (kt H locs ls hH hL)
  next => cases e
theorem fr_aI3 {o : Option Nat} {i : Int32} {g : Int32 → sf_M ρ} (hd : decode Z.2.1 pc = .ok (.baload, 1)) (kk : ∀ v, sf_Fr X Z (sf_p (pc + 1) env (.int v :: stk)) (g v) land) : sf_Fr X Z (sf_p pc env (.int i :: sf_rv o :: stk)) (sf_bnd (sf_aI 3 o i) g) land := by
  refine fr_ef gr_aI (fun C σ v σ' e _ kt H locs ls hH hL => ?_) kk
  unfold sf_aI at e
  split at e
  next ho =>
    cases e
    obtain ⟨a, n, rfl, ha, h1, h2⟩ := sf_isA_spec ho (by omega)
    have hP := sf_one hH.1 ha
    rw [sf_ce_I _ _ _ _ (Or.inr (Or.inr rfl))] at hP
    exact va_zald C.1 C.2.1 C.kk.1 hP 0 3 rfl rfl h1 hd (kt H locs ls hH hL)
  next => cases e
theorem fr_aL {o : Option Nat} {i : Int32} {g : Int64 → sf_M ρ} (hd : decode Z.2.1 pc = .ok (.laload, 1)) (kk : ∀ v, sf_Fr X Z (sf_p (pc + 1) env (.long v :: stk)) (g v) land) : sf_Fr X Z (sf_p pc env (.int i :: sf_rv o :: stk)) (sf_bnd (sf_aL o i) g) land := by
  refine fr_ef gr_aL (fun C σ v σ' e _ kt H locs ls hH hL => ?_) kk
  unfold sf_aL at e
  split at e
  next ho =>
    cases e
    obtain ⟨a, n, rfl, ha, h1, h2⟩ := sf_isA_spec ho (by omega)
    have hP := sf_one hH.1 ha
    rw [sf_ce_L] at hP
    exact va_lald C.1 C.2.1 C.kk.1 hP 0 1 rfl rfl h1 hd (kt H locs ls hH hL)
  next => cases e
theorem fr_aR {ty : Nat} {cn : String} (h4 : 4 ≤ ty) (h7 : ty < 7) (ht : ∀ G, (sf_tys G)[ty]? = some (G.2.1 ty, .object cn)) {o : Option Nat} {i : Int32} {g : Option Nat → sf_M ρ} (hd : decode Z.2.1 pc = .ok (.aaload, 1)) (kk : ∀ v, sf_Fr X Z (sf_p (pc + 1) env (sf_rv v :: stk)) (g v) land) : sf_Fr X Z (sf_p pc env (.int i :: sf_rv o :: stk)) (sf_bnd (sf_aR ty o i) g) land := by
  refine fr_ef gr_aR (fun C σ v σ' e _ kt H locs ls hH hL => ?_) kk
  unfold sf_aR at e
  split at e
  next ho =>
    cases e
    obtain ⟨a, n, rfl, ha, h1, h2⟩ := sf_isA_spec ho h7
    have hP := sf_one hH.1 ha
    rw [sf_ce_R _ _ _ _ h4 h7] at hP
    have h := kt H locs ls hH hL
    refine va_aldq C.1 C.2.1 C.kk.1 hP 0 ty rfl (ht _) h1 hd ?_
    rw [← sf_cv_rv]
    exact h
  next => cases e
theorem fr_len {o : Option Nat} {g : Int32 → sf_M ρ} (hd : decode Z.2.1 pc = .ok (.arraylength, 1)) (kk : ∀ v, sf_Fr X Z (sf_p (pc + 1) env (.int v :: stk)) (g v) land) : sf_Fr X Z (sf_p pc env (sf_rv o :: stk)) (sf_bnd (sf_len o) g) land := by
  refine fr_ef gr_len (fun C σ v σ' e _ kt H locs ls hH hL => ?_) kk
  unfold sf_len at e
  cases o with
  | none => cases e
  | some a =>
    dsimp only at e
    split at e
    next hk =>
      cases e
      obtain ⟨k, hk2⟩ : ∃ k, k = sf_k σ a := ⟨_, rfl⟩
      have ha := sf_sh_of hk2.symm (by omega)
      have hP := sf_one hH.1 ha
      rw [← hk2] at hk
      have ht := C.kk.1
      have hkt := kt H locs ls hH hL
      have : k = 0 ∨ k = 1 ∨ k = 2 ∨ k = 3 ∨ k = 4 ∨ k = 5 ∨ k = 6 := by omega
      rcases this with rfl | rfl | rfl | rfl | rfl | rfl | rfl
      · exact va_alen C.1 C.2.1 ht hP 0 0 rfl rfl rfl hd hkt
      · exact va_alen C.1 C.2.1 ht hP 0 1 rfl rfl rfl hd hkt
      · exact va_alen C.1 C.2.1 ht hP 0 2 rfl rfl rfl hd hkt
      · exact va_alen C.1 C.2.1 ht hP 0 3 rfl rfl rfl hd hkt
      · exact va_alen C.1 C.2.1 ht hP 0 4 rfl rfl rfl hd hkt
      · exact va_alen C.1 C.2.1 ht hP 0 5 rfl rfl rfl hd hkt
      · exact va_alen C.1 C.2.1 ht hP 0 6 rfl rfl rfl hd hkt
    next => cases e
theorem sf_HH.upd {σ σ' : sf_St} {H H1 : Heap} {locs : List Loc} {a j : Nat} (h : sf_HH X σ H locs) (hsh : σ'.1 = σ.1) (ho : ∀ i, i ≠ a → σ'.2.1 i = σ.2.1 i ∧ σ'.2.2.1 i = σ.2.2.1 i ∧ σ'.2.2.2 i = σ.2.2.2 i)
    (hz : H1.size = H.size) (hq : ∀ q : Nat, q ≠ sf_sz (sf_XG X) + a → H1[q]? = H[q]?) (hat : ∀ k n, σ.1[a]? = some (k, n) → sf_at (sf_XG X) σ' H1 a k n) : sf_HH X σ' H1 (locs ++ [⟨sf_sz (sf_XG X) + a, j⟩]) := by
  refine ⟨h.1.upd hsh ho hz hq hat, fun l hl => ?_, by rw [sf_cn, hsh]; exact h.2.2.1, by rw [sf_sn, hsh]; exact h.2.2.2⟩
  rcases List.mem_append.mp hl with h1 | h1
  · exact h.2.1 l h1
  · cases List.mem_singleton.mp h1
    exact Nat.le_add_right _ _
theorem sf_store_i {cA : ClassId} {n j : Nat} {f : Nat → Int32} {y : Int32} {v : Value} (hv : v = .int y) : (vp_cell cA (n, .inl f)).setSlot j v = vp_cell cA (n, .inl (fun i => if i = j then y else f i)) := by
  rw [vp_cell_i, vp_cell_i, arrV_store, hv]
  congr 1
  funext q
  by_cases hq : q = j <;> simp [updV, hq]
theorem fr_sI0 {o : Option Nat} {i v : Int32} {g : Unit → sf_M ρ} (hd : decode Z.2.1 pc = .ok (.iastore, 1)) (kk : sf_Fr X Z (sf_p (pc + 1) env stk) (g ()) land) : sf_Fr X Z (sf_p pc env (.int v :: .int i :: sf_rv o :: stk)) (sf_bnd (sf_sI 0 o i v) g) land := by
  refine fr_ef (L1 := fun _ => sf_p (pc + 1) env stk) gr_sI (fun C σ _ σ' e _ kt H locs ls hH hL => ?_) (fun _ => kk)
  unfold sf_sI at e
  split at e
  next ho =>
    cases e
    obtain ⟨a, n, rfl, ha, h1, h2⟩ := sf_isA_spec ho (by omega)
    have hP := sf_one hH.1 ha 0 _ rfl
    rw [sf_ce_I _ _ _ _ (Or.inl rfl)] at hP
    refine W.iast C.1 C.2.1 hP ((C.kk.1.2 0 _ rfl).1 n (fun j => .int (σ.2.1 a j))) (fun q => by cases q) (by show ¬ (i < 0 ∨ (arrV _ _ _).slots.size ≤ _); rw [arrV_size]; exact h1) rfl rfl hd fun H1 e z oq => ?_
    refine kt H1 _ ls (hH.upd rfl (fun i hi => ⟨sf_u2_ne hi, rfl, rfl⟩) z oq fun k2 n2 hk2 => ?_) hL
    cases ha.symm.trans hk2
    unfold sf_at
    rw [sf_ce_I _ _ _ _ (Or.inl rfl)]
    show H1[_]? = some (vp_cell _ _)
    have hf : (fun j : Nat => if j = i.toNatClampNeg then v else σ.2.1 a j) = sf_u2 σ.2.1 a (sf_ix i) (sf_nw 0 v) a := by
      funext q
      by_cases hq : q = sf_ix i <;> simp [sf_u2, sf_ix, sf_nw] at hq ⊢ <;> simp [hq]
    rw [e, sf_store_i (v := .int v) (y := v) rfl, hf]
    rfl
  next => cases e
theorem fr_sI2 {o : Option Nat} {i v : Int32} {g : Unit → sf_M ρ} (hd : decode Z.2.1 pc = .ok (.bastore, 1)) (kk : sf_Fr X Z (sf_p (pc + 1) env stk) (g ()) land) : sf_Fr X Z (sf_p pc env (.int v :: .int i :: sf_rv o :: stk)) (sf_bnd (sf_sI 2 o i v) g) land := by
  refine fr_ef (L1 := fun _ => sf_p (pc + 1) env stk) gr_sI (fun C σ _ σ' e _ kt H locs ls hH hL => ?_) (fun _ => kk)
  unfold sf_sI at e
  split at e
  next ho =>
    cases e
    obtain ⟨a, n, rfl, ha, h1, h2⟩ := sf_isA_spec ho (by omega)
    have hP := sf_one hH.1 ha 0 _ rfl
    rw [sf_ce_I _ _ _ _ (Or.inr (Or.inl rfl))] at hP
    refine W.bast C.1 C.2.1 hP ((C.kk.1.2 2 _ rfl).1 n (fun j => .int (σ.2.1 a j))) (fun q => by cases q) (by show ¬ (i < 0 ∨ (arrV _ _ _).slots.size ≤ _); rw [arrV_size]; exact h1) rfl rfl hd fun H1 e z oq => ?_
    refine kt H1 _ ls (hH.upd rfl (fun i hi => ⟨sf_u2_ne hi, rfl, rfl⟩) z oq fun k2 n2 hk2 => ?_) hL
    cases ha.symm.trans hk2
    unfold sf_at
    rw [sf_ce_I _ _ _ _ (Or.inr (Or.inl rfl))]
    show H1[_]? = some (vp_cell _ _)
    have hf : (fun j : Nat => if j = i.toNatClampNeg then v.toInt8.toInt32 else σ.2.1 a j) = sf_u2 σ.2.1 a (sf_ix i) (sf_nw 2 v) a := by
      funext q
      by_cases hq : q = sf_ix i <;> simp [sf_u2, sf_ix, sf_nw] at hq ⊢ <;> simp [hq]
    rw [e, sf_store_i (v := narrow .byte (.int v)) (y := v.toInt8.toInt32) rfl, hf]
    rfl
  next => cases e
theorem fr_sI3 {o : Option Nat} {i v : Int32} {g : Unit → sf_M ρ} (hd : decode Z.2.1 pc = .ok (.bastore, 1)) (kk : sf_Fr X Z (sf_p (pc + 1) env stk) (g ()) land) : sf_Fr X Z (sf_p pc env (.int v :: .int i :: sf_rv o :: stk)) (sf_bnd (sf_sI 3 o i v) g) land := by
  refine fr_ef (L1 := fun _ => sf_p (pc + 1) env stk) gr_sI (fun C σ _ σ' e _ kt H locs ls hH hL => ?_) (fun _ => kk)
  unfold sf_sI at e
  split at e
  next ho =>
    cases e
    obtain ⟨a, n, rfl, ha, h1, h2⟩ := sf_isA_spec ho (by omega)
    have hP := sf_one hH.1 ha 0 _ rfl
    rw [sf_ce_I _ _ _ _ (Or.inr (Or.inr rfl))] at hP
    refine W.zast C.1 C.2.1 hP ((C.kk.1.2 3 _ rfl).1 n (fun j => .int (σ.2.1 a j))) (fun q => by cases q) (by show ¬ (i < 0 ∨ (arrV _ _ _).slots.size ≤ _); rw [arrV_size]; exact h1) rfl rfl hd fun H1 e z oq => ?_
    refine kt H1 _ ls (hH.upd rfl (fun i hi => ⟨sf_u2_ne hi, rfl, rfl⟩) z oq fun k2 n2 hk2 => ?_) hL
    cases ha.symm.trans hk2
    unfold sf_at
    rw [sf_ce_I _ _ _ _ (Or.inr (Or.inr rfl))]
    show H1[_]? = some (vp_cell _ _)
    have hf : (fun j : Nat => if j = i.toNatClampNeg then vp_nar .boolean v else σ.2.1 a j) = sf_u2 σ.2.1 a (sf_ix i) (sf_nw 3 v) a := by
      funext q
      by_cases hq : q = sf_ix i <;> simp [sf_u2, sf_ix, sf_nw] at hq ⊢ <;> simp [hq]
    rw [e, sf_store_i (v := narrow .boolean (.int v)) (y := vp_nar .boolean v) rfl, hf]
    rfl
  next => cases e
theorem fr_sL {o : Option Nat} {i : Int32} {v : Int64} {g : Unit → sf_M ρ} (hd : decode Z.2.1 pc = .ok (.lastore, 1)) (kk : sf_Fr X Z (sf_p (pc + 1) env stk) (g ()) land) : sf_Fr X Z (sf_p pc env (.long v :: .int i :: sf_rv o :: stk)) (sf_bnd (sf_sL o i v) g) land := by
  refine fr_ef (L1 := fun _ => sf_p (pc + 1) env stk) gr_sL (fun C σ _ σ' e _ kt H locs ls hH hL => ?_) (fun _ => kk)
  unfold sf_sL at e
  split at e
  next ho =>
    cases e
    obtain ⟨a, n, rfl, ha, h1, h2⟩ := sf_isA_spec ho (by omega)
    have hP := sf_one hH.1 ha 0 _ rfl
    rw [sf_ce_L] at hP
    refine W.last C.1 C.2.1 hP ((C.kk.1.2 1 _ rfl).1 n (fun j => .long (σ.2.2.1 a j))) (fun q => by cases q) (by show ¬ (i < 0 ∨ (arrV _ _ _).slots.size ≤ _); rw [arrV_size]; exact h1) rfl rfl hd fun H1 e z oq => ?_
    refine kt H1 _ ls (hH.upd rfl (fun i hi => ⟨rfl, sf_u2_ne hi, rfl⟩) z oq fun k2 n2 hk2 => ?_) hL
    cases ha.symm.trans hk2
    unfold sf_at
    rw [sf_ce_L]
    show H1[_]? = some (vp_cell _ _)
    rw [e, vp_cell_l, vp_cell_l, arrV_store]
    congr 2
    funext q
    by_cases hq : q = sf_ix i <;> simp [sf_u2, sf_ad, sf_ix, updV] at hq ⊢ <;> simp [hq]
  next => cases e
theorem fr_sR {ty ci : Nat} {cn : String} {T : u_T} {N : Nat} {ty0 : Nat → FieldType} (q : sf_Cl ci cn T N ty0) (h4 : 4 ≤ ty) (h7 : ty < 7) (ht : ∀ G, (sf_tys G)[ty]? = some (G.2.1 ty, .object cn)) {o v : Option Nat} {i : Int32} {g : Unit → sf_M ρ} (hd : decode Z.2.1 pc = .ok (.aastore, 1)) (kk : sf_Fr X Z (sf_p (pc + 1) env stk) (g ()) land) : sf_Fr X Z (sf_p pc env (sf_rv v :: .int i :: sf_rv o :: stk)) (sf_bnd (sf_sR ty ci o i v) g) land := by
  refine fr_ef (L1 := fun _ => sf_p (pc + 1) env stk) gr_sR (fun C σ _ σ' e _ kt H locs ls hH hL => ?_) (fun _ => kk)
  unfold sf_sR at e
  split at e
  next ho =>
    cases e
    simp only [Bool.and_eq_true, Bool.or_eq_true] at ho
    obtain ⟨a, n, rfl, ha, h1, h2⟩ := sf_isA_spec ho.1 h7
    have hP := sf_one hH.1 ha 0 _ rfl
    rw [sf_ce_R _ _ _ _ h4 h7] at hP
    have h0 : ¬ i < 0 := fun q => h1 (Or.inl q)
    have key : ∀ (w : Value) (H1 : Heap), w = va_rf (sf_rr (sf_XG X) v) → H1[sf_sz (sf_XG X) + a]? = some ((vp_cell ((sf_XG X).2.1 ty) (n, .inr (.inr (.inr (.inr (fun j => sf_rr (sf_XG X) (σ.2.2.2 a j))))))).setSlot i.toNatClampNeg w) → H1.size = H.size → (∀ q, q ≠ sf_sz (sf_XG X) + a → H1[q]? = H[q]?) → sf_W X H1 (locs ++ [⟨sf_sz (sf_XG X) + a, i.toNatClampNeg⟩]) (sf_cn σ - sf_Xk X) (sf_sn σ - sf_Xj X) (F0 (sf_Xm X) (pc + 1) ls (stk.map (sf_cv (sf_XG X)))) := by
      intro w H1 hw e z oq
      refine kt H1 _ ls (hH.upd rfl (fun i hi => ⟨rfl, rfl, sf_u2_ne hi⟩) z oq fun k2 n2 hk2 => ?_) hL
      cases ha.symm.trans hk2
      unfold sf_at
      rw [sf_ce_R _ _ _ _ h4 h7]
      show H1[_]? = some (vp_cell _ _)
      rw [e, vp_cell_q, vp_cell_q, arrV_store]
      congr 2
      funext q
      by_cases hq : q = sf_ix i <;> simp [sf_u2, sf_ad, sf_ix, updV] at hq ⊢ <;> simp [hq, hw]
    cases v with
    | none => exact va_WaastN (C := cn) C.1 C.2.1 hP ((C.kk.1.2 ty _ (ht _)).1 n (fun j => va_rf (sf_rr (sf_XG X) (σ.2.2.2 a j)))) (fun h => by cases h) (by show ¬ (i < 0 ∨ (arrV _ _ _).slots.size ≤ _); rw [arrV_size]; exact h1) rfl rfl hd fun H1 e z oq => key _ H1 rfl e z oq
    | some b =>
      have hb : sf_isO ci (some b) σ = true := by
        rcases ho.2 with h | h
        · cases h
        · exact h
      obtain ⟨b', nb, e, hb2⟩ := sf_isO_spec hb q.1
      cases e
      have hPb := sf_one hH.1 hb2 0 _ rfl
      rw [sf_ce_obj] at hPb
      obtain ⟨r', hr', cellV, g1, g2, g3, -⟩ := hPb
      have hcls := (C.kk.1.1 ci _ q.2.1).2
      obtain ⟨kA, comp, k1, k2, k3, -⟩ := (C.kk.1.2 ty _ (ht _)).2
      have hcomp : comp = (sf_XG X).1.1 ci := Option.some.inj (k3.symm.trans hcls.1)
      subst hcomp
      obtain ⟨kC, hkC, -⟩ := hcls.2
      exact W.aast C.1 C.2.1 hP (fun q h => by cases h) (fun h => by cases h) k1 k2 rfl hkC ⟨h0, by show _ < (arrV _ _ _).slots.size; rw [arrV_size]; exact h2⟩ g1 (fun q h => by rw [g3] at h; cases h) (by rw [g2]; exact hkC) (by rw [g2]; exact va_assign hcls) rfl rfl hd fun H1 e z oq => key _ H1 rfl e z oq
  next => cases e
end FRA
