/-! Instructions that read or write the heap. -/
theorem sf_sh_of {σ : sf_St} {a k : Nat} (h : sf_k σ a = k) (hk : k < 100) : σ.1[a]? = some (k, sf_n σ a) := by
  unfold sf_k at h
  unfold sf_n
  rw [List.getD_eq_getElem?_getD] at h ⊢
  cases hc : σ.1[a]? with
  | none => rw [hc] at h; simp at h; omega
  | some q => rw [hc] at h; simp at h ⊢; rw [← h]
theorem sf_isO_spec {ci : Nat} {o : Option Nat} {σ : sf_St} (h : sf_isO ci o σ = true) (hci : ci < 20) : ∃ a n, o = some a ∧ σ.1[a]? = some (10 + ci, n) := by
  cases o with
  | none => cases h
  | some a =>
    simp only [sf_isO, beq_iff_eq] at h
    exact ⟨a, _, rfl, sf_sh_of h (by omega)⟩
theorem sf_in_of {i : Int32} {n : Nat} (h0 : 0 ≤ i.toInt) (h1 : i.toInt < n) : vp_in i n ∧ i.toNatClampNeg < n := by
  have e : (i.toNatClampNeg : Int) = i.toInt := by
    show ((i.toInt.toNat : Nat) : Int) = i.toInt
    omega
  refine ⟨fun q => ?_, by omega⟩
  rcases q with q | q
  · have := Int32.lt_iff_toInt_lt.mp q
    simp at this
    omega
  · omega
theorem sf_isA_spec {ty : Nat} {o : Option Nat} {i : Int32} {σ : sf_St} (h : sf_isA ty o i σ = true) (hty : ty < 7) : ∃ a n, o = some a ∧ σ.1[a]? = some (ty, n) ∧ vp_in i n ∧ i.toNatClampNeg < n := by
  cases o with
  | none => cases h
  | some a =>
    simp only [sf_isA, Bool.and_eq_true, beq_iff_eq, decide_eq_true_eq] at h
    obtain ⟨h1, h2, h3⟩ := h
    have := sf_in_of h2 h3
    exact ⟨a, _, rfl, sf_sh_of h1 (by omega), this.1, this.2⟩
theorem sf_ce_obj (G : sf_G) (σ : sf_St) (i ci n : Nat) : sf_ce G σ i (10 + ci) n = .inr (ci, (List.range (sf_N ci)).map (sf_fv G σ ci i)) := by
  unfold sf_ce
  rw [if_pos (by omega), Nat.add_sub_cancel_left]
theorem sf_ce_L (G : sf_G) (σ : sf_St) (i n : Nat) : sf_ce G σ i 1 n = .inl (G.2.1 1, n, .inr (.inl (σ.2.2.1 i))) := rfl
theorem sf_ce_R (G : sf_G) (σ : sf_St) (i n : Nat) {ty : Nat} (h1 : 4 ≤ ty) (h2 : ty < 7) : sf_ce G σ i ty n = .inl (G.2.1 ty, n, .inr (.inr (.inr (.inr (fun j => sf_rr G (σ.2.2.2 i j)))))) := by
  unfold sf_ce
  rw [if_neg (by omega), if_neg (by omega), if_pos h1]
theorem sf_ce_I (G : sf_G) (σ : sf_St) (i n : Nat) {ty : Nat} (h : ty = 0 ∨ ty = 2 ∨ ty = 3) : sf_ce G σ i ty n = .inl (G.2.1 ty, n, .inl (σ.2.1 i)) := by
  rcases h with rfl | rfl | rfl <;> rfl
theorem sf_ce_congr {G : sf_G} {σ σ' : sf_St} {i : Nat} (h1 : σ'.2.1 i = σ.2.1 i) (h2 : σ'.2.2.1 i = σ.2.2.1 i) (h3 : σ'.2.2.2 i = σ.2.2.2 i) (k n : Nat) : sf_ce G σ' i k n = sf_ce G σ i k n := by
  have e : ∀ ci, sf_fv G σ' ci i = sf_fv G σ ci i := fun ci => by
    funext j
    simp only [sf_fv, h1, h3]
  simp only [sf_ce, e, h1, h2, h3]
theorem sf_Rel.upd {G : sf_G} {σ σ' : sf_St} {H H1 : Heap} {a : Nat} (h : sf_Rel G σ H) (hsh : σ'.1 = σ.1) (ho : ∀ i, i ≠ a → σ'.2.1 i = σ.2.1 i ∧ σ'.2.2.1 i = σ.2.2.1 i ∧ σ'.2.2.2 i = σ.2.2.2 i)
    (hz : H1.size = H.size) (hq : ∀ q : Nat, q ≠ sf_sz G + a → H1[q]? = H[q]?) (hat : ∀ k n, σ.1[a]? = some (k, n) → sf_at G σ' H1 a k n) : sf_Rel G σ' H1 := by
  refine ⟨by rw [hz, hsh]; exact h.1, fun q hl => by rw [hq q (by omega)]; exact h.2.1 q hl, fun i k n hi => ?_⟩
  rw [hsh] at hi
  by_cases hia : i = a
  · subst hia; exact hat k n hi
  · obtain ⟨e1, e2, e3⟩ := ho i hia
    have h1 := h.2.2 i k n hi
    unfold sf_at at h1 ⊢
    rw [sf_ce_congr e1 e2 e3]
    exact h1.kept (hq _ (by show sf_sz G + i ≠ _; omega))
theorem sf_one {G : sf_G} {σ : sf_St} {H : Heap} {i k n : Nat} (h : sf_Rel G σ H) (hi : σ.1[i]? = some (k, n)) : va_P G.1 sf_cl [(sf_sz G + i, sf_ce G σ i k n)] H := fun j q hj => by
  cases j with
  | zero => cases hj; exact h.2.2 i k n hi
  | succ j => simp at hj
/-- a class, its tables -/
def sf_Cl (ci : Nat) (Cn : String) (T : u_T) (N : Nat) (ty0 : Nat → FieldType) : Prop :=
  ci < 20 ∧ sf_cl[ci]? = some (Cn, T, N) ∧ sf_N ci = N ∧ (∀ w ∈ u_ws Cn T N, w ∈ sf_TB) ∧ (∀ k, k < N → parseFieldDescriptor (T k).2.2.1 = some (ty0 k)) ∧ (∀ a, a < N → ∀ b, b < N → a ≠ b → (T a).2.1 ≠ (T b).2.1) ∧ (∀ k, k < N → (T k).1 = Cn) ∧ (∀ k, k < N → defaultValue (ty0 k) = if sf_fr ci k = true then .null else .int 0)
section ATH
variable {X : sf_X} {Z : sf_Z} {σ : sf_St} {env : List (Option Value)} {stk : List Value} {pc : Nat}
theorem sf_fs_get {G : sf_G} {σ : sf_St} {ci a k N : Nat} (hN : sf_N ci = N) (hk : k < N) : ((List.range (sf_N ci)).map (sf_fv G σ ci a))[k]? = some (sf_fv G σ ci a k) := by
  rw [List.getElem?_map, List.getElem?_range (by omega)]; rfl
theorem sf_vfs {G : sf_G} {σ : sf_St} {ci a k N : Nat} (hN : sf_N ci = N) (hk : k < N) : vp_V ((List.range (sf_N ci)).map (sf_fv G σ ci a)) k = sf_fv G σ ci a k := by
  simp [vp_V, List.getD_eq_getElem?_getD, sf_fs_get hN hk]
theorem sf_Cx.hts (C : sf_Cx X Z) {w : Cond} (h : w ∈ sf_TB) : w.before (sf_Xa X) (sf_Xs X) = true := C.2.2.2.2.1 w h
theorem sf_Cx.kk (C : sf_Cx X Z) : sf_KK (sf_XG X) (sf_Xs X) := C.2.2.2.2.2.1
theorem w_get (C : sf_Cx X Z) {ci : Nat} {Cn : String} {T : u_T} {N : Nat} {ty0 : Nat → FieldType} (q : sf_Cl ci Cn T N ty0) {k : Nat} (hk : k < N) {index a n : Nat} (hl : Cond.fieldLink Z.1 index Cn (T k).2.1 (T k).2.2.1 ∈ sf_TB) (hd : decode Z.2.1 pc = .ok (.getfield index, 3)) (ha : σ.1[a]? = some (10 + ci, n)) {H : Heap} {locs : List Loc} {ls : Array Slot} {rest : List Value} {cells slots : Nat} (hR : sf_Rel (sf_XG X) σ H)
    (kk : sf_W X H locs cells slots (F0 (sf_Xm X) (pc + 3) ls (sf_fv (sf_XG X) σ ci a k :: rest))) : sf_W X H locs cells slots (F0 (sf_Xm X) pc ls (.ref (sf_sz (sf_XG X) + a) :: rest)) := by
  have hP := sf_one hR ha
  rw [sf_ce_obj] at hP
  exact va_get C.1 C.2.1 C.2.2.2.2.1 q.2.2.2.1 C.2.2.2.1 C.kk.1 hP 0 rfl q.2.1 k hk (C.hts hl) (fun x hx => by rw [← q.2.2.2.2.2.2.1 k hk]; exact hx) (sf_fs_get q.2.2.1 hk) hd kk
theorem w_put (C : sf_Cx X Z) {ci : Nat} {Cn : String} {T : u_T} {N : Nat} {ty0 : Nat → FieldType} (q : sf_Cl ci Cn T N ty0) {k : Nat} (hk : k < N) {index a n : Nat} (hl : Cond.fieldLink Z.1 index Cn (T k).2.1 (T k).2.2.1 ∈ sf_TB) (hfin : (T k).2.2.2 = false ∨ ((T k).2.2.2 = true ∧ (sf_Xt X).name = "<init>" ∧ Cn = Z.1)) {w : Value} (hn : narrow (ty0 k) w = w) (hfit : fits (ty0 k) w = true) (hd : decode Z.2.1 pc = .ok (.putfield index, 3)) (ha : σ.1[a]? = some (10 + ci, n))
    {σ' : sf_St} (hsh : σ'.1 = σ.1) (ho : ∀ i, i ≠ a → σ'.2.1 i = σ.2.1 i ∧ σ'.2.2.1 i = σ.2.2.1 i ∧ σ'.2.2.2 i = σ.2.2.2 i) (hv : sf_fv (sf_XG X) σ' ci a k = w) (hov : ∀ j, j ≠ k → sf_fv (sf_XG X) σ' ci a j = sf_fv (sf_XG X) σ ci a j)
    {H : Heap} {locs : List Loc} {ls : Array Slot} {rest : List Value} {cells slots : Nat} (hH : sf_HH X σ H locs)
    (kk : ∀ H1 locs1, sf_HH X σ' H1 locs1 → sf_W X H1 locs1 cells slots (F0 (sf_Xm X) (pc + 3) ls rest)) : sf_W X H locs cells slots (F0 (sf_Xm X) pc ls (w :: .ref (sf_sz (sf_XG X) + a) :: rest)) := by
  obtain ⟨hci, hc, hN, hus, hty, hnm, hsame, -⟩ := q
  have hap := va_apart (own := Z.1) C.2.2.2.2.1 hus ty0 hty hnm C.kk.1 hc
  have h0 := hH.1.2.2 a _ _ ha
  unfold sf_at at h0
  rw [sf_ce_obj] at h0
  obtain ⟨r, h1, cell, q1, q2, q3, q4⟩ := h0
  have hr : r = (Cn, T, N) := Option.some.inj (h1.symm.trans hc)
  subst hr
  obtain ⟨hS, hfc, kC, hkC, hkind⟩ := C.kk.1.1 ci _ hc
  obtain ⟨cf, kf, fi, f, hi, hsl⟩ := hS k hk
  have hi' := hi
  rw [hsame k hk] at hi'
  have hlay := C.2.2.2.2.1 _ (hus _ (u_in_lay hk))
  have hst := (u_facts hfc hkC (u_lays C.2.2.2.2.1 hus hk) hi).1
  have fin : ∀ H' : Heap, H'[sf_sz (sf_XG X) + a]? = some (cell.setSlot f.slot w) → H'.size = H.size → (∀ q, q ≠ sf_sz (sf_XG X) + a → H'[q]? = H[q]?) → sf_W X H' (locs ++ [⟨sf_sz (sf_XG X) + a, f.slot⟩]) cells slots (F0 (sf_Xm X) (pc + 3) ls rest) := by
    intro H' e1 e2 e3
    refine kk H' _ ⟨hH.1.upd hsh ho e2 e3 (fun k2 n2 h2 => ?_), fun l hl => ?_, by rw [sf_cn, hsh]; exact hH.2.2.1, by rw [sf_sn, hsh]; exact hH.2.2.2⟩
    · cases ha.symm.trans h2
      unfold sf_at
      rw [sf_ce_obj]
      rw [hsl] at e1
      refine ⟨_, hc, t_OB.to (V := updV (vp_V ((List.range (sf_N ci)).map (sf_fv (sf_XG X) σ ci a))) k w) ⟨_, e1, q2, q3, t_set q4 hap hk w⟩ (fun j hj => ?_)⟩
      rw [sf_vfs hN hj]
      unfold updV
      by_cases hjk : j = k
      · rw [if_pos hjk, hjk, hv]
      · rw [if_neg hjk, hov j hjk, sf_vfs hN hj]
    · rcases List.mem_append.mp hl with h | h
      · exact hH.2.1 l h
      · cases List.mem_singleton.mp h
        exact Nat.le_add_right _ _
  rcases hfin with hfin | ⟨hfin, hin, hown⟩
  · unfold u_lay at hlay
    rw [if_neg (by rw [hfin]; decide)] at hlay
    have h6 := u_store hfc hkC hkind hlay hi (hty k hk) hn hfit
    exact W.putK C.1 C.2.1 (f := f) ⟨C.2.2.2.1, C.hts hl, ⟨_, _, _, hi'⟩, hst⟩ (by rw [q2]; exact h6) q1 q3 (by rw [hsl]; exact k2_hasslot (q4 k hk)) rfl rfl hd fin
  · unfold u_lay at hlay
    rw [if_pos hfin] at hlay
    have hcf : (sf_Xm X).cls = cf := by
      obtain ⟨_, _, c', _, _, _, -, -, hf', -, -, -, hown2, -⟩ := Cond.laysFinal_spec hlay
      have e1 : c' = cf := by have := hi.symm.trans hf'; simp at this; exact this.1.symm
      rw [hsame k hk, hown] at hown2
      rw [← e1]; exact Option.some.inj (C.2.2.2.1.symm.trans hown2)
    have h6 := u_fits hfc hkC hkind (Or.inr hlay) hi (hty k hk) hn hfit
    exact W.putFinK C.1 C.2.1 C.2.2.2.1 (C.hts hl) hi' hst hcf hin (by rw [q2]; exact h6) q1 q3 (by rw [hsl]; exact k2_hasslot (q4 k hk)) rfl rfl hd fin
end ATH
section FRH
variable {X : sf_X} {Z : sf_Z} {env : List (Option Value)} {stk : List Value} {pc : Nat} {ρ : Type} {land : ρ → sf_L}
theorem gr_gI {ci k : Nat} {o : Option Nat} : sf_Gr (sf_gI ci k o) := sf_Gr.same fun σ r σ' h => by
  unfold sf_gI at h; split at h <;> cases h; rfl
theorem gr_gR {ci k : Nat} {o : Option Nat} : sf_Gr (sf_gR ci k o) := sf_Gr.same fun σ r σ' h => by
  unfold sf_gR at h; split at h <;> cases h; rfl
theorem gr_pI {ci k : Nat} {o : Option Nat} {v : Int32} : sf_Gr (sf_pI ci k o v) := sf_Gr.same fun σ r σ' h => by
  unfold sf_pI at h; split at h <;> cases h; rfl
theorem gr_pR {ci k : Nat} {o v : Option Nat} : sf_Gr (sf_pR ci k o v) := sf_Gr.same fun σ r σ' h => by
  unfold sf_pR at h; split at h <;> cases h; rfl
theorem fr_ef {α : Type} {op : sf_M α} {g : α → sf_M ρ} {L : sf_L} {L1 : α → sf_L} (hG : sf_Gr op) (h : sf_Cx X Z → ∀ σ v σ', op σ = some (v, σ') → sf_Bd X σ' → sf_AtL X σ' (L1 v) → sf_AtL X σ L) (k : ∀ v, sf_Fr X Z (L1 v) (g v) land) : sf_Fr X Z L (sf_bnd op g) land := fr_bnd ⟨hG, h⟩ k
theorem fr_gI {ci : Nat} {Cn : String} {T : u_T} {N : Nat} {ty0 : Nat → FieldType} (q : sf_Cl ci Cn T N ty0) (k : Nat) (hk : k < N) (hf : sf_fr ci k = false) {index : Nat} {o : Option Nat} {g : Int32 → sf_M ρ} (hl : Cond.fieldLink Z.1 index Cn (T k).2.1 (T k).2.2.1 ∈ sf_TB) (hd : decode Z.2.1 pc = .ok (.getfield index, 3)) (kk : ∀ v, sf_Fr X Z (sf_p (pc + 3) env (.int v :: stk)) (g v) land) : sf_Fr X Z (sf_p pc env (sf_rv o :: stk)) (sf_bnd (sf_gI ci k o) g) land := by
  refine fr_ef gr_gI (fun C σ v σ' e _ kt H locs ls hH hL => ?_) kk
  unfold sf_gI at e
  split at e
  next ho =>
    cases e
    obtain ⟨a, n, rfl, ha⟩ := sf_isO_spec ho q.1
    refine w_get C q hk hl hd ha hH.1 ?_
    have h := kt H locs ls hH hL
    rw [sf_fv, if_neg (by rw [hf]; decide)]
    exact h
  next => cases e
theorem fr_gR {ci : Nat} {Cn : String} {T : u_T} {N : Nat} {ty0 : Nat → FieldType} (q : sf_Cl ci Cn T N ty0) (k : Nat) (hk : k < N) (hf : sf_fr ci k = true) {index : Nat} {o : Option Nat} {g : Option Nat → sf_M ρ} (hl : Cond.fieldLink Z.1 index Cn (T k).2.1 (T k).2.2.1 ∈ sf_TB) (hd : decode Z.2.1 pc = .ok (.getfield index, 3)) (kk : ∀ v, sf_Fr X Z (sf_p (pc + 3) env (sf_rv v :: stk)) (g v) land) : sf_Fr X Z (sf_p pc env (sf_rv o :: stk)) (sf_bnd (sf_gR ci k o) g) land := by
  refine fr_ef gr_gR (fun C σ v σ' e _ kt H locs ls hH hL => ?_) kk
  unfold sf_gR at e
  split at e
  next ho =>
    cases e
    obtain ⟨a, n, rfl, ha⟩ := sf_isO_spec ho q.1
    refine w_get C q hk hl hd ha hH.1 ?_
    have h := kt H locs ls hH hL
    rw [sf_fv, if_pos hf, ← sf_cv_rv]
    exact h
  next => cases e
theorem sf_u2_ne {α : Type} {f : Nat → Nat → α} {a k i : Nat} {v : α} (h : i ≠ a) : sf_u2 f a k v i = f i := by
  funext j
  simp [sf_u2, h]
theorem sf_u2_eq {α : Type} {f : Nat → Nat → α} {a k : Nat} {v : α} : sf_u2 f a k v a k = v := by simp [sf_u2]
theorem sf_u2_nk {α : Type} {f : Nat → Nat → α} {a k j : Nat} {v : α} (h : j ≠ k) : sf_u2 f a k v a j = f a j := by simp [sf_u2, h]
/-- putfield of an int ('hZ': what its type takes) -/
theorem fr_pI {ci : Nat} {Cn : String} {T : u_T} {N : Nat} {ty0 : Nat → FieldType} (q : sf_Cl ci Cn T N ty0) (k : Nat) (hk : k < N) (hf : sf_fr ci k = false) {index : Nat} {o : Option Nat} {v : Int32} {g : Unit → sf_M ρ} (hl : Cond.fieldLink Z.1 index Cn (T k).2.1 (T k).2.2.1 ∈ sf_TB) (hfin : (T k).2.2.2 = false) (hZ : narrow (ty0 k) (.int v) = .int v ∧ fits (ty0 k) (.int v) = true) (hd : decode Z.2.1 pc = .ok (.putfield index, 3)) (kk : sf_Fr X Z (sf_p (pc + 3) env stk) (g ()) land) : sf_Fr X Z (sf_p pc env (.int v :: sf_rv o :: stk)) (sf_bnd (sf_pI ci k o v) g) land := by
  refine fr_ef (L1 := fun _ => sf_p (pc + 3) env stk) gr_pI (fun C σ _ σ' e _ kt H locs ls hH hL => ?_) (fun _ => kk)
  unfold sf_pI at e
  split at e
  next ho =>
    cases e
    obtain ⟨a, n, rfl, ha⟩ := sf_isO_spec ho q.1
    exact w_put C q hk hl (Or.inl hfin) hZ.1 hZ.2 hd ha (σ' := (σ.1, sf_u2 σ.2.1 a k v, σ.2.2)) rfl (fun i hi => ⟨sf_u2_ne hi, rfl, rfl⟩) (by rw [sf_fv, if_neg (by rw [hf]; decide)]; exact congrArg _ sf_u2_eq) (fun j hj => by
      simp only [sf_fv]
      by_cases hfj : sf_fr ci j = true
      · rw [if_pos hfj, if_pos hfj]
      · rw [if_neg hfj, if_neg hfj]; exact congrArg _ (sf_u2_nk hj)) hH (fun H1 locs1 h1 => kt H1 locs1 ls h1 hL)
  next => cases e
theorem fr_pRg {ci : Nat} {Cn : String} {T : u_T} {N : Nat} {ty0 : Nat → FieldType} (q : sf_Cl ci Cn T N ty0) (k : Nat) (hk : k < N) (hf : sf_fr ci k = true) {index : Nat} {o v : Option Nat} {g : Unit → sf_M ρ} (hl : Cond.fieldLink Z.1 index Cn (T k).2.1 (T k).2.2.1 ∈ sf_TB) (hfin : (T k).2.2.2 = false ∨ ((T k).2.2.2 = true ∧ Z.2.2.2.1 = "<init>" ∧ Cn = Z.1)) (hZ : (∃ n, ty0 k = .object n) ∨ ∃ t, ty0 k = .array t) (hd : decode Z.2.1 pc = .ok (.putfield index, 3)) (kk : sf_Fr X Z (sf_p (pc + 3) env stk) (g ()) land) : sf_Fr X Z (sf_p pc env (sf_rv v :: sf_rv o :: stk)) (sf_bnd (sf_pR ci k o v) g) land := by
  refine fr_ef (L1 := fun _ => sf_p (pc + 3) env stk) gr_pR (fun C σ _ σ' e _ kt H locs ls hH hL => ?_) (fun _ => kk)
  unfold sf_pR at e
  split at e
  next ho =>
    cases e
    obtain ⟨a, n, rfl, ha⟩ := sf_isO_spec ho q.1
    refine w_put C q hk hl (hfin.imp id fun h => ⟨h.1, C.2.2.2.2.2.2.2.2.2.2.1.trans h.2.1, h.2.2⟩) (w := sf_cv (sf_XG X) (sf_rv v)) ?_ ?_ hd ha (σ' := (σ.1, σ.2.1, σ.2.2.1, sf_u2 σ.2.2.2 a k v)) rfl (fun i hi => ⟨rfl, rfl, sf_u2_ne hi⟩) (by rw [sf_fv, if_pos hf, sf_cv_rv]; exact congrArg _ (congrArg _ sf_u2_eq)) (fun j hj => by
      simp only [sf_fv]
      by_cases hfj : sf_fr ci j = true
      · rw [if_pos hfj, if_pos hfj]; exact congrArg _ (congrArg _ (sf_u2_nk hj))
      · rw [if_neg hfj, if_neg hfj]) hH (fun H1 locs1 h1 => kt H1 locs1 ls h1 hL)
    · rcases hZ with ⟨n, hz⟩ | ⟨t, hz⟩ <;> rw [hz] <;> cases v <;> rfl
    · rcases hZ with ⟨n, hz⟩ | ⟨t, hz⟩ <;> rw [hz] <;> cases v <;> rfl
  next => cases e
end FRH
