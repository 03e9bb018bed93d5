/-! New cells, copies, constants of static rows; a method's contract, calls, ends. -/
section FRN
variable {X : sf_X} {Z : sf_Z} {env : List (Option Value)} {stk : List Value} {pc : Nat} {ρ : Type} {land : ρ → sf_L}
theorem sf_sn_mk (k n : Nat) (σ : sf_St) : sf_sn (sf_mk k n σ) = sf_sn σ + n := by simp [sf_sn, sf_mk]
theorem sf_cn_mk (k n : Nat) (σ : sf_St) : sf_cn (sf_mk k n σ) = sf_cn σ + 1 := by simp [sf_cn, sf_mk]
theorem gr_mkO {ci N : Nat} : sf_Gr (sf_new ci N) := fun σ r σ' h => by cases h; exact ⟨[(10 + ci, N)], rfl⟩
theorem gr_mkA {ty : Nat} {n : Int32} : sf_Gr (sf_newA ty n) := fun σ r σ' h => by
  unfold sf_newA at h; split at h <;> cases h; exact ⟨[(ty, sf_ix n)], rfl⟩
theorem sf_u1_ne {α : Type} {f : Nat → Nat → α} {a i : Nat} {g : Nat → α} (h : i ≠ a) : sf_u1 f a g i = f i := by simp [sf_u1, h]
theorem sf_u1_eq {α : Type} {f : Nat → Nat → α} {a : Nat} {g : Nat → α} : sf_u1 f a g a = g := by simp [sf_u1]
theorem sf_HH.made {σ : sf_St} {H H1 : Heap} {locs : List Loc} {k n : Nat} (h : sf_HH X σ H locs) (hz : H1.size = H.size + 1) (hq : ∀ q : Nat, q < H.size → H1[q]? = H[q]?) (hat : sf_at (sf_XG X) (sf_mk k n σ) H1 σ.1.length k n) : sf_HH X (sf_mk k n σ) H1 locs := by
  refine ⟨⟨?_, fun q hl => ?_, fun i k2 n2 hi => ?_⟩, h.2.1, ?_, ?_⟩
  · rw [hz, h.1.1]; simp [sf_mk]; omega
  · rw [hq q (by rw [h.1.1]; omega)]; exact h.1.2.1 q hl
  · by_cases hi2 : i < σ.1.length
    · have hi3 : σ.1[i]? = some (k2, n2) := by
        rw [← hi]
        show _ = (σ.1 ++ [(k, n)])[i]?
        rw [List.getElem?_append_left hi2]
      have h1 := h.1.2.2 i k2 n2 hi3
      unfold sf_at at h1 ⊢
      rw [sf_ce_congr (σ := σ) (sf_u1_ne (by omega)) (sf_u1_ne (by omega)) (sf_u1_ne (by omega))]
      exact h1.kept (hq _ (by show sf_sz (sf_XG X) + i < _; rw [h.1.1]; omega))
    · have hi3 : (σ.1 ++ [(k, n)])[i]? = some (k2, n2) := hi
      rw [List.getElem?_append_right (by omega)] at hi3
      have hz2 : i - σ.1.length < 1 := (List.getElem?_eq_some_iff.mp hi3).1
      have e : i = σ.1.length := by omega
      subst e
      rw [Nat.sub_self] at hi3
      cases hi3
      exact hat
  · rw [sf_cn_mk]; have := h.2.2.1; omega
  · rw [sf_sn_mk]; have := h.2.2.2; omega
theorem fr_new {ci : Nat} {Cn : String} {T : u_T} {N : Nat} {ty0 : Nat → FieldType} (q : sf_Cl ci Cn T N ty0) {index : Nat} {g : Option Nat → sf_M ρ} (h1 : Cond.classLink Z.1 index Cn ∈ sf_TB) (h2 : Cond.instantiable Cn N ∈ sf_TB) (h3 : Cond.initialized Cn ∈ sf_TB) (hd : decode Z.2.1 pc = .ok (.new index, 3)) (kk : ∀ v, sf_Fr X Z (sf_p (pc + 3) env (sf_rv v :: stk)) (g v) land) : sf_Fr X Z (sf_p pc env stk) (sf_bnd (sf_new ci N) g) land := by
  refine fr_ef gr_mkO (fun C σ v σ' e hB kt H locs ls hH hL => ?_) kk
  cases e
  obtain ⟨hci, hc, hN, hus, hty, hnm, hsame, hdef⟩ := q
  have hKn := C.kk.1.1 ci _ hc
  unfold sf_Bd at hB
  rw [sf_cn_mk, sf_sn_mk] at hB
  have hc1 := hH.2.2.1
  have hc2 := hH.2.2.2
  refine W.newcK C.1 C.2.1 C.2.2.2.1 (C.hts h1) (C.hts h2) (C.hts h3) rfl hd (by omega) (by omega) hKn.2.1 rfl fun H1 kC hkC e1 z1 o1 => ?_
  have hk := kt H1 locs ls (hH.made z1 o1 ?_) hL
  · rw [sf_cn_mk, sf_sn_mk] at hk
    rw [show sf_cn σ + 1 - sf_Xk X = sf_cn σ - sf_Xk X + 1 by omega, show sf_sn σ + N - sf_Xj X = sf_sn σ - sf_Xj X + N by omega] at hk
    have hk2 : sf_W X H1 locs (sf_cn σ - sf_Xk X + 1) (sf_sn σ - sf_Xj X + N) (F0 (sf_Xm X) (pc + 3) ls (.ref (sf_sz (sf_XG X) + σ.1.length) :: stk.map (sf_cv (sf_XG X)))) := hk
    rw [← hH.1.1] at hk2
    exact hk2
  · unfold sf_at
    rw [sf_ce_obj, ← hH.1.1]
    refine ⟨_, hc, (u_born ty0 C.2.2.2.2.1 hus hKn hkC e1 hty).to fun j hj => ?_⟩
    rw [sf_vfs hN hj, sf_fv, hdef j hj]
    by_cases hr : sf_fr ci j = true
    · rw [if_pos hr, if_pos hr]
      simp [sf_mk, sf_u1_eq, sf_rr, va_rf]
    · rw [if_neg hr, if_neg hr]
      simp [sf_mk, sf_u1_eq]
/-- rows of numbers -/
theorem fr_newA {atype : ArrayType} {t : FieldType} {ty : Nat} {n : Int32} {g : Option Nat → sf_M ρ} (hw : Cond.arrayClass t ∈ sf_TB) (ht : newarray.typeOf atype = t) (hty : ∀ G, (sf_tys G)[ty]? = some (G.2.1 ty, t)) (h7 : ty < 4) (hb : componentBytes t ≤ 8) (hdef : ∀ (G : sf_G) (σ : sf_St) (m : Nat), arrV (G.2.1 ty) m (fun _ => defaultValue t) = vp_cell (G.2.1 ty) (m, if ty = 1 then .inr (.inl (fun _ => 0)) else .inl (fun _ => 0))) (hra : ∀ (U : State) (c : ClassId), va_RA U c t → U.vm.findClass ("[" ++ t.toString) = some c) (hd : decode Z.2.1 pc = .ok (.newarray atype, 2)) (kk : ∀ v, sf_Fr X Z (sf_p (pc + 2) env (sf_rv v :: stk)) (g v) land) : sf_Fr X Z (sf_p pc env (.int n :: stk)) (sf_bnd (sf_newA ty n) g) land := by
  refine fr_ef gr_mkA (fun C σ v σ' e hB kt H locs ls hH hL => ?_) kk
  unfold sf_newA at e
  split at e
  next hn =>
    cases e
    simp only [Bool.and_eq_true, decide_eq_true_eq] at hn
    unfold sf_Bd at hB
    rw [sf_cn_mk, sf_sn_mk] at hB
    have hc1 := hH.2.2.1
    have hc2 := hH.2.2.2
    have hx : sf_ix n < 65536 := by
      have : ((n.toInt.toNat : Nat) : Int) = n.toInt := by omega
      show n.toInt.toNat < 65536
      omega
    have hnn : ¬ n < 0 := fun q => by
      have := Int32.lt_iff_toInt_lt.mp q
      simp at this
      omega
    subst ht
    refine va_newaK C.1 C.2.1 (C.hts hw) rfl hd rfl hnn rfl (by show sf_ix n * _ ≤ _; exact Nat.le_trans (Nat.mul_le_mul (Nat.le_of_lt hx) hb) (by omega)) (by omega) (by show _ + sf_ix n ≤ _; omega) rfl fun H1 cA e1 z1 o1 _ hnm => ?_
    have hcA : cA = (sf_XG X).2.1 ty := Option.some.inj (hnm.symm.trans (hra _ _ (C.kk.1.2 ty _ (hty _)).2))
    subst hcA
    have hk := kt H1 locs ls (hH.made z1 o1 ?_) hL
    · rw [sf_cn_mk, sf_sn_mk] at hk
      rw [show sf_cn σ + 1 - sf_Xk X = sf_cn σ - sf_Xk X + 1 by omega, show sf_sn σ + sf_ix n - sf_Xj X = sf_sn σ - sf_Xj X + sf_ix n by omega] at hk
      have hk2 : sf_W X H1 locs (sf_cn σ - sf_Xk X + 1) (sf_sn σ - sf_Xj X + sf_ix n) (F0 (sf_Xm X) (pc + 2) ls (.ref (sf_sz (sf_XG X) + σ.1.length) :: stk.map (sf_cv (sf_XG X)))) := hk
      rw [← hH.1.1] at hk2
      exact hk2
    · unfold sf_at
      have e2 : sf_ce (sf_XG X) (sf_mk ty (sf_ix n) σ) σ.1.length ty (sf_ix n) = .inl ((sf_XG X).2.1 ty, sf_ix n, if ty = 1 then .inr (.inl (fun _ => 0)) else .inl (fun _ => 0)) := by
        unfold sf_ce
        rw [if_neg (by omega)]
        by_cases h1 : ty = 1
        · subst h1
          simp [sf_mk, sf_u1_eq]
        · rw [if_neg h1, if_neg (by omega), if_neg h1]
          simp [sf_mk, sf_u1_eq]
      rw [e2]
      show H1[_]? = some (vp_cell _ _)
      rw [← hdef (sf_XG X) σ, ← hH.1.1]
      exact e1
  next => cases e
/-- rows of references -/
theorem fr_newR {cn : String} {ty index : Nat} {n : Int32} {g : Option Nat → sf_M ρ} (hw : Cond.classLink Z.1 index cn ∈ sf_TB) (hao : ∀ G U, sf_KK G U → va_AO cn U) (hty : ∀ G, (sf_tys G)[ty]? = some (G.2.1 ty, .object cn)) (h4 : 4 ≤ ty) (h7 : ty < 7) (hd : decode Z.2.1 pc = .ok (.anewarray index, 3)) (kk : ∀ v, sf_Fr X Z (sf_p (pc + 3) env (sf_rv v :: stk)) (g v) land) : sf_Fr X Z (sf_p pc env (.int n :: stk)) (sf_bnd (sf_newA ty n) g) land := by
  refine fr_ef gr_mkA (fun C σ v σ' e hB kt H locs ls hH hL => ?_) kk
  unfold sf_newA at e
  split at e
  next hn =>
    cases e
    simp only [Bool.and_eq_true, decide_eq_true_eq] at hn
    unfold sf_Bd at hB
    rw [sf_cn_mk, sf_sn_mk] at hB
    have hc1 := hH.2.2.1
    have hc2 := hH.2.2.2
    have hx : sf_ix n < 65536 := by
      have : ((n.toInt.toNat : Nat) : Int) = n.toInt := by omega
      show n.toInt.toNat < 65536
      omega
    have hnn : ¬ n < 0 := fun q => by
      have := Int32.lt_iff_toInt_lt.mp q
      simp at this
      omega
    refine W.anew C.1 C.2.1 C.2.2.2.1 (C.hts hw) (va_AO.use (hao _ _ C.kk)) rfl hd rfl hnn (by show sf_ix n * 4 ≤ _; omega) (by omega) (by show _ + sf_ix n ≤ _; omega) fun cA kA comp f1 f2 f3 f4 => ?_
    have hcA : cA = (sf_XG X).2.1 ty := by
      obtain ⟨kA', comp', g1, g2, g3, g4⟩ := (C.kk.1.2 ty _ (hty _)).2
      exact Option.some.inj (f1.symm.trans g4)
    subst hcA
    generalize hH1 : H.push ({ cls := (sf_XG X).2.1 ty, slots := Array.replicate n.toNatClampNeg .null, vm := .none } : Cell) = H1
    have z1 : H1.size = H.size + 1 := by rw [← hH1, Array.size_push]
    have e1 : H1[H.size]? = some (arrV ((sf_XG X).2.1 ty) n.toNatClampNeg (fun _ => .null)) := by rw [← hH1, Array.getElem?_push_size, ← arrV_new]
    have o1 : ∀ q : Nat, q < H.size → H1[q]? = H[q]? := fun q hq => by rw [← hH1, Array.getElem?_push, if_neg (Nat.ne_of_lt hq)]
    have hk := kt H1 locs ls (hH.made z1 o1 ?_) hL
    · rw [sf_cn_mk, sf_sn_mk] at hk
      rw [show sf_cn σ + 1 - sf_Xk X = sf_cn σ - sf_Xk X + 1 by omega, show sf_sn σ + sf_ix n - sf_Xj X = sf_sn σ - sf_Xj X + sf_ix n by omega] at hk
      have hk2 : sf_W X H1 locs (sf_cn σ - sf_Xk X + 1) (sf_sn σ - sf_Xj X + sf_ix n) (F0 (sf_Xm X) (pc + 3) ls (.ref (sf_sz (sf_XG X) + σ.1.length) :: stk.map (sf_cv (sf_XG X)))) := hk
      rw [← hH.1.1] at hk2
      exact hk2
    · unfold sf_at
      rw [sf_ce_R _ _ _ _ h4 h7]
      show H1[_]? = some (vp_cell _ _)
      rw [vp_cell_q, ← hH.1.1, e1]
      simp [sf_mk, sf_u1_eq, sf_rr, va_rf, sf_ix]
  next => cases e
theorem sf_wd (G : sf_G) : ∀ (stk : List Value), stk.length ≤ 4 → ((stk.map (sf_cv G)).map fun v => v.category).sum ≤ 8 := by
  have key : ∀ stk : List Value, ((stk.map (sf_cv G)).map fun v => v.category).sum ≤ 2 * stk.length := by
    intro stk
    induction stk with
    | nil => simp
    | cons v l ih =>
      simp only [List.map_cons, List.sum_cons, List.length_cons]
      rcases lv_cat (sf_cv G v) with h | h <;> omega
  intro stk h
  have := key stk
  omega
theorem sf_cpI_spec {o q : Option Nat} {sp dp n : Int32} {σ σ' : sf_St} {u : Unit} (h : sf_cpI o sp q dp n σ = some (u, σ')) : ∃ a b n0 n1, o = some a ∧ q = some b ∧ σ.1[a]? = some (0, n0) ∧ σ.1[b]? = some (0, n1) ∧ 0 ≤ sp.toInt ∧ 0 ≤ dp.toInt ∧ 0 ≤ n.toInt ∧ sp.toInt + n.toInt ≤ n0 ∧ dp.toInt + n.toInt ≤ n1 ∧ σ' = (σ.1, sf_u1 σ.2.1 b (va_cpy (σ.2.1 a) (σ.2.1 b) (sf_ix sp) (sf_ix dp) (sf_ix n)), σ.2.2) := by
  unfold sf_cpI at h
  cases o with
  | none => cases h
  | some a =>
    cases q with
    | none => cases h
    | some b =>
      dsimp only at h
      split at h
      next hc =>
        cases h
        simp only [Bool.and_eq_true, beq_iff_eq, decide_eq_true_eq] at hc
        exact ⟨a, b, _, _, rfl, rfl, sf_sh_of hc.1 (by omega), sf_sh_of hc.2.1 (by omega), hc.2.2.1, hc.2.2.2.1, hc.2.2.2.2.1, hc.2.2.2.2.2.1, hc.2.2.2.2.2.2, rfl⟩
      next => cases h
theorem fr_cpI {o q : Option Nat} {sp dp n : Int32} {index : Nat} {g : Unit → sf_M ρ} (h1 : Cond.methodLink Z.1 index arraycopyName ∈ sf_TB) (h2 : Cond.native arraycopyName ∈ sf_TB) (h3 : Cond.static arraycopyName ∈ sf_TB) (h4 : Cond.initialized "java/lang/System" ∈ sf_TB) (hd1 : 1 ≤ Z.2.2.1) (hs : stk.length ≤ 4) (hd : decode Z.2.1 pc = .ok (.invokestatic index, 3)) (kk : sf_Fr X Z (sf_p (pc + 3) env stk) (g ()) land) : sf_Fr X Z (sf_p pc env (.int n :: .int dp :: sf_rv q :: .int sp :: sf_rv o :: stk)) (sf_bnd (sf_cpI o sp q dp n) g) land := by
  refine fr_ef (L1 := fun _ => sf_p (pc + 3) env stk) gr_cpI (fun C σ _ σ' e _ kt H locs ls hH hL => ?_) (fun _ => kk)
  obtain ⟨a0, a, n0, n1, rfl, rfl, g0, g1, i1, i2, i3, i4, i5, rfl⟩ := sf_cpI_spec e
  have hP0 := sf_one hH.1 g0 0 _ rfl
  have hP1 := sf_one hH.1 g1 0 _ rfl
  rw [sf_ce_I _ _ _ _ (Or.inl rfl)] at hP0 hP1
  have hwd := sf_wd (sf_XG X) stk hs
  have hf := C.2.2.2.2.2.2.2.2.1
  have hl0 := C.2.2.2.2.2.2.2.2.2.1
  have nn : ∀ z : Int32, 0 ≤ z.toInt → z.toInt = (z.toNatClampNeg : Int) := by
    intro z hz
    show z.toInt = ((z.toInt.toNat : Nat) : Int)
    omega
  have ng : ∀ z : Int32, 0 ≤ z.toInt → ¬ z < 0 := fun z hz q => by
    have := Int32.lt_iff_toInt_lt.mp q
    simp at this
    omega
  have e1 := nn sp i1
  have e2 := nn dp i2
  have e3 := nn n i3
  have hsp : sp.toNatClampNeg + n.toNatClampNeg ≤ n0 := by omega
  have hdp : dp.toNatClampNeg + n.toNatClampNeg ≤ n1 := by omega
  intro T hT XS
  have hc0 : H[sf_sz (sf_XG X) + a0]? = some (vp_cell ((sf_XG X).2.1 0) (n0, .inl (σ.2.1 a0))) := hP0
  have hc1 : H[sf_sz (sf_XG X) + a]? = some (vp_cell ((sf_XG X).2.1 0) (n1, .inl (σ.2.1 a))) := hP1
  obtain ⟨-, k0, hk0, cm0, hkk0⟩ := (C.kk.1.2 0 _ rfl).1 n0 (fun j => .int (σ.2.1 a0 j))
  obtain ⟨-, k1, hk1, cm1, hkk1⟩ := (C.kk.1.2 0 _ rfl).1 n1 (fun j => .int (σ.2.1 a j))
  obtain ⟨vm', X', step⟩ := XS.arraycopy C.1 C.2.2.2.1 (C.hts h1) (C.hts h2) (C.hts h3) (C.hts h4) (src := sf_sz (sf_XG X) + a0) (dst := sf_sz (sf_XG X) + a) (cs := vp_cell ((sf_XG X).2.1 0) (n0, .inl (σ.2.1 a0))) (cd := vp_cell ((sf_XG X).2.1 0) (n1, .inl (σ.2.1 a))) (srcPos := sp) (destPos := dp) (n := n) (by rw [hT]; exact hc0) (by rw [hT]; exact hc1)
    (fun _ h => by cases h) (fun _ h => by cases h) (fun h => by cases h) (fun h => by cases h) hk0 hk1 hkk0 hkk1 (by simp [refKind]) (ng sp i1) (ng dp i2) (ng n i3)
    (by show ¬ _ > ((arrV ((sf_XG X).2.1 0) n0 (fun j => .int (σ.2.1 a0 j))).slots.size : Int); rw [arrV_size]; omega)
    (by show ¬ _ > ((arrV ((sf_XG X).2.1 0) n1 (fun j => .int (σ.2.1 a j))).slots.size : Int); rw [arrV_size]; omega)
    (fun vm₁ _ i hi => by
      have e : (vp_cell ((sf_XG X).2.1 0) (n0, .inl (σ.2.1 a0))).slots.getD (sp.toNatClampNeg + i) .null = .int (σ.2.1 a0 (sp.toNatClampNeg + i)) := by
        show (arrV ((sf_XG X).2.1 0) n0 (fun j => .int (σ.2.1 a0 j))).slots.getD _ _ = _
        rw [Array.getD_eq_getD_getElem?, arrV_read _ _ (by omega)]
        rfl
      refine ⟨?_, ?_⟩
      · rw [e]; rfl
      · rw [e]; exact trivial)
    (g := F0 (sf_Xm X) pc ls (.int n :: .int dp :: .ref (sf_sz (sf_XG X) + a) :: .int sp :: .ref (sf_sz (sf_XG X) + a0) :: stk.map (sf_cv (sf_XG X)))) rfl (by rw [C.2.2.1]; exact hL.1) (rest := stk.map (sf_cv (sf_XG X))) rfl (by rw [C.2.1]; exact hd) (by show 1 ≤ (sf_XR X).frames; omega) (by
      have hnw : nativeFrameWords "java/lang/System" "arraycopy" 5 ≤ 30 := by decide
      show 2 * 0 + _ + _ ≤ (sf_XR X).locals; omega)
  have e9 : copied (vp_cell ((sf_XG X).2.1 0) (n0, .inl (σ.2.1 a0))) (vp_cell ((sf_XG X).2.1 0) (n1, .inl (σ.2.1 a))) sp dp n = vp_cell ((sf_XG X).2.1 0) (n1, .inl (va_cpy (σ.2.1 a0) (σ.2.1 a) sp.toNatClampNeg dp.toNatClampNeg n.toNatClampNeg)) := va_copied (fun z => .int z) _ _ (σ.2.1 a0) (σ.2.1 a) hsp
  rw [e9] at X' step
  have hl : sf_sz (sf_XG X) + a < H.size := (Array.getElem?_eq_some_iff.mp hc1).1
  generalize hnew : vp_cell ((sf_XG X).2.1 0) (n1, .inl (va_cpy (σ.2.1 a0) (σ.2.1 a) sp.toNatClampNeg dp.toNatClampNeg n.toNatClampNeg)) = cN at X' step
  have hheap : ((T.setVm vm').setCell (sf_sz (sf_XG X) + a) cN).heap = H.setIfInBounds (sf_sz (sf_XG X) + a) cN := by rw [← hT]; rfl
  have oq : ∀ q : Nat, q ≠ sf_sz (sf_XG X) + a → (H.setIfInBounds (sf_sz (sf_XG X) + a) cN)[q]? = H[q]? := fun q hq => by simp [Array.getElem?_setIfInBounds, Ne.symm hq]
  have hR := hH.1.upd (σ' := (σ.1, sf_u1 σ.2.1 a (va_cpy (σ.2.1 a0) (σ.2.1 a) (sf_ix sp) (sf_ix dp) (sf_ix n)), σ.2.2)) (H1 := H.setIfInBounds (sf_sz (sf_XG X) + a) cN) rfl (fun i hi => ⟨sf_u1_ne hi, rfl, rfl⟩) (by simp) oq (fun k2 n2 hk2 => by
    cases g1.symm.trans hk2
    unfold sf_at
    rw [sf_ce_I _ _ _ _ (Or.inl rfl)]
    show (H.setIfInBounds (sf_sz (sf_XG X) + a) cN)[_]? = some (vp_cell _ _)
    rw [← hnew]
    simp [Array.getElem?_setIfInBounds, hl, sf_u1_eq, sf_ix])
  obtain ⟨t, a1, b1⟩ := kt _ _ ls ⟨hR, fun q hq => by
      rcases List.mem_append.mp hq with h | h
      · exact hH.2.1 q h
      · obtain ⟨z, -, hz⟩ := List.mem_map.mp h
        rw [← hz]
        exact Nat.le_add_right _ _, hH.2.2.1, hH.2.2.2⟩ hL _ hheap X'
  exact ⟨t, step t a1, b1⟩
end FRN
