/-! One instruction, one row: what does nothing to the state. -/
theorem sf_el_mem {G : sf_G} {env : List (Option Value)} {i : Nat} {v : Value} (h : env[i]? = some (some v)) : (i, sf_cv G v) ∈ sf_el G env := by
  refine List.mem_filterMap.mpr ⟨(some v, i), ?_, rfl⟩
  exact List.mem_zipIdx_iff_getElem?.mpr h
theorem sf_el_of {G : sf_G} {env : List (Option Value)} {q : Nat × Value} (h : q ∈ sf_el G env) : ∃ v, env[q.1]? = some (some v) ∧ q.2 = sf_cv G v := by
  obtain ⟨p, hp, he⟩ := List.mem_filterMap.mp h
  obtain ⟨w, i⟩ := p
  have h1 := List.mem_zipIdx_iff_getElem?.mp hp
  cases w with
  | none => cases he
  | some v => cases he; exact ⟨v, h1, rfl⟩
theorem lv_less {ls : Array Slot} {nL : Nat} {l l' : List (Nat × Value)} (h : lv_has ls nL l) (hs : ∀ q ∈ l', q ∈ l) : lv_has ls nL l' := ⟨h.1, h.2.1, fun q hq => h.2.2 q (hs q hq)⟩
/-- what stands below place i is no long -/
def sf_c1 (G : sf_G) (env : List (Option Value)) (i : Nat) : Prop := ∀ j v, j + 1 = i → env[j]? = some (some v) → ¬ (sf_cv G v).category = 2
theorem c1_z {G : sf_G} {env : List (Option Value)} : sf_c1 G env 0 := fun j v h => by omega
theorem c1_n {G : sf_G} {env : List (Option Value)} {j : Nat} (h : env[j]? = some none) : sf_c1 G env (j + 1) := fun j' v e h2 => by
  cases (show j' = j by omega)
  rw [h] at h2; cases h2
theorem c1_v {G : sf_G} {env : List (Option Value)} {j : Nat} {w : Value} (h : env[j]? = some (some w)) (hw : ¬ (sf_cv G w).category = 2) : sf_c1 G env (j + 1) := fun j' v e h2 => by
  cases (show j' = j by omega)
  rw [h] at h2; cases h2; exact hw
theorem c1_i {G : sf_G} {env : List (Option Value)} {j : Nat} {x : Int32} (h : env[j]? = some (some (.int x))) : sf_c1 G env (j + 1) := c1_v h (by simp [sf_cv, Value.category])
theorem c1_r {G : sf_G} {env : List (Option Value)} {j : Nat} {r : Option Nat} (h : env[j]? = some (some (sf_rv r))) : sf_c1 G env (j + 1) := c1_v h (by cases r <;> simp [sf_rv, va_rf, sf_cv, Value.category])
theorem c1_s {G : sf_G} {env : List (Option Value)} {j : Nat} {x : UInt32} (h : env[j]? = some (some (.float x))) : sf_c1 G env (j + 1) := c1_v h (by simp [sf_cv, Value.category])
theorem sf_store1 {G : sf_G} {ls : Array Slot} {nL i : Nat} {env : List (Option Value)} {v : Value} (hc : sf_c1 G env i)
    (h : lv_has ls nL ((i, sf_cv G v) :: (sf_el G env).filter (fun q => !(q.1 == i) && !(q.1 + 1 == i && q.2.category == 2)))) : lv_has ls nL (sf_el G (env.set i (some v))) := by
  refine lv_less h fun q hq => ?_
  obtain ⟨w, h1, h2⟩ := sf_el_of hq
  obtain ⟨j, x⟩ := q
  dsimp only at h1 h2
  by_cases hj : j = i
  · subst hj
    have hl : j < env.length := by
      have := (List.getElem?_eq_some_iff.mp h1).1
      simpa using this
    rw [List.getElem?_set_self hl] at h1
    cases h1
    rw [h2]
    exact List.mem_cons_self
  · rw [List.getElem?_set_ne (Ne.symm hj)] at h1
    refine List.mem_cons_of_mem _ (List.mem_filter.mpr ⟨by rw [h2]; exact sf_el_mem h1, ?_⟩)
    have h3 : ¬ (j + 1 = i ∧ x.category = 2) := fun z => hc j w z.1 h1 (by rw [← h2]; exact z.2)
    simp [hj]
    by_cases z : j + 1 = i
    · exact Or.inr (fun z2 => h3 ⟨z, z2⟩)
    · exact Or.inl z
theorem sf_store2 {G : sf_G} {ls : Array Slot} {nL i : Nat} {env : List (Option Value)} {x : Int64} (hc : sf_c1 G env i)
    (h : lv_has ls nL ((i, Value.long x) :: (sf_el G env).filter (fun q => !(q.1 == i) && (!(q.1 == i + 1) && !(q.1 + 1 == i && q.2.category == 2))))) : lv_has ls nL (sf_el G ((env.set i (some (.long x))).set (i + 1) none)) := by
  refine lv_less h fun q hq => ?_
  obtain ⟨w, h1, h2⟩ := sf_el_of hq
  obtain ⟨j, y⟩ := q
  dsimp only at h1 h2
  by_cases hk : j = i + 1
  · subst hk
    have hl : i + 1 < (env.set i (some (Value.long x))).length := by
      have := (List.getElem?_eq_some_iff.mp h1).1
      simpa using this
    rw [List.getElem?_set_self hl] at h1
    cases h1
  rw [List.getElem?_set_ne (Ne.symm hk)] at h1
  by_cases hj : j = i
  · subst hj
    have hl : j < env.length := by
      have := (List.getElem?_eq_some_iff.mp h1).1
      simpa using this
    rw [List.getElem?_set_self hl] at h1
    cases h1
    rw [h2]
    exact List.mem_cons_self
  · rw [List.getElem?_set_ne (Ne.symm hj)] at h1
    refine List.mem_cons_of_mem _ (List.mem_filter.mpr ⟨by rw [h2]; exact sf_el_mem h1, ?_⟩)
    have h3 : ¬ (j + 1 = i ∧ y.category = 2) := fun z => hc j w z.1 h1 (by rw [← h2]; exact z.2)
    simp [hj, hk]
    by_cases z : j + 1 = i
    · exact Or.inr (fun z2 => h3 ⟨z, z2⟩)
    · exact Or.inl z
/-- fewer known locals -/
def sf_wk : List Bool → List (Option Value) → List (Option Value)
  | true :: m, v :: l => v :: sf_wk m l
  | false :: m, _ :: l => none :: sf_wk m l
  | _, l => l.map fun _ => none
theorem sf_wk_get : ∀ (m : List Bool) (env : List (Option Value)) (i : Nat) (v : Value), (sf_wk m env)[i]? = some (some v) → env[i]? = some (some v)
  | true :: m, w :: l, 0, v, h => h
  | true :: m, w :: l, i + 1, v, h => sf_wk_get m l i v h
  | false :: m, w :: l, 0, v, h => by cases h
  | false :: m, w :: l, i + 1, v, h => sf_wk_get m l i v h
  | [], l, i, v, h => by
    simp only [sf_wk, List.getElem?_map] at h
    cases hl : l[i]? <;> rw [hl] at h <;> cases h
  | true :: m, [], i, v, h => by simp [sf_wk] at h
  | false :: m, [], i, v, h => by simp [sf_wk] at h
section ATP
variable {X : sf_X} {Z : sf_Z} {σ : sf_St} {env : List (Option Value)} {stk : List Value} {pc : Nat}
theorem at_wk (ms : List Bool) (k : sf_At X σ (sf_wk ms env) stk pc) : sf_At X σ env stk pc := fun H locs ls hH hl => k H locs ls hH (lv_less hl fun q hq => by
  obtain ⟨w, h1, h2⟩ := sf_el_of hq
  obtain ⟨j, x⟩ := q
  dsimp only at h1 h2
  rw [h2]
  exact sf_el_mem (sf_wk_get _ _ _ _ h1))
theorem at_iconst (C : sf_Cx X Z) {n : Int} {v : Int32} (hd : decode Z.2.1 pc = .ok (.iconst n, 1)) (hv : Int32.ofInt n = v) (k : sf_At X σ env (.int v :: stk) (pc + 1)) : sf_At X σ env (stk) pc := fun H locs ls hH hl => lv_iconst C.1 C.2.1 hd hv (k H locs ls hH hl)
theorem at_bipush (C : sf_Cx X Z) {n : Int} {v : Int32} (hd : decode Z.2.1 pc = .ok (.bipush n, 2)) (hv : (Int8.ofInt n).toInt32 = v) (k : sf_At X σ env (.int v :: stk) (pc + 2)) : sf_At X σ env (stk) pc := fun H locs ls hH hl => lv_bipush C.1 C.2.1 hd hv (k H locs ls hH hl)
theorem at_sipush (C : sf_Cx X Z) {n : Int} {v : Int32} (hd : decode Z.2.1 pc = .ok (.sipush n, 3)) (hv : (Int16.ofInt n).toInt32 = v) (k : sf_At X σ env (.int v :: stk) (pc + 3)) : sf_At X σ env (stk) pc := fun H locs ls hH hl => lv_sipush C.1 C.2.1 hd hv (k H locs ls hH hl)
theorem at_lconst (C : sf_Cx X Z) {n : Fin 2} {v : Int64} (hd : decode Z.2.1 pc = .ok (.lconst n, 1)) (hv : Int64.ofNat (n : Nat) = v) (k : sf_At X σ env (.long v :: stk) (pc + 1)) : sf_At X σ env (stk) pc := fun H locs ls hH hl => lv_lconst C.1 C.2.1 hd hv (k H locs ls hH hl)
theorem at_ldc (C : sf_Cx X Z) {index : Nat} {v : Int32} (hd : decode Z.2.1 pc = .ok (.ldc index, 2)) (hw : Jvm.Cond.constant Z.1 index v ∈ sf_TB) (k : sf_At X σ env (.int v :: stk) (pc + 2)) : sf_At X σ env (stk) pc := fun H locs ls hH hl => lv_ldc C.1 C.2.1 C.2.2.2.1 (C.2.2.2.2.1 _ hw) hd (k H locs ls hH hl)
theorem at_ldcw (C : sf_Cx X Z) {index : Nat} {v : Int32} (hd : decode Z.2.1 pc = .ok (.ldc_w index, 3)) (hw : Jvm.Cond.constant Z.1 index v ∈ sf_TB) (k : sf_At X σ env (.int v :: stk) (pc + 3)) : sf_At X σ env (stk) pc := fun H locs ls hH hl => lv_ldcw C.1 C.2.1 C.2.2.2.1 (C.2.2.2.2.1 _ hw) hd (k H locs ls hH hl)
theorem at_ldc2 (C : sf_Cx X Z) {index : Nat} {v : Int64} (hd : decode Z.2.1 pc = .ok (.ldc2_w index, 3)) (hw : Jvm.Cond.constantLong Z.1 index v ∈ sf_TB) (k : sf_At X σ env (.long v :: stk) (pc + 3)) : sf_At X σ env (stk) pc := fun H locs ls hH hl => lv_ldc2 C.1 C.2.1 C.2.2.2.1 (C.2.2.2.2.1 _ hw) hd (k H locs ls hH hl)
theorem at_null (C : sf_Cx X Z)  (hd : decode Z.2.1 pc = .ok (.aconst_null, 1)) (k : sf_At X σ env (sf_rv none :: stk) (pc + 1)) : sf_At X σ env (stk) pc := fun H locs ls hH hl => lv_null C.1 C.2.1 hd (k H locs ls hH hl)
theorem at_iload_n (C : sf_Cx X Z) {q : Fin 4} {i : Nat} {x : Int32} (hd : decode Z.2.1 pc = .ok (.iload_n q, 1)) (hi : (q : Nat) = i) (he : env[i]? = some (some (.int x))) (k : sf_At X σ env (.int x :: stk) (pc + 1)) : sf_At X σ env stk pc := fun H locs ls hH hl => lv_iload_n C.1 C.2.1 hd hi (hl.2.2 _ (sf_el_mem he)) (k H locs ls hH hl)
theorem at_iload (C : sf_Cx X Z) {i : Nat} {x : Int32} (hd : decode Z.2.1 pc = .ok (.iload i, 2)) (he : env[i]? = some (some (.int x))) (k : sf_At X σ env (.int x :: stk) (pc + 2)) : sf_At X σ env stk pc := fun H locs ls hH hl => lv_iload C.1 C.2.1 hd (hl.2.2 _ (sf_el_mem he)) (k H locs ls hH hl)
theorem at_lload_n (C : sf_Cx X Z) {q : Fin 4} {i : Nat} {x : Int64} (hd : decode Z.2.1 pc = .ok (.lload_n q, 1)) (hi : (q : Nat) = i) (he : env[i]? = some (some (.long x))) (k : sf_At X σ env (.long x :: stk) (pc + 1)) : sf_At X σ env stk pc := fun H locs ls hH hl => lv_lload_n C.1 C.2.1 hd hi (hl.2.2 _ (sf_el_mem he)) (k H locs ls hH hl)
theorem at_lload (C : sf_Cx X Z) {i : Nat} {x : Int64} (hd : decode Z.2.1 pc = .ok (.lload i, 2)) (he : env[i]? = some (some (.long x))) (k : sf_At X σ env (.long x :: stk) (pc + 2)) : sf_At X σ env stk pc := fun H locs ls hH hl => lv_lload C.1 C.2.1 hd (hl.2.2 _ (sf_el_mem he)) (k H locs ls hH hl)
theorem at_aload_n (C : sf_Cx X Z) {q : Fin 4} {i : Nat} {r : Option Nat} (hd : decode Z.2.1 pc = .ok (.aload_n q, 1)) (hi : (q : Nat) = i) (he : env[i]? = some (some (sf_rv r))) (k : sf_At X σ env (sf_rv r :: stk) (pc + 1)) : sf_At X σ env stk pc := fun H locs ls hH hl => by
  have h1 := hl.2.2 _ (sf_el_mem (G := sf_XG X) he)
  have h2 := k H locs ls hH hl
  cases r with
  | none => exact lv_aload_nN C.1 C.2.1 hd hi h1 h2
  | some a => exact lv_aload_n C.1 C.2.1 hd hi h1 h2
theorem at_aload (C : sf_Cx X Z) {i : Nat} {r : Option Nat} (hd : decode Z.2.1 pc = .ok (.aload i, 2)) (he : env[i]? = some (some (sf_rv r))) (k : sf_At X σ env (sf_rv r :: stk) (pc + 2)) : sf_At X σ env stk pc := fun H locs ls hH hl => by
  have h1 := hl.2.2 _ (sf_el_mem (G := sf_XG X) he)
  have h2 := k H locs ls hH hl
  cases r with
  | none => exact lv_aloadN C.1 C.2.1 hd h1 h2
  | some a => exact lv_aload C.1 C.2.1 hd h1 h2
theorem at_aload_ns (C : sf_Cx X Z) {q : Fin 4} {i : Nat} {x : UInt32} (hd : decode Z.2.1 pc = .ok (.aload_n q, 1)) (hi : (q : Nat) = i) (he : env[i]? = some (some (.float x))) (k : sf_At X σ env (.float x :: stk) (pc + 1)) : sf_At X σ env stk pc := fun H locs ls hH hl => lv_aload_n C.1 C.2.1 hd hi (hl.2.2 _ (sf_el_mem he)) (k H locs ls hH hl)
theorem at_aload_s (C : sf_Cx X Z) {i : Nat} {x : UInt32} (hd : decode Z.2.1 pc = .ok (.aload i, 2)) (he : env[i]? = some (some (.float x))) (k : sf_At X σ env (.float x :: stk) (pc + 2)) : sf_At X σ env stk pc := fun H locs ls hH hl => lv_aload C.1 C.2.1 hd (hl.2.2 _ (sf_el_mem he)) (k H locs ls hH hl)
theorem at_istore_n (C : sf_Cx X Z) {q : Fin 4} {i : Nat} {x : Int32} (hd : decode Z.2.1 pc = .ok (.istore_n q, 1)) (hi : (q : Nat) = i) (hn : i < sf_Xn X) (hc : sf_c1 (sf_XG X) env i) (k : sf_At X σ (env.set i (some (.int x))) stk (pc + 1)) : sf_At X σ env (.int x :: stk) pc := fun H locs ls hH hl => lv_istore_n C.1 C.2.1 hd hi hl hn rfl fun ls' h' => k H locs ls' hH (sf_store1 hc h')
theorem at_istore (C : sf_Cx X Z) {i : Nat} {x : Int32} (hd : decode Z.2.1 pc = .ok (.istore i, 2)) (hn : i < sf_Xn X) (hc : sf_c1 (sf_XG X) env i) (k : sf_At X σ (env.set i (some (.int x))) stk (pc + 2)) : sf_At X σ env (.int x :: stk) pc := fun H locs ls hH hl => lv_istore C.1 C.2.1 hd hl hn rfl fun ls' h' => k H locs ls' hH (sf_store1 hc h')
theorem at_lstore_n (C : sf_Cx X Z) {q : Fin 4} {i : Nat} {x : Int64} (hd : decode Z.2.1 pc = .ok (.lstore_n q, 1)) (hi : (q : Nat) = i) (hn : i + 1 < sf_Xn X) (hc : sf_c1 (sf_XG X) env i) (k : sf_At X σ ((env.set i (some (.long x))).set (i + 1) none) stk (pc + 1)) : sf_At X σ env (.long x :: stk) pc := fun H locs ls hH hl => lv_lstore_n C.1 C.2.1 hd hi hl hn rfl fun ls' h' => k H locs ls' hH (sf_store2 hc h')
theorem at_lstore (C : sf_Cx X Z) {i : Nat} {x : Int64} (hd : decode Z.2.1 pc = .ok (.lstore i, 2)) (hn : i + 1 < sf_Xn X) (hc : sf_c1 (sf_XG X) env i) (k : sf_At X σ ((env.set i (some (.long x))).set (i + 1) none) stk (pc + 2)) : sf_At X σ env (.long x :: stk) pc := fun H locs ls hH hl => lv_lstore C.1 C.2.1 hd hl hn rfl fun ls' h' => k H locs ls' hH (sf_store2 hc h')
theorem at_astore_n (C : sf_Cx X Z) {q : Fin 4} {i : Nat} {r : Option Nat} (hd : decode Z.2.1 pc = .ok (.astore_n q, 1)) (hi : (q : Nat) = i) (hn : i < sf_Xn X) (hc : sf_c1 (sf_XG X) env i) (k : sf_At X σ (env.set i (some (sf_rv r))) stk (pc + 1)) : sf_At X σ env (sf_rv r :: stk) pc := fun H locs ls hH hl => by
  cases r with
  | none => exact lv_astore_nN C.1 C.2.1 hd hi hl hn rfl fun ls' h' => k H locs ls' hH (sf_store1 hc h')
  | some a => exact lv_astore_n C.1 C.2.1 hd hi hl hn rfl fun ls' h' => k H locs ls' hH (sf_store1 hc h')
theorem at_astore (C : sf_Cx X Z) {i : Nat} {r : Option Nat} (hd : decode Z.2.1 pc = .ok (.astore i, 2)) (hn : i < sf_Xn X) (hc : sf_c1 (sf_XG X) env i) (k : sf_At X σ (env.set i (some (sf_rv r))) stk (pc + 2)) : sf_At X σ env (sf_rv r :: stk) pc := fun H locs ls hH hl => by
  cases r with
  | none => exact lv_astoreN C.1 C.2.1 hd hl hn rfl fun ls' h' => k H locs ls' hH (sf_store1 hc h')
  | some a => exact lv_astore C.1 C.2.1 hd hl hn rfl fun ls' h' => k H locs ls' hH (sf_store1 hc h')
theorem at_astore_s (C : sf_Cx X Z) {i : Nat} {x : UInt32} (hd : decode Z.2.1 pc = .ok (.astore i, 2)) (hn : i < sf_Xn X) (hc : sf_c1 (sf_XG X) env i) (k : sf_At X σ (env.set i (some (.float x))) stk (pc + 2)) : sf_At X σ env (.float x :: stk) pc := fun H locs ls hH hl => lv_astore C.1 C.2.1 hd hl hn rfl fun ls' h' => k H locs ls' hH (sf_store1 (v := .float x) hc h')
theorem at_iinc (C : sf_Cx X Z) {i : Nat} {n : Int} {x v : Int32} (hd : decode Z.2.1 pc = .ok (.iinc i n, 3)) (he : env[i]? = some (some (.int x))) (hv : x + Int32.ofInt n = v) (hn : i < sf_Xn X) (hc : sf_c1 (sf_XG X) env i) (k : sf_At X σ (env.set i (some (.int v))) stk (pc + 3)) : sf_At X σ env stk pc := fun H locs ls hH hl => by
  obtain ⟨q, hq⟩ := List.getElem?_of_mem (sf_el_mem (G := sf_XG X) he)
  exact lv_iinc C.1 C.2.1 hd hl hq hv hn rfl fun ls' h' => k H locs ls' hH (sf_store1 (v := .int v) hc h')
theorem at_iadd (C : sf_Cx X Z) {x y : Int32} (hd : decode Z.2.1 pc = .ok (.iadd, 1)) (k : sf_At X σ env (.int (x + y) :: stk) (pc + 1)) : sf_At X σ env (.int y :: .int x :: stk) pc := fun H locs ls hH hl => lv_iadd C.1 C.2.1 hd (k H locs ls hH hl)
theorem at_isub (C : sf_Cx X Z) {x y : Int32} (hd : decode Z.2.1 pc = .ok (.isub, 1)) (k : sf_At X σ env (.int (x - y) :: stk) (pc + 1)) : sf_At X σ env (.int y :: .int x :: stk) pc := fun H locs ls hH hl => lv_isub C.1 C.2.1 hd (k H locs ls hH hl)
theorem at_imul (C : sf_Cx X Z) {x y : Int32} (hd : decode Z.2.1 pc = .ok (.imul, 1)) (k : sf_At X σ env (.int (x * y) :: stk) (pc + 1)) : sf_At X σ env (.int y :: .int x :: stk) pc := fun H locs ls hH hl => lv_imul C.1 C.2.1 hd (k H locs ls hH hl)
theorem at_iand (C : sf_Cx X Z) {x y : Int32} (hd : decode Z.2.1 pc = .ok (.iand, 1)) (k : sf_At X σ env (.int (x &&& y) :: stk) (pc + 1)) : sf_At X σ env (.int y :: .int x :: stk) pc := fun H locs ls hH hl => lv_iand C.1 C.2.1 hd (k H locs ls hH hl)
theorem at_ior (C : sf_Cx X Z) {x y : Int32} (hd : decode Z.2.1 pc = .ok (.ior, 1)) (k : sf_At X σ env (.int (x ||| y) :: stk) (pc + 1)) : sf_At X σ env (.int y :: .int x :: stk) pc := fun H locs ls hH hl => lv_ior C.1 C.2.1 hd (k H locs ls hH hl)
theorem at_ixor (C : sf_Cx X Z) {x y : Int32} (hd : decode Z.2.1 pc = .ok (.ixor, 1)) (k : sf_At X σ env (.int (x ^^^ y) :: stk) (pc + 1)) : sf_At X σ env (.int y :: .int x :: stk) pc := fun H locs ls hH hl => lv_ixor C.1 C.2.1 hd (k H locs ls hH hl)
theorem at_ishl (C : sf_Cx X Z) {x y : Int32} (hd : decode Z.2.1 pc = .ok (.ishl, 1)) (k : sf_At X σ env (.int (x <<< (y &&& 31)) :: stk) (pc + 1)) : sf_At X σ env (.int y :: .int x :: stk) pc := fun H locs ls hH hl => lv_ishl C.1 C.2.1 hd (k H locs ls hH hl)
theorem at_ishr (C : sf_Cx X Z) {x y : Int32} (hd : decode Z.2.1 pc = .ok (.ishr, 1)) (k : sf_At X σ env (.int (x >>> (y &&& 31)) :: stk) (pc + 1)) : sf_At X σ env (.int y :: .int x :: stk) pc := fun H locs ls hH hl => lv_ishr C.1 C.2.1 hd (k H locs ls hH hl)
theorem at_iushr (C : sf_Cx X Z) {x y : Int32} (hd : decode Z.2.1 pc = .ok (.iushr, 1)) (k : sf_At X σ env (.int ((x.toUInt32 >>> (y.toUInt32 &&& Int32.toUInt32 31)).toInt32) :: stk) (pc + 1)) : sf_At X σ env (.int y :: .int x :: stk) pc := fun H locs ls hH hl => lv_iushr C.1 C.2.1 hd rfl (k H locs ls hH hl)
theorem at_ineg (C : sf_Cx X Z) {x : Int32} (hd : decode Z.2.1 pc = .ok (.ineg, 1)) (k : sf_At X σ env (.int (-x) :: stk) (pc + 1)) : sf_At X σ env (.int x :: stk) pc := fun H locs ls hH hl => lv_ineg C.1 C.2.1 hd (k H locs ls hH hl)
theorem at_ladd (C : sf_Cx X Z) {x y : Int64} (hd : decode Z.2.1 pc = .ok (.ladd, 1)) (k : sf_At X σ env (.long (x + y) :: stk) (pc + 1)) : sf_At X σ env (.long y :: .long x :: stk) pc := fun H locs ls hH hl => lv_ladd C.1 C.2.1 hd (k H locs ls hH hl)
theorem at_lsub (C : sf_Cx X Z) {x y : Int64} (hd : decode Z.2.1 pc = .ok (.lsub, 1)) (k : sf_At X σ env (.long (x - y) :: stk) (pc + 1)) : sf_At X σ env (.long y :: .long x :: stk) pc := fun H locs ls hH hl => lv_lsub C.1 C.2.1 hd (k H locs ls hH hl)
theorem at_lmul (C : sf_Cx X Z) {x y : Int64} (hd : decode Z.2.1 pc = .ok (.lmul, 1)) (k : sf_At X σ env (.long (x * y) :: stk) (pc + 1)) : sf_At X σ env (.long y :: .long x :: stk) pc := fun H locs ls hH hl => lv_lmul C.1 C.2.1 hd (k H locs ls hH hl)
theorem at_lcmp (C : sf_Cx X Z) {x y : Int64} (hd : decode Z.2.1 pc = .ok (.lcmp, 1)) (k : sf_At X σ env (.int (lg_cmp x y) :: stk) (pc + 1)) : sf_At X σ env (.long y :: .long x :: stk) pc := fun H locs ls hH hl => W.lcmp C.1 C.2.1 hd (k H locs ls hH hl)
theorem at_i2l (C : sf_Cx X Z) {x : Int32} (hd : decode Z.2.1 pc = .ok (.i2l, 1)) (k : sf_At X σ env (.long x.toInt64 :: stk) (pc + 1)) : sf_At X σ env (.int x :: stk) pc := fun H locs ls hH hl => lv_i2l C.1 C.2.1 hd rfl (k H locs ls hH hl)
theorem at_l2i (C : sf_Cx X Z) {x : Int64} (hd : decode Z.2.1 pc = .ok (.l2i, 1)) (k : sf_At X σ env (.int x.toInt32 :: stk) (pc + 1)) : sf_At X σ env (.long x :: stk) pc := fun H locs ls hH hl => lv_l2i C.1 C.2.1 hd rfl (k H locs ls hH hl)
theorem at_i2b (C : sf_Cx X Z) {x : Int32} (hd : decode Z.2.1 pc = .ok (.i2b, 1)) (k : sf_At X σ env (.int x.toInt8.toInt32 :: stk) (pc + 1)) : sf_At X σ env (.int x :: stk) pc := fun H locs ls hH hl => lv_i2b C.1 C.2.1 hd rfl (k H locs ls hH hl)
theorem at_idiv0 (C : sf_Cx X Z) {x y : Int32} (hd : decode Z.2.1 pc = .ok (.idiv, 1)) (hne : ¬ y = 0) (k : sf_At X σ env (.int (x / y) :: stk) (pc + 1)) : sf_At X σ env (.int y :: .int x :: stk) pc := fun H locs ls hH hl => lv_idiv C.1 C.2.1 hd hne (k H locs ls hH hl)
theorem at_irem0 (C : sf_Cx X Z) {x y : Int32} (hd : decode Z.2.1 pc = .ok (.irem, 1)) (hne : ¬ y = 0) (k : sf_At X σ env (.int (x - x / y * y) :: stk) (pc + 1)) : sf_At X σ env (.int y :: .int x :: stk) pc := fun H locs ls hH hl => lv_irem C.1 C.2.1 hd hne (k H locs ls hH hl)
theorem at_ldiv0 (C : sf_Cx X Z) {x y : Int64} (hd : decode Z.2.1 pc = .ok (.ldiv, 1)) (hne : ¬ y = 0) (k : sf_At X σ env (.long (x / y) :: stk) (pc + 1)) : sf_At X σ env (.long y :: .long x :: stk) pc := fun H locs ls hH hl => lv_ldiv C.1 C.2.1 hd hne (k H locs ls hH hl)
theorem at_lrem0 (C : sf_Cx X Z) {x y : Int64} (hd : decode Z.2.1 pc = .ok (.lrem, 1)) (hne : ¬ y = 0) (k : sf_At X σ env (.long (x - x / y * y) :: stk) (pc + 1)) : sf_At X σ env (.long y :: .long x :: stk) pc := fun H locs ls hH hl => lv_lrem C.1 C.2.1 hd hne (k H locs ls hH hl)
theorem at_dup_r (C : sf_Cx X Z) {r : Option Nat} (hd : decode Z.2.1 pc = .ok (.dup, 1)) (k : sf_At X σ env (sf_rv r :: sf_rv r :: stk) (pc + 1)) : sf_At X σ env (sf_rv r :: stk) pc := fun H locs ls hH hl => lv_dup C.1 C.2.1 hd (by cases r <;> rfl) (k H locs ls hH hl)
theorem at_dup_i (C : sf_Cx X Z) {x : Int32} (hd : decode Z.2.1 pc = .ok (.dup, 1)) (k : sf_At X σ env (.int x :: .int x :: stk) (pc + 1)) : sf_At X σ env (.int x :: stk) pc := fun H locs ls hH hl => lv_dup C.1 C.2.1 hd rfl (k H locs ls hH hl)
theorem at_dup2 (C : sf_Cx X Z) {x : Int32} {r : Option Nat} (hd : decode Z.2.1 pc = .ok (.dup2, 1)) (k : sf_At X σ env (.int x :: sf_rv r :: .int x :: sf_rv r :: stk) (pc + 1)) : sf_At X σ env (.int x :: sf_rv r :: stk) pc := fun H locs ls hH hl => lv_dup2_11 C.1 C.2.1 hd rfl (by cases r <;> rfl) (k H locs ls hH hl)
theorem at_pop_i (C : sf_Cx X Z) {x : Int32} (hd : decode Z.2.1 pc = .ok (.pop, 1)) (k : sf_At X σ env (stk) (pc + 1)) : sf_At X σ env (.int x :: stk) pc := fun H locs ls hH hl => lv_pop C.1 C.2.1 hd rfl (k H locs ls hH hl)
theorem at_goto (C : sf_Cx X Z) {off : Int} {tgt : Nat} (hd : decode Z.2.1 pc = .ok (.goto off, 3)) (ht : (pc : Int) + off = (tgt : Int)) (k : sf_At X σ env stk tgt) : sf_At X σ env stk pc := fun H locs ls hH hl => lv_goto C.1 C.2.1 hd ht (k H locs ls hH hl)
theorem at_ldcS (C : sf_Cx X Z) {index i : Nat} {tx : String} (hown : Z.1 = "SplitFares$Reader") (hi : i < 24) (h1 : sf_strI.getD i 0 = index) (h2 : sf_strT.getD i "" = tx) (hd : decode Z.2.1 pc = .ok (.ldc index, 2)) (k : sf_At X σ env (.float (UInt32.ofNat i) :: stk) (pc + 2)) : sf_At X σ env stk pc := fun H locs ls hH hl => by
  have hr := C.2.2.2.2.2.1.2.2.2.2.2.2 i hi
  have hk := k H locs ls hH hl
  have e : (UInt32.ofNat i).toNat = i := by rw [UInt32.toNat_ofNat']; omega
  rw [← hown] at hr
  subst h1
  have hk : sf_W X H locs (sf_cn σ - sf_Xk X) (sf_sn σ - sf_Xj X) (F0 (sf_Xm X) (pc + 2) ls (.ref ((sf_XG X).2.2.2.2.1 i) :: stk.map (sf_cv (sf_XG X)))) := by
    rw [← e]; exact hk
  exact va_ldcS C.1 C.2.1 C.2.2.2.1 hr hd hk
end ATP
section FRB
variable {X : sf_X} {Z : sf_Z} {env : List (Option Value)} {stk : List Value} {pc : Nat} {ρ : Type} {f g : sf_M ρ} {land : ρ → sf_L} {off : Int} {tgt : Nat}
theorem fr_if_eq {x : Int32} (hd : decode Z.2.1 pc = .ok (.ifCond .eq off, 3)) (ht : (pc : Int) + off = (tgt : Int)) (hf : x = 0 → sf_Fr X Z (sf_p (tgt) env stk) f land) (hg : ¬ x = 0 → sf_Fr X Z (sf_p (pc + 3) env stk) g land) : sf_Fr X Z (sf_p pc env (.int x :: stk)) (if x = 0 then f else g) land := by
  by_cases hP : x = 0
  · rw [if_pos hP]
    refine fr_st (L' := sf_p (tgt) env stk) (fun C σ k H locs ls hH hl => ?_) (hf hP)
    exact lv_if_eq C.1 C.2.1 hd ht (fun _ => k H locs ls hH hl) (fun q => absurd hP q)
  · rw [if_neg hP]
    refine fr_st (L' := sf_p (pc + 3) env stk) (fun C σ k H locs ls hH hl => ?_) (hg hP)
    exact lv_if_eq C.1 C.2.1 hd ht (fun q => absurd q hP) (fun _ => k H locs ls hH hl)
theorem fr_if_ne {x : Int32} (hd : decode Z.2.1 pc = .ok (.ifCond .ne off, 3)) (ht : (pc : Int) + off = (tgt : Int)) (hf : x = 0 → sf_Fr X Z (sf_p (pc + 3) env stk) f land) (hg : ¬ x = 0 → sf_Fr X Z (sf_p (tgt) env stk) g land) : sf_Fr X Z (sf_p pc env (.int x :: stk)) (if x = 0 then f else g) land := by
  by_cases hP : x = 0
  · rw [if_pos hP]
    refine fr_st (L' := sf_p (pc + 3) env stk) (fun C σ k H locs ls hH hl => ?_) (hf hP)
    exact lv_if_ne C.1 C.2.1 hd ht (fun q => absurd hP q) (fun _ => k H locs ls hH hl)
  · rw [if_neg hP]
    refine fr_st (L' := sf_p (tgt) env stk) (fun C σ k H locs ls hH hl => ?_) (hg hP)
    exact lv_if_ne C.1 C.2.1 hd ht (fun _ => k H locs ls hH hl) (fun q => absurd q hP)
theorem fr_if_lt {x : Int32} (hd : decode Z.2.1 pc = .ok (.ifCond .lt off, 3)) (ht : (pc : Int) + off = (tgt : Int)) (hf : x < 0 → sf_Fr X Z (sf_p (tgt) env stk) f land) (hg : ¬ x < 0 → sf_Fr X Z (sf_p (pc + 3) env stk) g land) : sf_Fr X Z (sf_p pc env (.int x :: stk)) (if x < 0 then f else g) land := by
  by_cases hP : x < 0
  · rw [if_pos hP]
    refine fr_st (L' := sf_p (tgt) env stk) (fun C σ k H locs ls hH hl => ?_) (hf hP)
    exact lv_if_lt C.1 C.2.1 hd ht (fun _ => k H locs ls hH hl) (fun q => absurd hP q)
  · rw [if_neg hP]
    refine fr_st (L' := sf_p (pc + 3) env stk) (fun C σ k H locs ls hH hl => ?_) (hg hP)
    exact lv_if_lt C.1 C.2.1 hd ht (fun q => absurd q hP) (fun _ => k H locs ls hH hl)
theorem fr_if_ge {x : Int32} (hd : decode Z.2.1 pc = .ok (.ifCond .ge off, 3)) (ht : (pc : Int) + off = (tgt : Int)) (hf : 0 ≤ x → sf_Fr X Z (sf_p (tgt) env stk) f land) (hg : ¬ 0 ≤ x → sf_Fr X Z (sf_p (pc + 3) env stk) g land) : sf_Fr X Z (sf_p pc env (.int x :: stk)) (if 0 ≤ x then f else g) land := by
  by_cases hP : 0 ≤ x
  · rw [if_pos hP]
    refine fr_st (L' := sf_p (tgt) env stk) (fun C σ k H locs ls hH hl => ?_) (hf hP)
    exact lv_if_ge C.1 C.2.1 hd ht (fun _ => k H locs ls hH hl) (fun q => absurd hP q)
  · rw [if_neg hP]
    refine fr_st (L' := sf_p (pc + 3) env stk) (fun C σ k H locs ls hH hl => ?_) (hg hP)
    exact lv_if_ge C.1 C.2.1 hd ht (fun q => absurd q hP) (fun _ => k H locs ls hH hl)
theorem fr_if_gt {x : Int32} (hd : decode Z.2.1 pc = .ok (.ifCond .gt off, 3)) (ht : (pc : Int) + off = (tgt : Int)) (hf : 0 < x → sf_Fr X Z (sf_p (tgt) env stk) f land) (hg : ¬ 0 < x → sf_Fr X Z (sf_p (pc + 3) env stk) g land) : sf_Fr X Z (sf_p pc env (.int x :: stk)) (if 0 < x then f else g) land := by
  by_cases hP : 0 < x
  · rw [if_pos hP]
    refine fr_st (L' := sf_p (tgt) env stk) (fun C σ k H locs ls hH hl => ?_) (hf hP)
    exact lv_if_gt C.1 C.2.1 hd ht (fun _ => k H locs ls hH hl) (fun q => absurd hP q)
  · rw [if_neg hP]
    refine fr_st (L' := sf_p (pc + 3) env stk) (fun C σ k H locs ls hH hl => ?_) (hg hP)
    exact lv_if_gt C.1 C.2.1 hd ht (fun q => absurd q hP) (fun _ => k H locs ls hH hl)
theorem fr_if_le {x : Int32} (hd : decode Z.2.1 pc = .ok (.ifCond .le off, 3)) (ht : (pc : Int) + off = (tgt : Int)) (hf : x ≤ 0 → sf_Fr X Z (sf_p (tgt) env stk) f land) (hg : ¬ x ≤ 0 → sf_Fr X Z (sf_p (pc + 3) env stk) g land) : sf_Fr X Z (sf_p pc env (.int x :: stk)) (if x ≤ 0 then f else g) land := by
  by_cases hP : x ≤ 0
  · rw [if_pos hP]
    refine fr_st (L' := sf_p (tgt) env stk) (fun C σ k H locs ls hH hl => ?_) (hf hP)
    exact lv_if_le C.1 C.2.1 hd ht (fun _ => k H locs ls hH hl) (fun q => absurd hP q)
  · rw [if_neg hP]
    refine fr_st (L' := sf_p (pc + 3) env stk) (fun C σ k H locs ls hH hl => ?_) (hg hP)
    exact lv_if_le C.1 C.2.1 hd ht (fun q => absurd q hP) (fun _ => k H locs ls hH hl)
theorem fr_icmp_eq {x y : Int32} (hd : decode Z.2.1 pc = .ok (.if_icmp .eq off, 3)) (ht : (pc : Int) + off = (tgt : Int)) (hf : x = y → sf_Fr X Z (sf_p (tgt) env stk) f land) (hg : ¬ x = y → sf_Fr X Z (sf_p (pc + 3) env stk) g land) : sf_Fr X Z (sf_p pc env (.int y :: .int x :: stk)) (if x = y then f else g) land := by
  by_cases hP : x = y
  · rw [if_pos hP]
    refine fr_st (L' := sf_p (tgt) env stk) (fun C σ k H locs ls hH hl => ?_) (hf hP)
    exact lv_icmp_eq C.1 C.2.1 hd ht (fun _ => k H locs ls hH hl) (fun q => absurd hP q)
  · rw [if_neg hP]
    refine fr_st (L' := sf_p (pc + 3) env stk) (fun C σ k H locs ls hH hl => ?_) (hg hP)
    exact lv_icmp_eq C.1 C.2.1 hd ht (fun q => absurd q hP) (fun _ => k H locs ls hH hl)
theorem fr_icmp_ne {x y : Int32} (hd : decode Z.2.1 pc = .ok (.if_icmp .ne off, 3)) (ht : (pc : Int) + off = (tgt : Int)) (hf : x = y → sf_Fr X Z (sf_p (pc + 3) env stk) f land) (hg : ¬ x = y → sf_Fr X Z (sf_p (tgt) env stk) g land) : sf_Fr X Z (sf_p pc env (.int y :: .int x :: stk)) (if x = y then f else g) land := by
  by_cases hP : x = y
  · rw [if_pos hP]
    refine fr_st (L' := sf_p (pc + 3) env stk) (fun C σ k H locs ls hH hl => ?_) (hf hP)
    exact lv_icmp_ne C.1 C.2.1 hd ht (fun q => absurd hP q) (fun _ => k H locs ls hH hl)
  · rw [if_neg hP]
    refine fr_st (L' := sf_p (tgt) env stk) (fun C σ k H locs ls hH hl => ?_) (hg hP)
    exact lv_icmp_ne C.1 C.2.1 hd ht (fun _ => k H locs ls hH hl) (fun q => absurd q hP)
theorem fr_icmp_lt {x y : Int32} (hd : decode Z.2.1 pc = .ok (.if_icmp .lt off, 3)) (ht : (pc : Int) + off = (tgt : Int)) (hf : x < y → sf_Fr X Z (sf_p (tgt) env stk) f land) (hg : ¬ x < y → sf_Fr X Z (sf_p (pc + 3) env stk) g land) : sf_Fr X Z (sf_p pc env (.int y :: .int x :: stk)) (if x < y then f else g) land := by
  by_cases hP : x < y
  · rw [if_pos hP]
    refine fr_st (L' := sf_p (tgt) env stk) (fun C σ k H locs ls hH hl => ?_) (hf hP)
    exact lv_icmp_lt C.1 C.2.1 hd ht (fun _ => k H locs ls hH hl) (fun q => absurd hP q)
  · rw [if_neg hP]
    refine fr_st (L' := sf_p (pc + 3) env stk) (fun C σ k H locs ls hH hl => ?_) (hg hP)
    exact lv_icmp_lt C.1 C.2.1 hd ht (fun q => absurd q hP) (fun _ => k H locs ls hH hl)
theorem fr_icmp_ge {x y : Int32} (hd : decode Z.2.1 pc = .ok (.if_icmp .ge off, 3)) (ht : (pc : Int) + off = (tgt : Int)) (hf : y ≤ x → sf_Fr X Z (sf_p (tgt) env stk) f land) (hg : ¬ y ≤ x → sf_Fr X Z (sf_p (pc + 3) env stk) g land) : sf_Fr X Z (sf_p pc env (.int y :: .int x :: stk)) (if y ≤ x then f else g) land := by
  by_cases hP : y ≤ x
  · rw [if_pos hP]
    refine fr_st (L' := sf_p (tgt) env stk) (fun C σ k H locs ls hH hl => ?_) (hf hP)
    exact lv_icmp_ge C.1 C.2.1 hd ht (fun _ => k H locs ls hH hl) (fun q => absurd hP q)
  · rw [if_neg hP]
    refine fr_st (L' := sf_p (pc + 3) env stk) (fun C σ k H locs ls hH hl => ?_) (hg hP)
    exact lv_icmp_ge C.1 C.2.1 hd ht (fun q => absurd q hP) (fun _ => k H locs ls hH hl)
theorem fr_icmp_gt {x y : Int32} (hd : decode Z.2.1 pc = .ok (.if_icmp .gt off, 3)) (ht : (pc : Int) + off = (tgt : Int)) (hf : y < x → sf_Fr X Z (sf_p (tgt) env stk) f land) (hg : ¬ y < x → sf_Fr X Z (sf_p (pc + 3) env stk) g land) : sf_Fr X Z (sf_p pc env (.int y :: .int x :: stk)) (if y < x then f else g) land := by
  by_cases hP : y < x
  · rw [if_pos hP]
    refine fr_st (L' := sf_p (tgt) env stk) (fun C σ k H locs ls hH hl => ?_) (hf hP)
    exact lv_icmp_gt C.1 C.2.1 hd ht (fun _ => k H locs ls hH hl) (fun q => absurd hP q)
  · rw [if_neg hP]
    refine fr_st (L' := sf_p (pc + 3) env stk) (fun C σ k H locs ls hH hl => ?_) (hg hP)
    exact lv_icmp_gt C.1 C.2.1 hd ht (fun q => absurd q hP) (fun _ => k H locs ls hH hl)
theorem fr_icmp_le {x y : Int32} (hd : decode Z.2.1 pc = .ok (.if_icmp .le off, 3)) (ht : (pc : Int) + off = (tgt : Int)) (hf : x ≤ y → sf_Fr X Z (sf_p (tgt) env stk) f land) (hg : ¬ x ≤ y → sf_Fr X Z (sf_p (pc + 3) env stk) g land) : sf_Fr X Z (sf_p pc env (.int y :: .int x :: stk)) (if x ≤ y then f else g) land := by
  by_cases hP : x ≤ y
  · rw [if_pos hP]
    refine fr_st (L' := sf_p (tgt) env stk) (fun C σ k H locs ls hH hl => ?_) (hf hP)
    exact lv_icmp_le C.1 C.2.1 hd ht (fun _ => k H locs ls hH hl) (fun q => absurd hP q)
  · rw [if_neg hP]
    refine fr_st (L' := sf_p (pc + 3) env stk) (fun C σ k H locs ls hH hl => ?_) (hg hP)
    exact lv_icmp_le C.1 C.2.1 hd ht (fun q => absurd q hP) (fun _ => k H locs ls hH hl)
theorem fr_ifnull {r : Option Nat} (hd : decode Z.2.1 pc = .ok (.ifnull off, 3)) (ht : (pc : Int) + off = (tgt : Int)) (hf : r = none → sf_Fr X Z (sf_p tgt env stk) f land) (hg : ¬ r = none → sf_Fr X Z (sf_p (pc + 3) env stk) g land) : sf_Fr X Z (sf_p pc env (sf_rv r :: stk)) (if r = none then f else g) land := by
  cases r with
  | none =>
    rw [if_pos rfl]
    exact fr_st (L' := sf_p tgt env stk) (fun C σ k H locs ls hH hl => lv_ifnullN C.1 C.2.1 hd ht (k H locs ls hH hl)) (hf rfl)
  | some a =>
    rw [if_neg (by simp)]
    exact fr_st (L' := sf_p (pc + 3) env stk) (fun C σ k H locs ls hH hl => lv_ifnull C.1 C.2.1 hd (k H locs ls hH hl)) (hg (by simp))
theorem fr_ifnonnull {r : Option Nat} (hd : decode Z.2.1 pc = .ok (.ifnonnull off, 3)) (ht : (pc : Int) + off = (tgt : Int)) (hf : r = none → sf_Fr X Z (sf_p (pc + 3) env stk) f land) (hg : ¬ r = none → sf_Fr X Z (sf_p tgt env stk) g land) : sf_Fr X Z (sf_p pc env (sf_rv r :: stk)) (if r = none then f else g) land := by
  cases r with
  | none =>
    rw [if_pos rfl]
    exact fr_st (L' := sf_p (pc + 3) env stk) (fun C σ k H locs ls hH hl => lv_ifnonnullN C.1 C.2.1 hd (k H locs ls hH hl)) (hf rfl)
  | some a =>
    rw [if_neg (by simp)]
    exact fr_st (L' := sf_p tgt env stk) (fun C σ k H locs ls hH hl => lv_ifnonnull C.1 C.2.1 hd ht (k H locs ls hH hl)) (hg (by simp))
/-- where a switch goes -/
def sf_pick : List (Int32 × Nat) → Nat → Int32 → Nat
  | [], t, _ => t
  | q :: l, t, x => if x = q.1 then q.2 else sf_pick l t x
/-- the cases c0, c0 + 1 .. with these targets -/
def sf_tab (lo : Int) : List Nat → List (Int32 × Nat)
  | [] => []
  | t :: l => (Int32.ofInt lo, t) :: sf_tab (lo + 1) l
theorem fr_sw {x c : Int32} {t t0 : Nat} {l : List (Int32 × Nat)} (hf : x = c → sf_Fr X Z (sf_p t env stk) f land) (hg : ¬ x = c → sf_Fr X Z (sf_p (sf_pick l t0 x) env stk) g land) : sf_Fr X Z (sf_p (sf_pick ((c, t) :: l) t0 x) env stk) (if x = c then f else g) land := by
  by_cases hP : x = c
  · rw [if_pos hP, sf_pick, if_pos hP]; exact hf hP
  · rw [if_neg hP, sf_pick, if_neg hP]; exact hg hP
end FRB
