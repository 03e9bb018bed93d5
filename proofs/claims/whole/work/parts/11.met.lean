/-! A method's contract, calls, ends; the rows of constants. -/
/-- what the method leaves: its answer, the state -/
def sf_Q (G : sf_G) (σ' : sf_St) (v : Option Value) : Array Value → State → Outcome → State → Prop := fun _ _ o t => o = .returned (v.map (sf_cv G)) ∧ sf_Rel G σ' t.heap
/-- wherever f comes to an end, the method y, called with av, does what f does -/
def sf_Ok {α : Type} (y : MethodName) (bytes : ByteArray) (maxL : Nat) (ret : Option FieldType) (d : Nat) (av : List Value) (f : sf_M α) (inj : α → Option Value) : Prop :=
  (sf_X → sf_Gr f) ∧ ∀ (l : Launch) (G : sf_G) σ r σ', f σ = some (r, σ') → Met l y (Cond.code y bytes maxL ret :: sf_TB) { frames := d, cells := sf_cn σ' - sf_cn σ, slots := sf_sn σ' - sf_sn σ, locals := 64 * d } (va_Pc (av.map (sf_cv G)) (fun U => sf_Rel G σ U.heap ∧ sf_KK G U ∧ sf_sz G ≤ G.2.2.2.1.size)) (sf_Q G σ' (inj r)) (sf_cn σ' - sf_cn σ) (sf_sn σ' - sf_sn σ) (fun q => sf_sz G ≤ q)
theorem sf_tb_good : GoodIn sf_TB sf_TB := fun w hw => ⟨hw, good_of_word (List.mem_filter.mp hw).2⟩
/-- a method's locals at its start: which of the parameters are longs -/
def sf_en : List Bool → List Value → List (Option Value)
  | false :: ks, v :: vs => some v :: sf_en ks vs
  | true :: ks, v :: vs => some v :: none :: sf_en ks vs
  | _, _ => []
def sf_pk (G : sf_G) : List Bool → List Value → Prop
  | false :: ks, v :: vs => (¬ (sf_cv G v).category = 2) ∧ sf_pk G ks vs
  | true :: ks, v :: vs => (sf_cv G v).category = 2 ∧ sf_pk G ks vs
  | [], [] => True
  | _, _ => False
theorem pk_i {G : sf_G} {x : Int32} : ¬ (sf_cv G (.int x)).category = 2 := by simp [sf_cv, Value.category]
theorem pk_l {G : sf_G} {x : Int64} : (sf_cv G (.long x)).category = 2 := by simp [sf_cv, Value.category]
theorem pk_r {G : sf_G} {r : Option Nat} : ¬ (sf_cv G (sf_rv r)).category = 2 := by cases r <;> simp [sf_rv, va_rf, sf_cv, Value.category]
theorem pk_s {G : sf_G} {x : UInt32} : ¬ (sf_cv G (.float x)).category = 2 := by simp [sf_cv, Value.category]
theorem pk_d {G : sf_G} {x : UInt64} : ¬ (sf_cv G (.double x)).category = 2 := by
  simp only [sf_cv]
  split <;> simp [Value.category]
theorem sf_args_mem (G : sf_G) : ∀ (ks : List Bool) (vs : List Value) (i j : Nat) (v : Value), sf_pk G ks vs → (sf_en ks vs)[j]? = some (some v) → (i + j, sf_cv G v) ∈ lv_args i (vs.map (sf_cv G))
  | [], [], i, j, v, _, h => by simp [sf_en] at h
  | [], _ :: _, i, j, v, _, h => by simp [sf_en] at h
  | true :: ks, [], i, j, v, _, h => by simp [sf_en] at h
  | false :: ks, [], i, j, v, _, h => by simp [sf_en] at h
  | true :: ks, w :: vs, i, j, v, hc, h => by
    show (i + j, sf_cv G v) ∈ (i, sf_cv G w) :: lv_args (if (sf_cv G w).category = 2 then i + 2 else i + 1) (vs.map (sf_cv G))
    rw [if_pos hc.1]
    cases j with
    | zero =>
      simp only [sf_en, List.getElem?_cons_zero] at h
      cases h
      exact List.mem_cons_self
    | succ j =>
      cases j with
      | zero => simp [sf_en] at h
      | succ j =>
        simp only [sf_en, List.getElem?_cons_succ] at h
        have := sf_args_mem G ks vs (i + 2) j v hc.2 h
        exact List.mem_cons_of_mem _ (by rw [show i + (j + 1 + 1) = i + 2 + j by omega]; exact this)
  | false :: ks, w :: vs, i, j, v, hc, h => by
    show (i + j, sf_cv G v) ∈ (i, sf_cv G w) :: lv_args (if (sf_cv G w).category = 2 then i + 2 else i + 1) (vs.map (sf_cv G))
    rw [if_neg hc.1]
    cases j with
    | zero =>
      simp only [sf_en, List.getElem?_cons_zero] at h
      cases h
      exact List.mem_cons_self
    | succ j =>
      simp only [sf_en, List.getElem?_cons_succ] at h
      have := sf_args_mem G ks vs (i + 1) j v hc.2 h
      exact List.mem_cons_of_mem _ (by rw [show i + (j + 1) = i + 1 + j by omega]; exact this)
theorem sf_lg_len (G : sf_G) : ∀ (ks : List Bool) (vs : List Value), sf_pk G ks vs → (lg_sl (vs.map (sf_cv G))).length = (sf_en ks vs).length
  | [], [], _ => rfl
  | [], _ :: _, h => by cases h
  | true :: ks, [], h => by cases h
  | false :: ks, [], h => by cases h
  | true :: ks, w :: vs, h => by
    have := sf_lg_len G ks vs h.2
    unfold lg_sl at this ⊢
    simp only [List.map_cons, List.flatMap_cons, List.length_append, if_pos h.1, this, sf_en, List.length_cons, List.length_nil]
    omega
  | false :: ks, w :: vs, h => by
    have := sf_lg_len G ks vs h.2
    unfold lg_sl at this ⊢
    simp only [List.map_cons, List.flatMap_cons, List.length_append, if_neg h.1, this, sf_en, List.length_cons, List.length_nil]
    omega
theorem sf_Ok.of {α : Type} {y : MethodName} {bytes : ByteArray} {maxL : Nat} {ret : Option FieldType} {d : Nat} {av : List Value} {f : sf_M α} {inj : α → Option Value} {env : List (Option Value)} (hy : plainFor y = true) (ks : List Bool) (hp : ∀ G, sf_pk G ks av) (hn : (sf_en ks av).length ≤ maxL) (he : sf_en ks av ++ List.replicate (maxL - (sf_en ks av).length) none = env)
    (body : ∀ X, sf_Fr X (y.cls, bytes, d, y.name, ret, maxL) (sf_p 0 env []) f (fun r => .inr (inj r))) : sf_Ok y bytes maxL ret d av f inj := by
  refine ⟨fun X => (body X).1, fun l G σ r σ' e => ?_⟩
  refine va_MetF (cc := bytes) (maxL := maxL) (ret := ret) hy rfl ?_
  intro p ev s m args below meth c s₁ B hml hv
  obtain ⟨rfl, hR, hK, hsz⟩ := hv
  obtain ⟨X, hX⟩ : ∃ X : sf_X, X = (p, l, ev, s, m, (av.map (sf_cv G)).toArray, below, meth, c, MQ below (sf_Q G σ' (inj r)) (av.map (sf_cv G)).toArray s (sf_cn σ' - sf_cn σ) (sf_sn σ' - sf_sn σ) (fun q => sf_sz G ≤ q), (headSpec (Cond.code y bytes maxL ret :: sf_TB) { frames := d, cells := sf_cn σ' - sf_cn σ, slots := sf_sn σ' - sf_sn σ, locals := 64 * d }).room, G, maxL, sf_cn σ, sf_sn σ) := ⟨_, rfl⟩
  have hts := atoms_spec (ws := Cond.code y bytes maxL ret :: sf_TB) B.pre
  have hgr := (body X).1
  have g1 := hgr.cn e
  have g2 := hgr.sn e
  have C : sf_Cx X (y.cls, bytes, d, y.name, ret, maxL) := by
    subst hX
    exact ⟨B.exec, B.bytes, hml, findClass_of_methodNamed B.named, fun w hw => hts w (List.mem_cons_of_mem _ hw), hK, hR.2.1, ⟨hsz, hR.1⟩, Nat.le_refl _, Nat.le_refl _, (name_of_methodNamed B.named B.method).1, B.returns, rfl⟩
  have hb : sf_Bd X σ' := by
    subst hX
    exact ⟨by show _ ≤ sf_cn σ + (sf_cn σ' - sf_cn σ); omega, by show _ ≤ sf_sn σ + (sf_sn σ' - sf_sn σ); omega⟩
  have hfin : sf_Fin X σ' (inj r) := by
    subst hX
    intro H locs ls pc hH hd hok
    have hret : meth.sig.returnType = ret := B.returns
    have hbytes : c.code = bytes := B.bytes
    have hlocks : meth.locks = false := B.notSynchronized
    have hd' : decode bytes pc = .ok (sf_rop (inj r), 1) := by rw [← hbytes]; exact hd
    have hok' : sf_rok ret (inj r) := by rw [← hret]; exact hok
    obtain ⟨v, hv⟩ : ∃ v, v = inj r := ⟨_, rfl⟩
    rw [← hv] at hd' hok' ⊢
    have hq : ∀ t : State, t.heap = H → sf_Q G σ' v (av.map (sf_cv G)).toArray s (.returned (v.map (sf_cv G))) t := fun t ht => ⟨rfl, by rw [ht]; exact hH.1⟩
    have hL : ∀ q ∈ locs, sf_sz G ≤ q.base := hH.2.1
    cases v with
    | none =>
      cases ret with
      | some t => cases t <;> exact absurd hok' (fun h => h)
      | none => exact W.vret B.exec hbytes hret (fun t ht _ => hq t ht) hL hd' hlocks
    | some w =>
      cases ret with
      | none => exact absurd hok' (fun h => h)
      | some t =>
        cases t with
        | int =>
          cases w with
          | int x => exact W.iret B.exec hbytes hret (fun t ht _ => hq t ht) hL hd' hlocks
          | _ => exact absurd hok' (fun h => h)
        | boolean =>
          cases w with
          | int x => exact W.zret B.exec hbytes hret (by rcases hok' with h | h <;> rw [h] <;> rfl) (fun t ht _ => hq t ht) hL hd' hlocks
          | _ => exact absurd hok' (fun h => h)
        | byte =>
          cases w with
          | int x => exact W.zret B.exec hbytes hret hok' (fun t ht _ => hq t ht) hL hd' hlocks
          | _ => exact absurd hok' (fun h => h)
        | char =>
          cases w with
          | int x => exact W.zret B.exec hbytes hret hok' (fun t ht _ => hq t ht) hL hd' hlocks
          | _ => exact absurd hok' (fun h => h)
        | long =>
          cases w with
          | long x => exact W.lret B.exec hbytes hret (fun t ht _ => hq t ht) hL hd' hlocks
          | _ => exact absurd hok' (fun h => h)
        | object nm =>
          rcases hok' with h | ⟨a, h⟩
          · subst h
            exact W.aret B.exec hbytes hret (Or.inl ⟨_, rfl⟩) (Or.inl rfl) (fun t ht _ => hq t ht) hL hd' hlocks
          · subst h
            exact W.aret B.exec hbytes hret (Or.inl ⟨_, rfl⟩) (Or.inr ⟨_, rfl⟩) (fun t ht _ => hq t ht) hL hd' hlocks
        | _ => exact absurd hok' (fun h => h)
  have hk := (body X).2 C σ r σ' e hb hfin
  subst hX
  have hl := lv_entry (av.map (sf_cv G)) (n := maxL) (by rw [sf_lg_len G ks av (hp G)]; exact hn)
  rw [lg_entry_eq]
  have hl2 : lv_has ((lg_sl (av.map (sf_cv G)) ++ List.replicate (maxL - (lg_sl (av.map (sf_cv G))).length) Slot.unset).toArray) maxL (sf_el G env) := lv_less hl fun q hq => by
    obtain ⟨v, h1, h2⟩ := sf_el_of hq
    obtain ⟨j, x⟩ := q
    dsimp only at h1 h2
    have h0 : (sf_en ks av)[j]? = some (some v) := by
      rw [← he] at h1
      by_cases hj : j < (sf_en ks av).length
      · rw [List.getElem?_append_left hj] at h1; exact h1
      · rw [List.getElem?_append_right (by omega), List.getElem?_replicate] at h1
        split at h1 <;> cases h1
    have h3 := sf_args_mem G ks av 0 j v (hp G) h0
    rw [Nat.zero_add] at h3
    rw [h2]; exact h3
  have h9 := hk s.heap [] _ ⟨hR, (fun l h => absurd h List.not_mem_nil), Nat.le_refl _, Nat.le_refl _⟩ hl2
  have e1 : sf_cn σ - sf_cn σ = 0 := Nat.sub_self _
  have e2 : sf_sn σ - sf_sn σ = 0 := Nat.sub_self _
  have h10 : W p l ev (headSpec (Cond.code y bytes maxL ret :: sf_TB) { frames := d, cells := sf_cn σ' - sf_cn σ, slots := sf_sn σ' - sf_sn σ, locals := 64 * d }).room s m (av.map (sf_cv G)).toArray below meth c s.heap [] (sf_cn σ - sf_cn σ) (sf_sn σ - sf_sn σ) (MQ below (sf_Q G σ' (inj r)) (av.map (sf_cv G)).toArray s (sf_cn σ' - sf_cn σ) (sf_sn σ' - sf_sn σ) (fun q => sf_sz G ≤ q)) (F0 m 0 ((lg_sl (av.map (sf_cv G)) ++ List.replicate (maxL - (lg_sl (av.map (sf_cv G))).length) Slot.unset).toArray) []) := h9
  rw [e1, e2] at h10
  exact h10
section FRC
variable {X : sf_X} {Z : sf_Z} {env : List (Option Value)} {stk : List Value} {pc : Nat} {ρ : Type} {land : ρ → sf_L}
-- ends
theorem fr_iret {r : ρ} {v : Int32} (hl : land r = .inr (some (.int v))) (hr : Z.2.2.2.2.1 = some .int) (hd : decode Z.2.1 pc = .ok (.ireturn, 1)) : sf_Fr X Z (sf_p pc env [.int v]) (sf_ret r) land := ⟨sf_Gr.ret r, fun C σ r' σ' e _ k => by
  cases e
  rw [hl] at k
  intro H locs ls hH _
  exact k H locs ls pc hH (by rw [C.2.1]; exact hd) (by rw [C.2.2.2.2.2.2.2.2.2.2.2.1, hr]; trivial)⟩
theorem fr_lret {r : ρ} {v : Int64} (hl : land r = .inr (some (.long v))) (hr : Z.2.2.2.2.1 = some .long) (hd : decode Z.2.1 pc = .ok (.lreturn, 1)) : sf_Fr X Z (sf_p pc env [.long v]) (sf_ret r) land := ⟨sf_Gr.ret r, fun C σ r' σ' e _ k => by
  cases e
  rw [hl] at k
  intro H locs ls hH _
  exact k H locs ls pc hH (by rw [C.2.1]; exact hd) (by rw [C.2.2.2.2.2.2.2.2.2.2.2.1, hr]; trivial)⟩
theorem fr_vret {r : ρ} (hl : land r = .inr none) (hr : Z.2.2.2.2.1 = none) (hd : decode Z.2.1 pc = .ok (.return_, 1)) : sf_Fr X Z (sf_p pc env []) (sf_ret r) land := ⟨sf_Gr.ret r, fun C σ r' σ' e _ k => by
  cases e
  rw [hl] at k
  intro H locs ls hH _
  exact k H locs ls pc hH (by rw [C.2.1]; exact hd) (by rw [C.2.2.2.2.2.2.2.2.2.2.2.1, hr]; trivial)⟩
theorem fr_zret0 {r : ρ} {v : Int32} (hv : v = 0 ∨ v = 1) (hl : land r = .inr (some (.int v))) (hr : Z.2.2.2.2.1 = some .boolean) (hd : decode Z.2.1 pc = .ok (.ireturn, 1)) : sf_Fr X Z (sf_p pc env [.int v]) (sf_ret r) land := ⟨sf_Gr.ret r, fun C σ r' σ' e _ k => by
  cases e
  rw [hl] at k
  intro H locs ls hH _
  exact k H locs ls pc hH (by rw [C.2.1]; exact hd) (by rw [C.2.2.2.2.2.2.2.2.2.2.2.1, hr]; exact hv)⟩
/-- a boolean is 0 or 1 -/
def sf_rz (v : Int32) : sf_M Int32 := fun σ => if v = 0 ∨ v = 1 then some (v, σ) else none
theorem gr_rz {v : Int32} : sf_Gr (sf_rz v) := sf_Gr.same fun σ r σ' h => by
  unfold sf_rz at h; split at h <;> cases h; rfl
theorem fr_zret {r : Int32 → ρ} {v : Int32} (hl : ∀ x, land (r x) = .inr (some (.int x))) (hr : Z.2.2.2.2.1 = some .boolean) (hd : decode Z.2.1 pc = .ok (.ireturn, 1)) : sf_Fr X Z (sf_p pc env [.int v]) (sf_bnd (sf_rz v) (fun x => sf_ret (r x))) land := by
  refine ⟨gr_rz.bnd fun _ => sf_Gr.ret _, fun C σ r' σ' e hb k => ?_⟩
  by_cases hv : v = 0 ∨ v = 1
  · have e1 : sf_rz v σ = some (v, σ) := by unfold sf_rz; rw [if_pos hv]
    rw [sf_bnd_eq e1] at e
    exact (fr_zret0 hv (hl v) hr hd).2 C σ r' σ' e hb k
  · have e1 : sf_rz v σ = none := by unfold sf_rz; rw [if_neg hv]
    unfold sf_bnd at e
    rw [e1] at e
    cases e
theorem fr_aret {r : ρ} {o : Option Nat} (hl : land r = .inr (some (sf_rv o))) (hr : ∃ nm, Z.2.2.2.2.1 = some (.object nm)) (hd : decode Z.2.1 pc = .ok (.areturn, 1)) : sf_Fr X Z (sf_p pc env [sf_rv o]) (sf_ret r) land := ⟨sf_Gr.ret r, fun C σ r' σ' e _ k => by
  cases e
  rw [hl] at k
  intro H locs ls hH _
  obtain ⟨nm, hr⟩ := hr
  refine k H locs ls pc hH ?_ ?_
  · rw [C.2.1]
    cases o <;> exact hd
  · rw [C.2.2.2.2.2.2.2.2.2.2.2.1, hr]
    cases o with
    | none => exact Or.inl rfl
    | some a => exact Or.inr ⟨a, rfl⟩⟩
/-- a boolean is stored in a field -/
theorem fr_rz {v : Int32} {L : sf_L} {g : Int32 → sf_M ρ} (k : (v = 0 ∨ v = 1) → sf_Fr X Z L (g v) land) (hg : sf_X → sf_Gr (g v)) : sf_Fr X Z L (sf_bnd (sf_rz v) g) land := by
  by_cases hv : v = 0 ∨ v = 1
  · have e1 : sf_bnd (sf_rz v) g = g v := by
      funext σ
      exact sf_bnd_eq (by unfold sf_rz; rw [if_pos hv])
    rw [e1]; exact k hv
  · have e1 : sf_bnd (sf_rz v) g = sf_nil := by
      funext σ
      unfold sf_bnd
      rw [show sf_rz v σ = none by unfold sf_rz; rw [if_neg hv]]
      rfl
    rw [e1]; exact fr_nil
end FRC
