/-! Calls. -/
/-- a method as the tables have it: its code, its class ready, how many parameters beside the receiver -/
def sf_Mt (y : MethodName) (bytes : ByteArray) (maxL : Nat) (ret : Option FieldType) (n : Nat) : Prop :=
  Cond.code y bytes maxL ret ∈ sf_TB ∧ Cond.initialized y.cls ∈ sf_TB ∧ (y.cls ≠ "java/lang/invoke/MethodHandle" ∧ y.cls ≠ "java/lang/invoke/VarHandle" ∧ (parseMethodDescriptor y.desc).map (fun d => d.parameters.length) = some n) ∧ maxL ≤ 40
section FRI
variable {X : sf_X} {Z : sf_Z} {env : List (Option Value)} {stk S : List Value} {pc : Nat} {ρ : Type} {land : ρ → sf_L}
theorem sf_run {σ σ' : sf_St} {H : Heap} {locs : List Loc} {ls : Array Slot} {st0 : List Value} {v : Option Value} {a : Array Value} (hr : va_Run X.1 X.2.1 X.2.2.1 (sf_XR X) (sf_Xs X) (sf_Xm X) (sf_Xa X) (sf_Xb X) (sf_Xt X) (sf_Xc X) H locs (sf_cn σ - sf_Xk X) (sf_sn σ - sf_Xj X) (sf_cn σ' - sf_cn σ) (sf_sn σ' - sf_sn σ) (F0 (sf_Xm X) pc ls st0) (stk.map (sf_cv (sf_XG X))) (sf_Q (sf_XG X) σ' v a) (fun q => sf_sz (sf_XG X) ≤ q))
    (h1 : sf_cn σ ≤ sf_cn σ') (h2 : sf_sn σ ≤ sf_sn σ') (hH : sf_HH X σ H locs) (hL : lv_has ls (sf_Xn X) (sf_el (sf_XG X) env)) (kt : sf_At X σ' env (v.toList ++ stk) (pc + 3)) : sf_W X H locs (sf_cn σ - sf_Xk X) (sf_sn σ - sf_Xj X) (F0 (sf_Xm X) pc ls st0) := by
  intro T hT XS
  obtain ⟨v', st₀, t, T', L, h0, X', hl, e1, e2, ⟨hq1, hq2⟩, st⟩ := hr T hT XS
  cases hq1
  have hc1 := hH.2.2.1
  have hc2 := hH.2.2.2
  rw [show sf_cn σ - sf_Xk X + (sf_cn σ' - sf_cn σ) = sf_cn σ' - sf_Xk X by omega, show sf_sn σ - sf_Xj X + (sf_sn σ' - sf_sn σ) = sf_sn σ' - sf_Xj X by omega] at X'
  obtain ⟨t2, a1, b1⟩ := kt T'.heap (locs ++ L) ls ⟨by rw [e1]; exact hq2, (fun q hq => by
    rcases List.mem_append.mp hq with h | h
    · exact hH.2.1 q h
    · exact hl q h), by omega, by omega⟩ hL T' rfl X'
  have e9 : (v.map (sf_cv (sf_XG X))).toList ++ stk.map (sf_cv (sf_XG X)) = (v.toList ++ stk).map (sf_cv (sf_XG X)) := by cases v <;> rfl
  refine ⟨t2, st t2 ?_, b1⟩
  show Steps _ _ _ (T'.setTop (F0 (sf_Xm X) (pc + 3) ls ((v.map (sf_cv (sf_XG X))).toList ++ stk.map (sf_cv (sf_XG X))))) t2
  rw [e9]
  exact a1
variable {y : MethodName} {bytes : ByteArray} {maxL : Nat} {ret : Option FieldType} {dc n index : Nat} {α : Type} {f : sf_M α} {inj : α → Option Value} {g : α → sf_M ρ}
theorem sf_blind {G : sf_G} {σ : sf_St} {av : List Value} : FrameBlind (va_Pc (av.map (sf_cv G)) (fun U => sf_Rel G σ U.heap ∧ sf_KK G U ∧ sf_sz G ≤ G.2.2.2.1.size)) := fun a U g mk q => ⟨q.1, q.2.1, sf_KK.same (u := U) rfl q.2.2.1, q.2.2.2⟩
theorem sf_preS (C : sf_Cx X Z) {σ : sf_St} {H : Heap} {locs : List Loc} {av : List Value} (hH : sf_HH X σ H locs) : PreS (sf_Xs X) H (va_Pc (av.map (sf_cv (sf_XG X))) (fun U => sf_Rel (sf_XG X) σ U.heap ∧ sf_KK (sf_XG X) U ∧ sf_sz (sf_XG X) ≤ (sf_XG X).2.2.2.1.size)) (av.map (sf_cv (sf_XG X))) :=
  ⟨sf_blind, fun U hU hW => ⟨rfl, by rw [hU]; exact hH.1, C.kk.warm hW, C.2.2.2.2.2.2.2.1.1⟩⟩
theorem sf_fix (C : sf_Cx X Z) : CallFix X.1 (sf_Xm X) (sf_Xc X) Z.2.1 (sf_Xn X) (sf_Xs X) (sf_Xa X) sf_TB Z.1 := ⟨C.1, C.2.1, C.2.2.1, C.2.2.2.1, C.2.2.2.2.1⟩
theorem sf_cb (C : sf_Cx X Z) (hM : sf_Mt y bytes maxL ret n) (hd1 : dc + 1 ≤ Z.2.2.1) (hl : Cond.methodLink Z.1 index y ∈ sf_TB) (mc ms : Nat) : CallB (sf_XR X) (sf_Xs X) (sf_Xa X) Z.1 index y bytes maxL ret (Cond.code y bytes maxL ret :: sf_TB) { frames := dc, cells := mc, slots := ms, locals := 64 * dc } mc ms n := by
  have h1 := C.2.2.2.2.2.2.2.2.1
  have h2 := C.2.2.2.2.2.2.2.2.2.1
  have h3 := hM.2.2.2
  refine callB_of n C.2.2.2.2.1 (fun w hw => ?_) rfl rfl rfl (C.hts hM.2.1) (C.hts hl) hM.2.2.1 ⟨by show dc + 1 ≤ _; omega, by show 8 + (maxL + 11) + 64 * dc ≤ _; omega⟩
  rcases List.mem_cons.mp hw with rfl | hw
  · exact sf_tb_good _ hM.1
  · exact sf_tb_good _ hw
theorem sf_cn2 (C : sf_Cx X Z) (hM : sf_Mt y bytes maxL ret n) (hd1 : dc + 1 ≤ Z.2.2.1) {host : String} (hl : Cond.methodLinkNest Z.1 index y host ∈ sf_NW) (mc ms : Nat) : va_CN (sf_XR X) (sf_Xs X) (sf_Xa X) Z.1 index y host bytes maxL ret (Cond.code y bytes maxL ret :: sf_TB) { frames := dc, cells := mc, slots := ms, locals := 64 * dc } mc ms n := by
  have h1 := C.2.2.2.2.2.2.2.2.1
  have h2 := C.2.2.2.2.2.2.2.2.2.1
  have h3 := hM.2.2.2
  refine va_cnB n C.2.2.2.2.1 (fun w hw => ?_) rfl rfl rfl (C.kk.2.1 _ hl) (C.hts hM.2.1) hM.2.2.1 ⟨by show dc + 1 ≤ _; omega, by show 8 + (maxL + 11) + 64 * dc ≤ _; omega⟩
  rcases List.mem_cons.mp hw with rfl | hw
  · exact sf_tb_good _ hM.1
  · exact sf_tb_good _ hw
theorem sf_bdc {σ σ' : sf_St} {H : Heap} {locs : List Loc} (hH : sf_HH X σ H locs) (hb : sf_Bd X σ') (h1 : sf_cn σ ≤ sf_cn σ') (h2 : sf_sn σ ≤ sf_sn σ') : sf_cn σ - sf_Xk X + (sf_cn σ' - sf_cn σ) ≤ (sf_XR X).cells ∧ sf_sn σ - sf_Xj X + (sf_sn σ' - sf_sn σ) ≤ (sf_XR X).slots := by
  have hc1 := hH.2.2.1
  have hc2 := hH.2.2.2
  have := hb.1
  have := hb.2
  constructor <;> omega
theorem sf_stkeq {G : sf_G} {av : List Value} (h : av.reverse ++ stk = S) : S.map (sf_cv G) = (av.map (sf_cv G)).reverse ++ stk.map (sf_cv G) := by rw [← h, List.map_append, List.map_reverse]
theorem fr_callS {av : List Value} (hOk : sf_Ok y bytes maxL ret dc av f inj) (hM : sf_Mt y bytes maxL ret n) (hS : av.reverse ++ stk = S) (hn : av.length = n) (hl : Cond.methodLink Z.1 index y ∈ sf_TB) (hs : Cond.static y ∈ sf_TB) (hd1 : dc + 1 ≤ Z.2.2.1) (hk : stk.length ≤ 4) (hd : decode Z.2.1 pc = .ok (.invokestatic index, 3)) (kk : ∀ r, sf_Fr X Z (sf_p (pc + 3) env ((inj r).toList ++ stk)) (g r) land) : sf_Fr X Z (sf_p pc env S) (sf_bnd f g) land := by
  refine fr_ef (hOk.1 X) (fun C σ v σ' e hB kt H locs ls hH hL => ?_) kk
  have g1 := (hOk.1 X).cn e
  have g2 := (hOk.1 X).sn e
  have hr := va_runS (As := av.map (sf_cv (sf_XG X))) (rest := stk.map (sf_cv (sf_XG X))) (g := F0 (sf_Xm X) pc ls (S.map (sf_cv (sf_XG X)))) (locs := locs) (below := sf_Xb X) (e := X.2.2.1) (meth := sf_Xt X) (sf_fix C) (hOk.2 X.2.1 (sf_XG X) σ v σ' e) ⟨sf_cb C hM hd1 hl _ _, C.hts hs⟩ (sf_preS C hH) rfl (by rw [List.length_map]; exact hn) hL.1 (sf_stkeq hS) (by
      have := sf_wd (sf_XG X) stk hk
      show 2 * 0 + _ ≤ 8
      omega) hd (sf_bdc hH hB g1 g2)
  exact sf_run hr g1 g2 hH hL kt
theorem fr_callSN {av : List Value} {host : String} (hOk : sf_Ok y bytes maxL ret dc av f inj) (hM : sf_Mt y bytes maxL ret n) (hS : av.reverse ++ stk = S) (hn : av.length = n) (hl : Cond.methodLinkNest Z.1 index y host ∈ sf_NW) (hs : Cond.static y ∈ sf_TB) (hd1 : dc + 1 ≤ Z.2.2.1) (hk : stk.length ≤ 4) (hd : decode Z.2.1 pc = .ok (.invokestatic index, 3)) (kk : ∀ r, sf_Fr X Z (sf_p (pc + 3) env ((inj r).toList ++ stk)) (g r) land) : sf_Fr X Z (sf_p pc env S) (sf_bnd f g) land := by
  refine fr_ef (hOk.1 X) (fun C σ v σ' e hB kt H locs ls hH hL => ?_) kk
  have g1 := (hOk.1 X).cn e
  have g2 := (hOk.1 X).sn e
  have hr := va_runSN (As := av.map (sf_cv (sf_XG X))) (rest := stk.map (sf_cv (sf_XG X))) (g := F0 (sf_Xm X) pc ls (S.map (sf_cv (sf_XG X)))) (locs := locs) (below := sf_Xb X) (e := X.2.2.1) (meth := sf_Xt X) (sf_fix C) (hOk.2 X.2.1 (sf_XG X) σ v σ' e) ⟨sf_cn2 C hM hd1 hl _ _, C.hts hs, trivial⟩ (sf_preS C hH) rfl (by rw [List.length_map]; exact hn) hL.1 (sf_stkeq hS) (by
      have := sf_wd (sf_XG X) stk hk
      show 2 * 0 + _ ≤ 8
      omega) hd (sf_bdc hH hB g1 g2)
  exact sf_run hr g1 g2 hH hL kt
theorem sf_rc_some {ci : Nat} {o : Option Nat} {σ σ' : sf_St} {v : α} (h : sf_rc ci o f σ = some (v, σ')) : sf_isO ci o σ = true ∧ f σ = some (v, σ') := by
  unfold sf_rc at h
  split at h
  next ho => exact ⟨ho, h⟩
  next => cases h
theorem fr_callV {ci : Nat} {T : u_T} {N : Nat} {ty0 : Nat → FieldType} {o : Option Nat} {As : List Value} (q : sf_Cl ci y.cls T N ty0) (hOk : sf_Ok y bytes maxL ret dc (sf_rv o :: As) f inj) (hM : sf_Mt y bytes maxL ret n) (hS : As.reverse ++ (sf_rv o :: stk) = S) (hn : As.length = n) (hl : Cond.methodLink Z.1 index y ∈ sf_TB) (hin : Cond.instanceMethod y ∈ sf_TB) (hse : Cond.selects y.cls y y ∈ sf_TB) (hd1 : dc + 1 ≤ Z.2.2.1) (hk : stk.length ≤ 4) (hd : decode Z.2.1 pc = .ok (.invokevirtual index, 3)) (kk : ∀ r, sf_Fr X Z (sf_p (pc + 3) env ((inj r).toList ++ stk)) (g r) land) : sf_Fr X Z (sf_p pc env S) (sf_bnd (sf_rc ci o f) g) land := by
  refine fr_ef ((hOk.1 X).rc) (fun C σ v σ' e0 hB kt H locs ls hH hL => ?_) kk
  obtain ⟨ho, e⟩ := sf_rc_some e0
  clear e0
  have g1 := (hOk.1 X).cn e
  have g2 := (hOk.1 X).sn e
  obtain ⟨a, n0, rfl, ha⟩ := sf_isO_spec ho q.1
  have hP := sf_one hH.1 ha
  rw [sf_ce_obj] at hP
  have hst : S.map (sf_cv (sf_XG X)) = (As.map (sf_cv (sf_XG X))).reverse ++ .ref (sf_sz (sf_XG X) + a) :: stk.map (sf_cv (sf_XG X)) := by
    rw [← hS, List.map_append, List.map_reverse]; rfl
  have hpre := sf_preS (av := sf_rv (some a) :: As) C hH
  have hr := va_runV (C := y.cls) (b := sf_sz (sf_XG X) + a) (As := As.map (sf_cv (sf_XG X))) (rest := stk.map (sf_cv (sf_XG X))) (g := F0 (sf_Xm X) pc ls (S.map (sf_cv (sf_XG X)))) (locs := locs) (below := sf_Xb X) (e := X.2.2.1) (meth := sf_Xt X) (sf_fix C) (hOk.2 X.2.1 (sf_XG X) σ v σ' e) ⟨sf_cb C hM hd1 hl _ _, C.hts hin, C.hts hse⟩ ⟨hpre.1, va_recv (q0 := 0) C.kk.1 hP q.2.1 rfl, hpre.2⟩ rfl (by rw [List.length_map]; exact hn) hL.1 hst (by
      have := sf_wd (sf_XG X) stk hk
      show 2 * 0 + _ ≤ 8
      omega) hd (sf_bdc hH hB g1 g2)
  exact sf_run hr g1 g2 hH hL kt
theorem fr_callI {ci : Nat} {o : Option Nat} {As : List Value} (hci : ci < 20) (hy : y.name = "<init>") (hOk : sf_Ok y bytes maxL none dc (sf_rv o :: As) f inj) (hM : sf_Mt y bytes maxL none n) (hS : As.reverse ++ (sf_rv o :: stk) = S) (hn : As.length = n) (hl : Cond.methodLink Z.1 index y ∈ sf_TB) (hin : Cond.instanceMethod y ∈ sf_TB) (hd1 : dc + 1 ≤ Z.2.2.1) (hk : stk.length ≤ 4) (hd : decode Z.2.1 pc = .ok (.invokespecial index, 3)) (kk : ∀ r, sf_Fr X Z (sf_p (pc + 3) env ((inj r).toList ++ stk)) (g r) land) : sf_Fr X Z (sf_p pc env S) (sf_bnd (sf_rc ci o f) g) land := by
  refine fr_ef ((hOk.1 X).rc) (fun C σ v σ' e0 hB kt H locs ls hH hL => ?_) kk
  obtain ⟨ho, e⟩ := sf_rc_some e0
  clear e0
  have g1 := (hOk.1 X).cn e
  have g2 := (hOk.1 X).sn e
  obtain ⟨a, n0, rfl, ha⟩ := sf_isO_spec ho hci
  have hst : S.map (sf_cv (sf_XG X)) = (As.map (sf_cv (sf_XG X))).reverse ++ .ref (sf_sz (sf_XG X) + a) :: stk.map (sf_cv (sf_XG X)) := by
    rw [← hS, List.map_append, List.map_reverse]; rfl
  have hpre := sf_preS (av := sf_rv (some a) :: As) C hH
  have hr := va_runI (b := sf_sz (sf_XG X) + a) (As := As.map (sf_cv (sf_XG X))) (rest := stk.map (sf_cv (sf_XG X))) (g := F0 (sf_Xm X) pc ls (S.map (sf_cv (sf_XG X)))) (locs := locs) (below := sf_Xb X) (e := X.2.2.1) (meth := sf_Xt X) (sf_fix C) (hOk.2 X.2.1 (sf_XG X) σ v σ' e) ⟨sf_cb C hM hd1 hl _ _, hy, C.hts hin⟩ hpre rfl (by rw [List.length_map]; exact hn) hL.1 hst (by
      have := sf_wd (sf_XG X) stk hk
      show 2 * 0 + _ ≤ 8
      omega) hd (sf_bdc hH hB g1 g2)
  exact sf_run hr g1 g2 hH hL kt
theorem fr_callIN {ci : Nat} {o : Option Nat} {As : List Value} {host : String} (hci : ci < 20) (hy : y.name = "<init>") (hOk : sf_Ok y bytes maxL none dc (sf_rv o :: As) f inj) (hM : sf_Mt y bytes maxL none n) (hS : As.reverse ++ (sf_rv o :: stk) = S) (hn : As.length = n) (hl : Cond.methodLinkNest Z.1 index y host ∈ sf_NW) (hin : Cond.instanceMethod y ∈ sf_TB) (hd1 : dc + 1 ≤ Z.2.2.1) (hk : stk.length ≤ 4) (hd : decode Z.2.1 pc = .ok (.invokespecial index, 3)) (kk : ∀ r, sf_Fr X Z (sf_p (pc + 3) env ((inj r).toList ++ stk)) (g r) land) : sf_Fr X Z (sf_p pc env S) (sf_bnd (sf_rc ci o f) g) land := by
  refine fr_ef ((hOk.1 X).rc) (fun C σ v σ' e0 hB kt H locs ls hH hL => ?_) kk
  obtain ⟨ho, e⟩ := sf_rc_some e0
  clear e0
  have g1 := (hOk.1 X).cn e
  have g2 := (hOk.1 X).sn e
  obtain ⟨a, n0, rfl, ha⟩ := sf_isO_spec ho hci
  have hst : S.map (sf_cv (sf_XG X)) = (As.map (sf_cv (sf_XG X))).reverse ++ .ref (sf_sz (sf_XG X) + a) :: stk.map (sf_cv (sf_XG X)) := by
    rw [← hS, List.map_append, List.map_reverse]; rfl
  have hpre := sf_preS (av := sf_rv (some a) :: As) C hH
  have hr := va_runIN (b := sf_sz (sf_XG X) + a) (As := As.map (sf_cv (sf_XG X))) (rest := stk.map (sf_cv (sf_XG X))) (g := F0 (sf_Xm X) pc ls (S.map (sf_cv (sf_XG X)))) (locs := locs) (below := sf_Xb X) (e := X.2.2.1) (meth := sf_Xt X) (sf_fix C) (hOk.2 X.2.1 (sf_XG X) σ v σ' e) ⟨sf_cn2 C hM hd1 hl _ _, hy, C.hts hin⟩ hpre rfl (by rw [List.length_map]; exact hn) hL.1 hst (by
      have := sf_wd (sf_XG X) stk hk
      show 2 * 0 + _ ≤ 8
      omega) hd (sf_bdc hH hB g1 g2)
  exact sf_run hr g1 g2 hH hL kt
theorem fr_obj {ci : Nat} {o : Option Nat} {g : Unit → sf_M ρ} (hci : ci < 20) (hl : Cond.methodLink Z.1 index objectInit ∈ sf_TB) (hin : Cond.instanceMethod objectInit ∈ sf_TB) (hc : Cond.code objectInit ⟨#[0xb1]⟩ 1 none ∈ sf_TB) (hd1 : 1 ≤ Z.2.2.1) (hk : stk.length ≤ 4) (hd : decode Z.2.1 pc = .ok (.invokespecial index, 3)) (kk : sf_Fr X Z (sf_p (pc + 3) env stk) (g ()) land) : sf_Fr X Z (sf_p pc env (sf_rv o :: stk)) (sf_bnd (sf_rc ci o (sf_ret ())) g) land := by
  refine fr_ef (L1 := fun _ => sf_p (pc + 3) env stk) ((sf_Gr.ret ()).rc) (fun C σ v σ' e hB kt H locs ls hH hL => ?_) (fun _ => kk)
  obtain ⟨ho, e⟩ := sf_rc_some e
  cases e
  obtain ⟨a, n0, rfl, ha⟩ := sf_isO_spec ho hci
  have h1 := C.2.2.2.2.2.2.2.2.1
  have h2 := C.2.2.2.2.2.2.2.2.2.1
  have hwd := sf_wd (sf_XG X) stk hk
  exact W.objInit C.1 C.2.1 C.2.2.2.1 (C.hts hl) (C.hts hin) (C.hts hc) rfl (by rw [C.2.2.1]; exact hL.1) rfl hd (by omega) (by show 2 * 0 + _ + 12 ≤ _; omega) (kt H locs ls hH hL)
end FRI
