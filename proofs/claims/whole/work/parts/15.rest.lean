/-! Names for what is stored; strings; what never ends. -/
def sf_fuel : Nat := 1000000
def sf_deep : Nat := 100
theorem sf_Ok.nil {α : Type} {y : MethodName} {bytes : ByteArray} {maxL : Nat} {ret : Option FieldType} {d : Nat} {av : List Value} {inj : α → Option Value} : sf_Ok y bytes maxL ret d av (sf_nil : sf_M α) inj := ⟨fun _ => sf_Gr.nil, fun l G σ r σ' e => by cases e⟩
section FRX
variable {X : sf_X} {Z : sf_Z} {env : List (Option Value)} {stk : List Value} {pc : Nat} {ρ : Type} {land : ρ → sf_L}
theorem fr_nistore_n {q : Fin 4} {i : Nat} {v : Int32} {g : Int32 → sf_M ρ} (hd : decode Z.2.1 pc = .ok (.istore_n q, 1)) (hi : (q : Nat) = i) (hn : i < Z.2.2.2.2.2) (hc : ∀ G, sf_c1 G env i) (k : ∀ x, sf_Fr X Z (sf_p (pc + 1) (env.set i (some (.int x))) stk) (g x) land) : sf_Fr X Z (sf_p pc env (.int v :: stk)) (sf_bnd (sf_ret v) g) land := fp_istore_n hd hi hn hc (k v)
theorem fr_nistore {i : Nat} {v : Int32} {g : Int32 → sf_M ρ} (hd : decode Z.2.1 pc = .ok (.istore i, 2)) (hn : i < Z.2.2.2.2.2) (hc : ∀ G, sf_c1 G env i) (k : ∀ x, sf_Fr X Z (sf_p (pc + 2) (env.set i (some (.int x))) stk) (g x) land) : sf_Fr X Z (sf_p pc env (.int v :: stk)) (sf_bnd (sf_ret v) g) land := fp_istore hd hn hc (k v)
theorem fr_nlstore_n {q : Fin 4} {i : Nat} {v : Int64} {g : Int64 → sf_M ρ} (hd : decode Z.2.1 pc = .ok (.lstore_n q, 1)) (hi : (q : Nat) = i) (hn : i + 1 < Z.2.2.2.2.2) (hc : ∀ G, sf_c1 G env i) (k : ∀ x, sf_Fr X Z (sf_p (pc + 1) ((env.set i (some (.long x))).set (i + 1) none) stk) (g x) land) : sf_Fr X Z (sf_p pc env (.long v :: stk)) (sf_bnd (sf_ret v) g) land := fp_lstore_n hd hi hn hc (k v)
theorem fr_nlstore {i : Nat} {v : Int64} {g : Int64 → sf_M ρ} (hd : decode Z.2.1 pc = .ok (.lstore i, 2)) (hn : i + 1 < Z.2.2.2.2.2) (hc : ∀ G, sf_c1 G env i) (k : ∀ x, sf_Fr X Z (sf_p (pc + 2) ((env.set i (some (.long x))).set (i + 1) none) stk) (g x) land) : sf_Fr X Z (sf_p pc env (.long v :: stk)) (sf_bnd (sf_ret v) g) land := fp_lstore hd hn hc (k v)
theorem fr_niinc {i : Nat} {n : Int} {x w : Int32} {g : Int32 → sf_M ρ} (hd : decode Z.2.1 pc = .ok (.iinc i n, 3)) (he : env[i]? = some (some (.int x))) (hw : Int32.ofInt n = w) (hn : i < Z.2.2.2.2.2) (hc : ∀ G, sf_c1 G env i) (k : ∀ y, sf_Fr X Z (sf_p (pc + 3) (env.set i (some (.int y))) stk) (g y) land) : sf_Fr X Z (sf_p pc env stk) (sf_bnd (sf_ret (x + w)) g) land := fp_iinc hd he (by rw [hw]) hn hc (k (x + w))
/-- a String constant is asked -/
def sf_rs {α : Type} (w : UInt32) (f : sf_M α) : sf_M α := fun σ => if w.toNat < 24 then f σ else none
theorem gr_rs {α : Type} {w : UInt32} {f : sf_M α} (h : sf_Gr f) : sf_Gr (sf_rs w f) := fun σ r σ' e => by
  unfold sf_rs at e
  split at e
  · exact h σ r σ' e
  · cases e
theorem fr_callStr {w : UInt32} {As S : List Value} {y : MethodName} {bytes : ByteArray} {maxL : Nat} {ret : Option FieldType} {dc n index : Nat} {α : Type} {f : sf_M α} {inj : α → Option Value} {g : α → sf_M ρ} (hy : y.cls = "java/lang/String") (hOk : sf_Ok y bytes maxL ret dc (.float w :: As) f inj) (hM : sf_Mt y bytes maxL ret n) (hS : As.reverse ++ (.float w :: stk) = S) (hn : As.length = n) (hl : Cond.methodLink Z.1 index y ∈ sf_TB) (hin : Cond.instanceMethod y ∈ sf_TB) (hse : Cond.selects y.cls y y ∈ sf_TB) (hd1 : dc + 1 ≤ Z.2.2.1) (hk : stk.length ≤ 4) (hd : decode Z.2.1 pc = .ok (.invokevirtual index, 3)) (kk : ∀ r, sf_Fr X Z (sf_p (pc + 3) env ((inj r).toList ++ stk)) (g r) land) : sf_Fr X Z (sf_p pc env S) (sf_bnd (sf_rs w f) g) land := by
  refine fr_ef (gr_rs (hOk.1 X)) (fun C σ v σ' e0 hB kt H locs ls hH hL => ?_) kk
  unfold sf_rs at e0
  split at e0
  next hw =>
    have e := e0
    clear e0
    have g1 := (hOk.1 X).cn e
    have g2 := (hOk.1 X).sn e
    have hst : S.map (sf_cv (sf_XG X)) = (As.map (sf_cv (sf_XG X))).reverse ++ .ref ((sf_XG X).2.2.2.2.1 w.toNat) :: stk.map (sf_cv (sf_XG X)) := by
      rw [← hS, List.map_append, List.map_reverse]; rfl
    have hpre := sf_preS (av := .float w :: As) C hH
    obtain ⟨adV, -, hvk⟩ := C.kk.2.2.2.2.2.1
    have hvk2 := hvk.kept (sf_old C)
    have hrec := vk_recv hvk2 hw (sf_S C.2.2.2.2.2.2.1 C hH)
    have hr := va_runV (C := y.cls) (b := (sf_XG X).2.2.2.2.1 w.toNat) (As := As.map (sf_cv (sf_XG X))) (rest := stk.map (sf_cv (sf_XG X))) (g := F0 (sf_Xm X) pc ls (S.map (sf_cv (sf_XG X)))) (locs := locs) (below := sf_Xb X) (e := X.2.2.1) (meth := sf_Xt X) (sf_fix C) (hOk.2 X.2.1 (sf_XG X) σ v σ' e) ⟨sf_cb C hM hd1 hl _ _, C.hts hin, C.hts hse⟩ ⟨hpre.1, by rw [hy]; exact hrec, hpre.2⟩ rfl (by rw [List.length_map]; exact hn) hL.1 hst (by
        have := sf_wd (sf_XG X) stk hk
        show 2 * 0 + _ ≤ 8
        omega) hd (sf_bdc hH hB g1 g2)
    exact sf_run hr g1 g2 hH hL kt
  next => cases e0
end FRX
