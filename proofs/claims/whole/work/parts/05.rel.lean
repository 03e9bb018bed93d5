/-! The real heap beside a plain state; what is known of the machine; being at a place of a method. -/
-- class and slots of each class, class of each kind of row, where our cells begin, the heap ahead of them, String constants, other old references
abbrev sf_G : Type := va_G × (Nat → ClassId) × Nat × Heap × (Nat → Nat) × (Nat → Value)
def sf_sz (G : sf_G) : Nat := G.2.2.1
def sf_rv (r : Option Nat) : Value := va_rf r
def sf_cv (G : sf_G) (v : Value) : Value := match v with
  | .ref a => .ref (sf_sz G + a)
  | .float k => .ref (G.2.2.2.2.1 k.toNat)
  | .double k => match G.2.2.2.2.2 k.toNat with
    | .ref a => .ref a
    | _ => .null
  | .int x => .int x
  | .long x => .long x
  | .null => .null
  | v => v
def sf_rr (G : sf_G) (r : Option Nat) : Option Nat := r.map (fun a => sf_sz G + a)
theorem sf_cv_rv (G : sf_G) (r : Option Nat) : sf_cv G (sf_rv r) = va_rf (sf_rr G r) := by cases r <;> rfl
def sf_fv (G : sf_G) (σ : sf_St) (ci i k : Nat) : Value := if sf_fr ci k = true then va_rf (sf_rr G (σ.2.2.2 i k)) else .int (σ.2.1 i k)
def sf_ce (G : sf_G) (σ : sf_St) (i k n : Nat) : va_E :=
  if 10 ≤ k then .inr (k - 10, (List.range (sf_N (k - 10))).map (sf_fv G σ (k - 10) i))
  else if k = 1 then .inl (G.2.1 1, n, .inr (.inl (σ.2.2.1 i)))
  else if 4 ≤ k then .inl (G.2.1 k, n, .inr (.inr (.inr (.inr (fun j => sf_rr G (σ.2.2.2 i j))))))
  else .inl (G.2.1 k, n, .inl (σ.2.1 i))
def sf_at (G : sf_G) (σ : sf_St) (H : Heap) (i k n : Nat) : Prop := va_at G.1 sf_cl (sf_sz G + i, sf_ce G σ i k n) H
def sf_Rel (G : sf_G) (σ : sf_St) (H : Heap) : Prop :=
  H.size = sf_sz G + σ.1.length ∧ (∀ q : Nat, q < sf_sz G → H[q]? = G.2.2.2.1[q]?) ∧ ∀ i k n, σ.1[i]? = some (k, n) → sf_at G σ H i k n
def sf_tys (G : sf_G) : List (ClassId × FieldType) := [(G.2.1 0, .int), (G.2.1 1, .long), (G.2.1 2, .byte), (G.2.1 3, .boolean), (G.2.1 4, .object "SplitFares$Pocket"), (G.2.1 5, .object "SplitFares$Office"), (G.2.1 6, .object "SplitFares$Program")]
def sf_strI : List Nat := [96, 98, 100, 102, 104, 153, 157, 159, 161, 163, 165, 167, 147, 91, 149, 151, 155, 106, 74, 76, 51, 115, 117, 132]
def sf_strT : List String := ["single", "return", "ride", "save", "pass", "day", "done", "latest", "at", "purse", "held", "stops", "from", "to", "far", "hour", "mood", "times", "costs", "bars", "if", "or", "and", "not"]
def sf_strL : List Nat := [6, 6, 4, 4, 4, 3, 4, 6, 2, 5, 4, 5, 4, 2, 3, 4, 4, 5, 5, 4, 2, 2, 3, 3]
def sf_strB : List (List Int32) := [[115, 105, 110, 103, 108, 101], [114, 101, 116, 117, 114, 110], [114, 105, 100, 101], [115, 97, 118, 101], [112, 97, 115, 115], [100, 97, 121], [100, 111, 110, 101], [108, 97, 116, 101, 115, 116], [97, 116], [112, 117, 114, 115, 101], [104, 101, 108, 100], [115, 116, 111, 112, 115], [102, 114, 111, 109], [116, 111], [102, 97, 114], [104, 111, 117, 114], [109, 111, 111, 100], [116, 105, 109, 101, 115], [99, 111, 115, 116, 115], [98, 97, 114, 115], [105, 102], [111, 114], [97, 110, 100], [110, 111, 116]]
/-- what no call changes: the tables, the constants -/
def sf_KK (G : sf_G) (U : State) : Prop :=
  va_K G.1 sf_cl (sf_tys G) U ∧ (∀ w ∈ sf_NW, va_Nw w U) ∧ (va_AO "SplitFares$Pocket" U ∧ va_AO "SplitFares$Office" U ∧ va_AO "SplitFares$Program" U) ∧
  ((∃ t, G.2.2.2.2.2 0 = .ref t ∧ va_Z "SplitFares" "MOST_OF_TERM" "[I" (.ref t) (fun q => sf_sz G ≤ q) U G.2.2.2.1 ∧ va_T .int t 3 (fun j => .int (([999, 10, 9] : List Int32).getD j 0)) (fun q => sf_sz G ≤ q) U G.2.2.2.1) ∧
   (∃ t, G.2.2.2.2.2 1 = .ref t ∧ va_Z "SplitFares" "REFUSALS_IN_ORDER" "[I" (.ref t) (fun q => sf_sz G ≤ q) U G.2.2.2.1 ∧ va_T .int t 5 (fun j => .int (([1, 2, 3, 5, 6] : List Int32).getD j 0)) (fun q => sf_sz G ≤ q) U G.2.2.2.1)) ∧
  (va_Z "java/lang/String" "COMPACT_STRINGS" "Z" (.int 1) (fun q => sf_sz G ≤ q) U G.2.2.2.1 ∧ va_Z "jdk/internal/util/Preconditions" "SIOOBE_FORMATTER" "Ljava/util/function/BiFunction;" (sf_cv G (.double 2)) (fun q => sf_sz G ≤ q) U G.2.2.2.1) ∧
  (∃ adV : Nat → Nat, (∀ i, i < 24 → G.2.2.2.2.2 (3 + i) = .ref (adV i)) ∧ vk_S 24 sf_strL sf_strB G.2.2.2.2.1 adV (fun q => sf_sz G ≤ q) U G.2.2.2.1) ∧ ∀ i, i < 24 → vk_R "SplitFares$Reader" (sf_strI.getD i 0) (sf_strT.getD i "") (G.2.2.2.2.1 i) U
theorem sf_NW_nest : ∀ w ∈ sf_NW, ∃ a i x h, w = .methodLinkNest a i x h := by
  unfold sf_NW
  repeat' (first | exact List.forall_mem_cons.mpr ⟨⟨_, _, _, _, rfl⟩, ?_⟩ | refine List.forall_mem_cons.mpr ⟨⟨_, _, _, _, rfl⟩, ?_⟩)
  exact fun _ h => absurd h List.not_mem_nil
theorem sf_KK.warm {G : sf_G} {s U : State} (hW : s.WarmedH U.vm) (h : sf_KK G s) : sf_KK G U := by
  obtain ⟨h1, h2, ⟨h3, h4, h5⟩, ⟨⟨t1, a1, b1, c1⟩, ⟨t2, a2, b2, c2⟩⟩, ⟨h6, h7⟩, ⟨v, h8, h9⟩, h10⟩ := h
  have hv := hW.alike
  refine ⟨va_K.moved hv h1, fun w hw => ?_, ⟨va_AO.moved hv h3, va_AO.moved hv h4, va_AO.moved hv h5⟩, ⟨⟨t1, a1, va_Z.moved hv b1, va_T.moved hv c1⟩, ⟨t2, a2, va_Z.moved hv b2, va_T.moved hv c2⟩⟩, ⟨va_Z.moved hv h6, va_Z.moved hv h7⟩, ⟨v, h8, vk_S.moved hv h9⟩, fun i hi => vk_R.warm hW (h10 i hi)⟩
  have hw2 := h2 w hw
  obtain ⟨a, i, x, h, rfl⟩ := sf_NW_nest w hw
  exact va_Nw.warmM hW hw2
theorem sf_KK.same {G : sf_G} {u U : State} (hv : u.vm = U.vm) (h : sf_KK G u) : sf_KK G U := by
  obtain ⟨h1, h2, ⟨h3, h4, h5⟩, ⟨⟨t1, a1, b1, c1⟩, ⟨t2, a2, b2, c2⟩⟩, ⟨h6, h7⟩, ⟨v, h8, h9⟩, h10⟩ := h
  have hal : u.vm.Alike U.vm := by rw [hv]; exact Vm.Alike.refl _
  refine ⟨va_K.moved hal h1, fun w hw => ?_, ⟨va_AO.moved hal h3, va_AO.moved hal h4, va_AO.moved hal h5⟩, ⟨⟨t1, a1, va_Z.moved hal b1, va_T.moved hal c1⟩, ⟨t2, a2, va_Z.moved hal b2, va_T.moved hal c2⟩⟩, ⟨va_Z.moved hal h6, va_Z.moved hal h7⟩, ⟨v, h8, vk_S.moved hal h9⟩, fun i hi => vk_R.same hv.symm (h10 i hi)⟩
  have hw2 := h2 w hw
  obtain ⟨a, i, x, h, rfl⟩ := sf_NW_nest w hw
  exact va_Nw.same rfl hv hw2
-- the machine's own things, one behind the other: p l e s m args below meth c Q R G (locals) (cells and slots at the start)
abbrev sf_X : Type := Program × Launch × Env × State × MethodId × Array Value × List Frame × Method × Code × (State → Prop) × Room × sf_G × Nat × Nat × Nat
abbrev sf_Xs (X : sf_X) : State := X.2.2.2.1
abbrev sf_Xm (X : sf_X) : MethodId := X.2.2.2.2.1
abbrev sf_Xa (X : sf_X) : Array Value := X.2.2.2.2.2.1
abbrev sf_Xb (X : sf_X) : List Frame := X.2.2.2.2.2.2.1
abbrev sf_Xt (X : sf_X) : Method := X.2.2.2.2.2.2.2.1
abbrev sf_Xc (X : sf_X) : Code := X.2.2.2.2.2.2.2.2.1
abbrev sf_XQ (X : sf_X) : State → Prop := X.2.2.2.2.2.2.2.2.2.1
abbrev sf_XR (X : sf_X) : Room := X.2.2.2.2.2.2.2.2.2.2.1
abbrev sf_XG (X : sf_X) : sf_G := X.2.2.2.2.2.2.2.2.2.2.2.1
abbrev sf_Xn (X : sf_X) : Nat := X.2.2.2.2.2.2.2.2.2.2.2.2.1
abbrev sf_Xk (X : sf_X) : Nat := X.2.2.2.2.2.2.2.2.2.2.2.2.2.1
abbrev sf_Xj (X : sf_X) : Nat := X.2.2.2.2.2.2.2.2.2.2.2.2.2.2
def sf_W (X : sf_X) (H : Heap) (locs : List Loc) (cells slots : Nat) (g : JFrame) : Prop := W X.1 X.2.1 X.2.2.1 (sf_XR X) (sf_Xs X) (sf_Xm X) (sf_Xa X) (sf_Xb X) (sf_Xt X) (sf_Xc X) H locs cells slots (sf_XQ X) g
-- a method: its class, bytes, depth, name, type of answer, locals
abbrev sf_Z : Type := String × ByteArray × Nat × String × Option FieldType × Nat
/-- inside this method -/
def sf_Cx (X : sf_X) (Z : sf_Z) : Prop :=
  X.1.tables.exec = Jvm.exec ∧ (sf_Xc X).code = Z.2.1 ∧ (sf_Xc X).maxLocals = sf_Xn X ∧ (sf_Xs X).vm.findClass Z.1 = some (sf_Xm X).cls ∧ (∀ w ∈ sf_TB, w.before (sf_Xa X) (sf_Xs X) = true) ∧
  sf_KK (sf_XG X) (sf_Xs X) ∧ (∀ q : Nat, q < sf_sz (sf_XG X) → (sf_Xs X).heap[q]? = (sf_XG X).2.2.2.1[q]?) ∧ (sf_sz (sf_XG X) ≤ (sf_XG X).2.2.2.1.size ∧ (sf_Xs X).heap.size = sf_sz (sf_XG X) + sf_Xk X) ∧ Z.2.2.1 ≤ (sf_XR X).frames ∧ (64 * Z.2.2.1 ≤ (sf_XR X).locals ∧ (sf_Xt X).name = Z.2.2.2.1 ∧ (sf_Xt X).sig.returnType = Z.2.2.2.2.1 ∧ sf_Xn X = Z.2.2.2.2.2)
def sf_el (G : sf_G) (env : List (Option Value)) : List (Nat × Value) := (env.zipIdx).filterMap (fun q => q.1.map (fun v => (q.2, sf_cv G v)))
/-- the heap fits the state, what was written lies in our part, the state has grown since the start -/
def sf_HH (X : sf_X) (σ : sf_St) (H : Heap) (locs : List Loc) : Prop := sf_Rel (sf_XG X) σ H ∧ (∀ l ∈ locs, sf_sz (sf_XG X) ≤ l.base) ∧ sf_Xk X ≤ sf_cn σ ∧ sf_Xj X ≤ sf_sn σ
def sf_At (X : sf_X) (σ : sf_St) (env : List (Option Value)) (stk : List Value) (pc : Nat) : Prop :=
  ∀ H locs ls, sf_HH X σ H locs → lv_has ls (sf_Xn X) (sf_el (sf_XG X) env) → sf_W X H locs (sf_cn σ - sf_Xk X) (sf_sn σ - sf_Xj X) (F0 (sf_Xm X) pc ls (stk.map (sf_cv (sf_XG X))))
def sf_rop (v : Option Value) : Instr := match v with
  | none => .return_
  | some (.int _) => .ireturn
  | some (.long _) => .lreturn
  | some _ => .areturn
/-- what a method of this type may answer -/
def sf_rok (ret : Option FieldType) (v : Option Value) : Prop := match ret, v with
  | none, none => True
  | some .int, some (.int _) => True
  | some .boolean, some (.int x) => x = 0 ∨ x = 1
  | some .byte, some (.int x) => narrow .byte (.int x) = .int x
  | some .char, some (.int x) => narrow .char (.int x) = .int x
  | some .long, some (.long _) => True
  | some (.object _), some v => v = .null ∨ ∃ a, v = .ref a
  | _, _ => False
/-- the method's end with this answer -/
def sf_Fin (X : sf_X) (σ : sf_St) (v : Option Value) : Prop :=
  ∀ H locs ls pc, sf_HH X σ H locs → decode (sf_Xc X).code pc = .ok (sf_rop v, 1) → sf_rok (sf_Xt X).sig.returnType v → sf_W X H locs (sf_cn σ - sf_Xk X) (sf_sn σ - sf_Xj X) (F0 (sf_Xm X) pc ls ((v.toList).map (sf_cv (sf_XG X))))
abbrev sf_L : Type := (Nat × List (Option Value) × List Value) ⊕ Option Value
def sf_AtL (X : sf_X) (σ : sf_St) (L : sf_L) : Prop := match L with
  | .inl q => sf_At X σ q.2.1 q.2.2 q.1
  | .inr v => sf_Fin X σ v
def sf_Bd (X : sf_X) (σ : sf_St) : Prop := sf_cn σ ≤ sf_Xk X + (sf_XR X).cells ∧ sf_sn σ ≤ sf_Xj X + (sf_XR X).slots
/-- from L the bytecode runs f, and stands behind it where land says -/
def sf_Fr {ρ : Type} (X : sf_X) (Z : sf_Z) (L : sf_L) (f : sf_M ρ) (land : ρ → sf_L) : Prop :=
  sf_Gr f ∧ (sf_Cx X Z → ∀ σ r σ', f σ = some (r, σ') → sf_Bd X σ' → sf_AtL X σ' (land r) → sf_AtL X σ L)
abbrev sf_p (pc : Nat) (env : List (Option Value)) (stk : List Value) : sf_L := .inl (pc, env, stk)
theorem sf_Bd.mono {α : Type} {X : sf_X} {f : sf_M α} (hg : sf_Gr f) {σ σ' : sf_St} {r : α} (e : f σ = some (r, σ')) (h : sf_Bd X σ') : sf_Bd X σ := by
  have h1 := hg.cn e
  have h2 := hg.sn e
  exact ⟨Nat.le_trans h1 h.1, Nat.le_trans h2 h.2⟩
section FR
variable {X : sf_X} {Z : sf_Z} {ρ τ : Type}
theorem fr_ret {L : sf_L} {r : ρ} {land : ρ → sf_L} (h : L = land r) : sf_Fr X Z L (sf_ret r) land := ⟨sf_Gr.ret r, fun _ σ r' σ' e _ k => by cases e; rw [h]; exact k⟩
theorem fr_nil {L : sf_L} {land : ρ → sf_L} : sf_Fr X Z L sf_nil land := ⟨sf_Gr.nil, fun _ σ r' σ' e => by cases e⟩
theorem fr_bnd {L : sf_L} {f : sf_M τ} {g : τ → sf_M ρ} {l1 : τ → sf_L} {land : ρ → sf_L} (hf : sf_Fr X Z L f l1) (hg : ∀ t, sf_Fr X Z (l1 t) (g t) land) : sf_Fr X Z L (sf_bnd f g) land := by
  refine ⟨hf.1.bnd fun a => (hg a).1, fun C σ r σ' e hb k => ?_⟩
  obtain ⟨a, τ', e1, e2⟩ := sf_bnd_some e
  exact hf.2 C σ a τ' e1 (hb.mono (hg a).1 e2) ((hg a).2 C τ' r σ' e2 hb k)
theorem fr_or {L : sf_L} {f : sf_M (ρ ⊕ τ)} {g : τ → sf_M ρ} {l1 : τ → sf_L} {land : ρ → sf_L} (hf : sf_Fr X Z L f (fun r => match r with
  | .inl a => land a
  | .inr b => l1 b)) (hg : ∀ t, sf_Fr X Z (l1 t) (g t) land) : sf_Fr X Z L (sf_or f g) land := fr_bnd hf fun r => by
  cases r with
  | inl a => exact fr_ret rfl
  | inr b => exact hg b
theorem fr_loop {β : Type} {Lb : β → sf_L} {body : β → sf_M (β ⊕ ρ)} {land : ρ → sf_L} (h : ∀ b, sf_Fr X Z (Lb b) (body b) (fun r => match r with
  | .inl b' => Lb b'
  | .inr g => land g)) : ∀ n b, sf_Fr X Z (Lb b) (sf_loop body n b) land
  | 0, _ => fr_nil
  | n + 1, b => fr_bnd (h b) fun r => by
    cases r with
    | inl b' => exact fr_loop h n b'
    | inr g => exact fr_ret rfl
/-- a step that does nothing to the state -/
theorem fr_st {L L' : sf_L} {f : sf_M ρ} {land : ρ → sf_L} (h : sf_Cx X Z → ∀ σ, sf_AtL X σ L' → sf_AtL X σ L) (k : sf_Fr X Z L' f land) : sf_Fr X Z L f land := ⟨k.1, fun C σ r σ' e hb q => h C σ (k.2 C σ r σ' e hb q)⟩
theorem fr_ite {c : Prop} [Decidable c] {L : sf_L} {f g : sf_M ρ} {land : ρ → sf_L} (hf : c → sf_Fr X Z L f land) (hg : ¬ c → sf_Fr X Z L g land) : sf_Fr X Z L (if c then f else g) land := by
  by_cases h : c
  · rw [if_pos h]; exact hf h
  · rw [if_neg h]; exact hg h
end FR
