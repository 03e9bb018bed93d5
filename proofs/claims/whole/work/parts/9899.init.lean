/-! The start: both objects made. -/
def mkI (L : List (Nat × Nat × Int32)) (a k : Nat) : Int32 := match L.find? (fun e => e.1 == a && e.2.1 == k) with
  | some e => e.2.2
  | none => 0
def mkR (L : List (Nat × Nat × Nat)) (a k : Nat) : Option Nat := (L.find? (fun e => e.1 == a && e.2.1 == k)).map (fun e => e.2.2)
set_option maxRecDepth 20000 in
theorem mkI_u2 {L : List (Nat × Nat × Int32)} {a k : Nat} {v : Int32} : sf_u2 (mkI L) a k v = mkI ((a, k, v) :: L) := by
  funext b j
  unfold sf_u2 mkI
  rw [List.find?_cons]
  by_cases h : b = a ∧ j = k
  · obtain ⟨rfl, rfl⟩ := h; simp
  · rw [if_neg h]
    have : (a == b && k == j) = false := by
      rw [Bool.and_eq_false_iff, beq_eq_false_iff_ne, beq_eq_false_iff_ne]
      by_cases e : a = b
      · exact Or.inr (fun e2 => h ⟨e.symm, e2.symm⟩)
      · exact Or.inl e
    simp only [this]
set_option maxRecDepth 20000 in
theorem mkI_0 {L : List (Nat × Nat × Int32)} {a k : Nat} {v : Int32} (h : mkI L a k = v) : sf_u2 (mkI L) a k v = mkI L := by
  funext b j
  unfold sf_u2
  split
  · next h2 => obtain ⟨rfl, rfl⟩ := h2; exact h.symm
  · rfl
set_option maxRecDepth 20000 in
theorem mkI_u1 {L : List (Nat × Nat × Int32)} {m : Nat} (h : L.all (fun e => e.1 != m) = true) : sf_u1 (mkI L) m (fun _ => 0) = mkI L := by
  funext b
  unfold sf_u1
  split
  · next e =>
    subst e
    funext j
    unfold mkI
    rw [List.find?_eq_none.mpr (fun x hx => ?_)]
    have := List.all_eq_true.mp h x hx
    rw [bne_iff_ne] at this
    rw [Bool.and_eq_true, beq_iff_eq]
    exact fun h2 => this h2.1
  · rfl
set_option maxRecDepth 20000 in
theorem mkR_u2 {L : List (Nat × Nat × Nat)} {a k v : Nat} : sf_u2 (mkR L) a k (some v) = mkR ((a, k, v) :: L) := by
  funext b j
  unfold sf_u2 mkR
  rw [List.find?_cons]
  by_cases h : b = a ∧ j = k
  · obtain ⟨rfl, rfl⟩ := h; simp
  · rw [if_neg h]
    have : (a == b && k == j) = false := by
      rw [Bool.and_eq_false_iff, beq_eq_false_iff_ne, beq_eq_false_iff_ne]
      by_cases e : a = b
      · exact Or.inr (fun e2 => h ⟨e.symm, e2.symm⟩)
      · exact Or.inl e
    simp only [this]
set_option maxRecDepth 20000 in
theorem mkR_u1 {L : List (Nat × Nat × Nat)} {m : Nat} (h : L.all (fun e => e.1 != m) = true) : sf_u1 (mkR L) m (fun _ => none) = mkR L := by
  funext b
  unfold sf_u1
  split
  · next e =>
    subst e
    funext j
    unfold mkR
    rw [List.find?_eq_none.mpr (fun x hx => ?_)]
    · rfl
    · have := List.all_eq_true.mp h x hx
      rw [bne_iff_ne] at this
      rw [Bool.and_eq_true, beq_iff_eq]
      exact fun h2 => this h2.1
  · rfl
def IS (n : Nat) (LI : List (Nat × Nat × Int32)) (LR : List (Nat × Nat × Nat)) : sf_St := (zp_sh0.take n, mkI LI, fun _ _ => 0, mkR LR)
set_option maxRecDepth 20000 in
theorem IS_k {n a : Nat} {LI : List (Nat × Nat × Int32)} {LR : List (Nat × Nat × Nat)} (h : a < n) : sf_k (IS n LI LR) a = (zp_sh0.getD a (999, 0)).1 ∧ sf_n (IS n LI LR) a = (zp_sh0.getD a (999, 0)).2 := by
  have : (zp_sh0.take n).getD a (999, 0) = zp_sh0.getD a (999, 0) := by
    rw [List.getD_eq_getElem?_getD, List.getD_eq_getElem?_getD, List.getElem?_take, if_pos h]
  unfold sf_k sf_n IS
  rw [this]
  exact ⟨rfl, rfl⟩
section
variable {α β : Type} {Q : β → sf_St → Prop} {n a k : Nat} {LI : List (Nat × Nat × Int32)} {LR : List (Nat × Nat × Nat)}
set_option maxRecDepth 20000 in
theorem is_mk {kk N : Nat} (hn : zp_sh0[n]? = some (kk, N)) (hI : LI.all (fun e => e.1 != n) = true) (hR : LR.all (fun e => e.1 != n) = true) : sf_mk kk N (IS n LI LR) = IS (n + 1) LI LR ∧ (zp_sh0.take n).length = n := by
  have hl : n < zp_sh0.length := (List.getElem?_eq_some_iff.mp hn).1
  have hlen : (zp_sh0.take n).length = n := by rw [List.length_take]; omega
  refine ⟨?_, hlen⟩
  unfold sf_mk IS
  simp only [hlen]
  rw [mkI_u1 hI, mkR_u1 hR, List.take_add_one, hn]
  congr 1
  congr 1
  congr 1
  funext b
  unfold sf_u1
  split <;> rfl
set_option maxRecDepth 20000 in
theorem is_new {m ci N : Nat} {g : Option Nat → sf_M β} (hm : n + 1 = m) (hn : zp_sh0[n]? = some (10 + ci, N)) (hI : LI.all (fun e => e.1 != n) = true) (hR : LR.all (fun e => e.1 != n) = true) (h : zp_wp (g (some n)) Q (IS m LI LR)) : zp_wp (sf_bnd (sf_new ci N) g) Q (IS n LI LR) := by
  subst hm
  obtain ⟨e1, e2⟩ := is_mk hn hI hR
  refine ss_call (v := some n) (τ := IS (n + 1) LI LR) ?_ h
  unfold sf_new
  rw [e1]
  show some (some (zp_sh0.take n).length, _) = _
  rw [e2]
set_option maxRecDepth 20000 in
theorem is_newA {m ty : Nat} {x : Int32} {g : Option Nat → sf_M β} (hm : n + 1 = m) (hx : (decide (0 ≤ x.toInt) && decide (x.toInt < 65536)) = true) (hn : zp_sh0[n]? = some (ty, sf_ix x)) (hI : LI.all (fun e => e.1 != n) = true) (hR : LR.all (fun e => e.1 != n) = true) (h : zp_wp (g (some n)) Q (IS m LI LR)) : zp_wp (sf_bnd (sf_newA ty x) g) Q (IS n LI LR) := by
  subst hm
  obtain ⟨e1, e2⟩ := is_mk hn hI hR
  refine ss_call (v := some n) (τ := IS (n + 1) LI LR) ?_ h
  unfold sf_newA
  rw [if_pos hx, e1]
  show some (some (zp_sh0.take n).length, _) = _
  rw [e2]
set_option maxRecDepth 20000 in
theorem is_isO {ci : Nat} (ha : a < n) (hk : (zp_sh0.getD a (999, 0)).1 = 10 + ci) : sf_isO ci (some a) (IS n LI LR) = true := by
  show (sf_k (IS n LI LR) a == 10 + ci) = true
  rw [(IS_k ha).1, hk, beq_self_eq_true]
set_option maxRecDepth 20000 in
theorem is_rc {ci : Nat} {f : sf_M α} {g : α → sf_M β} (ha : a < n) (hk : (zp_sh0.getD a (999, 0)).1 = 10 + ci) (h : zp_wp (sf_bnd f g) Q (IS n LI LR)) : zp_wp (sf_bnd (sf_rc ci (some a) f) g) Q (IS n LI LR) := by
  obtain ⟨x, τ, e, hq⟩ := h
  refine ⟨x, τ, ?_, hq⟩
  unfold sf_bnd sf_rc at *
  rw [if_pos (is_isO ha hk)]; exact e
set_option maxRecDepth 20000 in
theorem is_pR {ci p : Nat} {g : Unit → sf_M β} (ha : a < n) (hk : (zp_sh0.getD a (999, 0)).1 = 10 + ci) (h : zp_wp (g ()) Q (IS n LI ((a, k, p) :: LR))) : zp_wp (sf_bnd (sf_pR ci k (some a) (some p)) g) Q (IS n LI LR) := by
  refine ss_call (v := ()) (τ := IS n LI ((a, k, p) :: LR)) ?_ h
  unfold sf_pR
  rw [if_pos (is_isO ha hk)]
  show some ((), (_, _, _, sf_u2 (mkR LR) a k (some p))) = _
  rw [mkR_u2]; rfl
set_option maxRecDepth 20000 in
theorem is_pI {ci : Nat} {v : Int32} {g : Unit → sf_M β} (ha : a < n) (hk : (zp_sh0.getD a (999, 0)).1 = 10 + ci) (h : zp_wp (g ()) Q (IS n ((a, k, v) :: LI) LR)) : zp_wp (sf_bnd (sf_pI ci k (some a) v) g) Q (IS n LI LR) := by
  refine ss_call (v := ()) (τ := IS n ((a, k, v) :: LI) LR) ?_ h
  unfold sf_pI
  rw [if_pos (is_isO ha hk)]
  show some ((), (_, sf_u2 (mkI LI) a k v, _)) = _
  rw [mkI_u2]; rfl
set_option maxRecDepth 20000 in
theorem is_pI0 {ci : Nat} {g : Unit → sf_M β} (ha : a < n) (hk : (zp_sh0.getD a (999, 0)).1 = 10 + ci) (hv : mkI LI a k = 0) (h : zp_wp (g ()) Q (IS n LI LR)) : zp_wp (sf_bnd (sf_pI ci k (some a) 0) g) Q (IS n LI LR) := by
  refine ss_call (v := ()) (τ := IS n LI LR) ?_ h
  unfold sf_pI
  rw [if_pos (is_isO ha hk)]
  show some ((), (_, sf_u2 (mkI LI) a k 0, _)) = _
  rw [mkI_0 hv]; rfl
set_option maxRecDepth 20000 in
theorem is_isA {ty : Nat} {x : Int32} (ha : a < n) (hk : (zp_sh0.getD a (999, 0)).1 = ty) (hx : (decide (0 ≤ x.toInt) && decide (x.toInt < ((zp_sh0.getD a (999, 0)).2 : Int))) = true) : sf_isA ty (some a) x (IS n LI LR) = true := by
  show (sf_k (IS n LI LR) a == ty && (decide (0 ≤ x.toInt) && decide (x.toInt < (sf_n (IS n LI LR) a : Int)))) = true
  rw [(IS_k ha).1, (IS_k ha).2, hk, hx, beq_self_eq_true]; rfl
set_option maxRecDepth 20000 in
theorem is_sI {ty : Nat} {x v w : Int32} {g : Unit → sf_M β} (ha : a < n) (hk : (zp_sh0.getD a (999, 0)).1 = ty) (hx : (decide (0 ≤ x.toInt) && decide (x.toInt < ((zp_sh0.getD a (999, 0)).2 : Int))) = true) (hix : sf_ix x = k) (hw : sf_nw ty v = w) (h : zp_wp (g ()) Q (IS n ((a, k, w) :: LI) LR)) : zp_wp (sf_bnd (sf_sI ty (some a) x v) g) Q (IS n LI LR) := by
  refine ss_call (v := ()) (τ := IS n ((a, k, w) :: LI) LR) ?_ h
  unfold sf_sI
  rw [if_pos (is_isA ha hk hx)]
  show some ((), (_, sf_u2 (mkI LI) a (sf_ix x) (sf_nw ty v), _)) = _
  rw [hix, hw, mkI_u2]; rfl
set_option maxRecDepth 20000 in
theorem is_sR {ty ci p : Nat} {x : Int32} {g : Unit → sf_M β} (ha : a < n) (hk : (zp_sh0.getD a (999, 0)).1 = ty) (hx : (decide (0 ≤ x.toInt) && decide (x.toInt < ((zp_sh0.getD a (999, 0)).2 : Int))) = true) (hix : sf_ix x = k) (hp : p < n) (hpk : (zp_sh0.getD p (999, 0)).1 = 10 + ci) (h : zp_wp (g ()) Q (IS n LI ((a, k, p) :: LR))) : zp_wp (sf_bnd (sf_sR ty ci (some a) x (some p)) g) Q (IS n LI LR) := by
  refine ss_call (v := ()) (τ := IS n LI ((a, k, p) :: LR)) ?_ h
  unfold sf_sR
  rw [is_isA ha hk hx, is_isO hp hpk]
  show some ((), (_, _, _, sf_u2 (mkR LR) a (sf_ix x) (some p))) = _
  rw [hix, mkR_u2]; rfl
set_option maxRecDepth 20000 in
theorem is_gR {ci p : Nat} {g : Option Nat → sf_M β} (ha : a < n) (hk : (zp_sh0.getD a (999, 0)).1 = 10 + ci) (hv : mkR LR a k = some p) (h : zp_wp (g (some p)) Q (IS n LI LR)) : zp_wp (sf_bnd (sf_gR ci k (some a)) g) Q (IS n LI LR) := by
  refine ss_call (v := some p) (τ := IS n LI LR) ?_ h
  unfold sf_gR
  rw [if_pos (is_isO ha hk)]
  show some (mkR LR a k, _) = _
  rw [hv]
end
