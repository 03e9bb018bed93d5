/-! A new Program. -/
set_option maxRecDepth 20000 in
theorem sh_end {t l : List (Nat × Nat)} {i : Nat} : (zp_sh0 ++ (t ++ l)).getD (139 + t.length + i) (999, 0) = l.getD i (999, 0) := by
  have hl : zp_sh0.length = 139 := rfl
  rw [List.getD_eq_getElem?_getD, List.getD_eq_getElem?_getD, List.getElem?_append_right (by omega), List.getElem?_append_right (by omega)]
  congr 2; omega
set_option maxRecDepth 20000 in
theorem zp_pt_hi {a k : Nat} (h : 139 ≤ a) : zp_pt a k = none := by
  have hl : zp_ptl.length = 139 := rfl
  have e : zp_ptl.getD a [] = [] := by
    rw [List.getD_eq_getElem?_getD, List.getElem?_eq_none (by omega)]; rfl
  unfold zp_pt
  rw [e]; rfl
set_option maxRecDepth 20000 in
theorem rfs_hi {D : Nat → Nat → Option Nat} {a k : Nat} (h : 139 ≤ a) : zp_rfs D a k = D a k := by
  unfold zp_rfs; rw [zp_pt_hi h]
abbrev pg_sh : List (Nat × Nat) := [(16, 5), (0, 400), (0, 400), (0, 72)]
section
variable {t : List (Nat × Nat)} {I : Nat → Nat → Int32} {J : Nat → Nat → Int64} {D : Nat → Nat → Option Nat}
set_option maxRecDepth 20000 in
theorem cx_newProg {β : Type} {kk : Option Nat → sf_M β} {Q : β → sf_St → Prop} (h : ∀ I' J' D', (∀ x, x < 139 + t.length → I' x = I x) → (∀ x k, x < 139 + t.length → D' x k = D x k) → zr_pp (t ++ pg_sh) D' (139 + t.length) → zp_wp (kk (some (139 + t.length))) Q (zp_Z (t ++ pg_sh) I' J' D')) : zp_wp (sf_bnd (sf_new 6 5) fun x11 => sf_bnd (sf_rc 6 x11 (jx_Program_init x11)) fun _ => kk x11) Q (zp_Z t I J D) := by
  rw [pz_new]
  have s0 : ∀ l, (zp_sh0 ++ (t ++ ((16, 5) :: l))).getD (139 + t.length) (999, 0) = (10 + 6, 5) := fun l => sh_end (i := 0)
  refine ss_rc (s0 []) ?_
  unfold jx_Program_init
  have l1 : 139 + (t ++ [((10 + 6, 5) : Nat × Nat)]).length = 139 + t.length + 1 := by rw [List.length_append]; rfl
  have l2 : 139 + (t ++ [((16, 5) : Nat × Nat), (0, 400)]).length = 139 + t.length + 2 := by rw [List.length_append]; rfl
  have l3 : 139 + (t ++ [((16, 5) : Nat × Nat), (0, 400), (0, 400)]).length = 139 + t.length + 3 := by rw [List.length_append]; rfl
  have t1 : t ++ [((10 + 6, 5) : Nat × Nat)] ++ [(0, sf_ix 400)] = t ++ [(16, 5), (0, 400)] := by rw [List.append_assoc]; rfl
  have t2 : t ++ [((16, 5) : Nat × Nat), (0, 400)] ++ [(0, sf_ix 400)] = t ++ [(16, 5), (0, 400), (0, 400)] := by rw [List.append_assoc]; rfl
  have t3 : t ++ [((16, 5) : Nat × Nat), (0, 400), (0, 400)] ++ [(0, sf_ix 72)] = t ++ pg_sh := by rw [List.append_assoc]; rfl
  refine ss_as ?_
  refine ss_rc (s0 []) ?_
  refine ss_bret ?_
  refine ss_as ?_
  rw [pz_newA (by decide)]
  rw [t1, l1]
  refine ss_as ?_
  refine ss_pR (s0 _) (zp_pt_hi (by omega)) ?_
  refine ss_as ?_
  rw [pz_newA (by decide)]
  rw [t2, l2]
  refine ss_as ?_
  refine ss_pR (s0 _) (zp_pt_hi (by omega)) ?_
  refine ss_as ?_
  rw [pz_newA (by decide)]
  rw [t3, l3]
  refine ss_as ?_
  refine ss_pR (s0 _) (zp_pt_hi (by omega)) ?_
  refine ss_as ?_
  refine ss_pI (s0 _) ?_
  refine ss_as ?_
  refine ss_pI (s0 _) ?_
  refine ss_bret ?_
  refine h _ _ _ (fun x hx => ?_) (fun x k hx => ?_) ⟨sh_end (i := 0), sh_end (i := 1), sh_end (i := 2), sh_end (i := 3), ?_, ?_, ?_⟩
  · rw [zu_r (by omega), zu_r (by omega), zu1_a (by omega), zu1_a (by omega), zu1_a (by omega), zu1_a (by omega)]
  · rw [zu_a (by omega), zu1_a (by omega), zu_a (by omega), zu1_a (by omega), zu_a (by omega), zu1_a (by omega), zu1_a (by omega)]
  · rw [rfs_hi (by omega), zu_k (by decide), zu1_a (by omega), zu_k (by decide), zu1_a (by omega), zu_eq]
  · rw [rfs_hi (by omega), zu_k (by decide), zu1_a (by omega), zu_eq]
  · rw [rfs_hi (by omega), zu_eq]
set_option maxRecDepth 20000 in
/-- the Program copied from the reader's -/
theorem cx_copyProg {a : Nat} {cs : List tx_C} (ha : 138 < a) (hp : zr_pp t D a) (hc : zr_prog I 98 cs) : zp_wp (jx_Program_copyFrom (some a) (some 98)) (fun _ τ => ∃ I', τ = zp_Z t I' J D ∧ zf (fun x _ => decide (a ≤ x) && decide (x < a + 4)) I I' ∧ zr_prog I' a cs) (zp_Z t I J D) := by
  obtain ⟨p1, p2, p3, p4, p5, p6, p7⟩ := hp
  unfold jx_Program_copyFrom
  refine ss_pt rfl rfl ?_
  refine ss_gR p1 p5 ?_
  refine ss_cpI (k := 400) rfl p2 rfl (by omega) (by omega) (by omega) (fun I1 f1 r1 _ => ?_)
  refine ss_pt rfl rfl ?_
  refine ss_gR p1 p6 ?_
  refine ss_cpI (k := 400) rfl p3 rfl (by omega) (by omega) (by omega) (fun I2 f2 r2 _ => ?_)
  refine ss_pt rfl rfl ?_
  refine ss_gR p1 p7 ?_
  refine ss_gR p1 p7 ?_
  refine ss_len p4 (by decide) ?_
  refine ss_cpI (k := 72) rfl p4 rfl (by omega) (by omega) (by omega) (fun I3 f3 r3 _ => ?_)
  have hlo : ∀ x k, x < 139 → I3 x k = I x k := fun x k hx => by
    rw [f3 x k (by simp; omega), f2 x k (by simp; omega), f1 x k (by simp; omega)]
  have v4 : ∀ v, sf_u2 I3 a 3 v 98 4 = I 98 4 := fun v => by rw [zu_a (by omega)]; exact hlo 98 4 (by omega)
  refine ss_gI rfl (hlo 98 3 (by omega)) ?_
  refine ss_pI p1 ?_
  refine ss_gI rfl (v4 _) ?_
  refine ss_pI p1 ?_
  obtain ⟨c1, c2, c3, c4, c5, c6⟩ := hc
  have q1 : ∀ k, k < 400 → I3 (a + 1) k = I 99 k := fun k hk => by
    rw [f3 (a + 1) k (by simp), f2 (a + 1) k (by simp), r1 k hk]
  have q2 : ∀ k, k < 400 → I3 (a + 2) k = I 100 k := fun k hk => by
    rw [f3 (a + 2) k (by simp), r2 k hk, f1 100 k (by simp; omega)]
  have q3 : ∀ k, k < 72 → I3 (a + 3) k = I 101 k := fun k hk => by
    rw [r3 k hk, f2 101 k (by simp; omega), f1 101 k (by simp; omega)]
  have hr : ∀ x, x ≠ a → sf_u2 (sf_u2 I3 a 3 (I 98 3)) a 4 (I 98 4) x = I3 x := fun x hx => by rw [zu_r hx, zu_r hx]
  refine ss_ret ⟨_, rfl, zf_u2 (zf_u2 (fun x k q => ?_) (by simp)) (by simp), ?_, c2, ?_, c4, fun k x hx => ?_, fun i cl hi => ?_⟩
  · simp only [Bool.and_eq_false_imp, decide_eq_true_eq, decide_eq_false_iff_not] at q
    rw [f3 x k (by simp; omega), f2 x k (by simp; omega), f1 x k (by simp; omega)]
  · rw [zu_eq]; exact c1
  · rw [zu_k (by decide), zu_eq]; exact c3
  · have hk : k < 400 := by
      have := (List.getElem?_eq_some_iff.mp hx).1
      omega
    rw [hr _ (by omega), hr _ (by omega), q1 k hk, q2 k hk]
    exact c5 k x hx
  · have hi12 : i < 12 := by
      have := (List.getElem?_eq_some_iff.mp hi).1
      omega
    have := c6 i cl hi
    unfold zr_cls at this ⊢
    rw [hr _ (by omega), q3 _ (by omega), q3 _ (by omega), q3 _ (by omega), q3 _ (by omega), q3 _ (by omega), q3 _ (by omega)]
    exact this
end
