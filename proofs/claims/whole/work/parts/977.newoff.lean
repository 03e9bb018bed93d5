/-! Offices made later: a new one. -/
abbrev of12 : List (Nat × Nat) := [(14, 14), (15, 4), (0, 192), (0, 6), (0, 6), (0, 6), (6, 6), (0, 6), (0, 6), (13, 2), (0, 12), (0, 64)]
section
variable {t : List (Nat × Nat)} {I : Nat → Nat → Int32} {J : Nat → Nat → Int64} {D : Nat → Nat → Option Nat} {K : Nat → Int32}
set_option maxRecDepth 20000 in
theorem ss_newA {β : Type} {g : Option Nat → sf_M β} {Q : β → sf_St → Prop} {ty m : Nat} {n : Int32} {l l' : List (Nat × Nat)} (hn : zp_in n 65536) (hl : l ++ [(ty, sf_ix n)] = l') (hm : l.length = m) (h : zp_wp (g (some (139 + t.length + m))) Q (zp_Z (t ++ l') (sf_u1 I (139 + t.length + m) (fun _ => 0)) (sf_u1 J (139 + t.length + m) (fun _ => 0)) (sf_u1 D (139 + t.length + m) (fun _ => none)))) : zp_wp (sf_bnd (sf_newA ty n) g) Q (zp_Z (t ++ l) I J D) := by
  rw [pz_newA hn, List.append_assoc, hl, show 139 + (t ++ l).length = 139 + t.length + m by rw [List.length_append, hm]; omega]
  exact h
set_option maxRecDepth 20000 in
theorem ss_new {β : Type} {g : Option Nat → sf_M β} {Q : β → sf_St → Prop} {ci N m : Nat} {l l' : List (Nat × Nat)} (hl : l ++ [(10 + ci, N)] = l') (hm : l.length = m) (h : zp_wp (g (some (139 + t.length + m))) Q (zp_Z (t ++ l') (sf_u1 I (139 + t.length + m) (fun _ => 0)) (sf_u1 J (139 + t.length + m) (fun _ => 0)) (sf_u1 D (139 + t.length + m) (fun _ => none)))) : zp_wp (sf_bnd (sf_new ci N) g) Q (zp_Z (t ++ l) I J D) := by
  rw [pz_new, List.append_assoc, hl, show 139 + (t ++ l).length = 139 + t.length + m by rw [List.length_append, hm]; omega]
  exact h
set_option maxRecDepth 20000 in
theorem ss_pRh {β : Type} {g : Unit → sf_M β} {Q : β → sf_St → Prop} {ci N m k : Nat} {v : Option Nat} {l : List (Nat × Nat)} (hs : l.getD m (999, 0) = (10 + ci, N)) (h : zp_wp (g ()) Q (zp_Z (t ++ l) I J (sf_u2 D (139 + t.length + m) k v))) : zp_wp (sf_bnd (sf_pR ci k (some (139 + t.length + m)) v) g) Q (zp_Z (t ++ l) I J D) := ss_pR (sh_end.trans hs) (zp_pt_hi (by omega)) h
set_option maxRecDepth 20000 in
theorem ss_pIh {β : Type} {g : Unit → sf_M β} {Q : β → sf_St → Prop} {ci N m k : Nat} {v : Int32} {l : List (Nat × Nat)} (hs : l.getD m (999, 0) = (10 + ci, N)) (h : zp_wp (g ()) Q (zp_Z (t ++ l) (sf_u2 I (139 + t.length + m) k v) J D)) : zp_wp (sf_bnd (sf_pI ci k (some (139 + t.length + m)) v) g) Q (zp_Z (t ++ l) I J D) := ss_pI (sh_end.trans hs) h
set_option maxRecDepth 20000 in
theorem ss_rch {α β : Type} {f : sf_M α} {g : α → sf_M β} {Q : β → sf_St → Prop} {ci N m : Nat} {l : List (Nat × Nat)} (hs : l.getD m (999, 0) = (10 + ci, N)) (h : zp_wp (sf_bnd f g) Q (zp_Z (t ++ l) I J D)) : zp_wp (sf_bnd (sf_rc ci (some (139 + t.length + m)) f) g) Q (zp_Z (t ++ l) I J D) := ss_rc (sh_end.trans hs) h
set_option maxRecDepth 20000 in
theorem cx_newOff {β : Type} {kk : Option Nat → sf_M β} {Q : β → sf_St → Prop} (h : ∀ I' J' D', (∀ x, x < 139 + t.length → I' x = I x) → (∀ x k, x < 139 + t.length → D' x k = D x k) → of_sh (t ++ of12) D' (139 + t.length) → zp_wp (kk (some (139 + t.length))) Q (zp_Z (t ++ of12) I' J' D')) : zp_wp (sf_bnd (sf_new 4 14) fun x11 => sf_bnd (sf_rc 4 x11 (jx_Office_init x11)) fun _ => kk x11) Q (zp_Z t I J D) := by
  have e0 : zp_Z t I J D = zp_Z (t ++ []) I J D := by rw [List.append_nil]
  rw [e0]
  have h' : ∀ I' J' D', (∀ x, x < 139 + t.length → I' x = I x) → (∀ x k, x < 139 + t.length → D' x k = D x k) → of_sh (t ++ of12) D' (139 + t.length + 0) → zp_wp (kk (some (139 + t.length + 0))) Q (zp_Z (t ++ of12) I' J' D') := h
  clear h e0
  refine ss_new (m := 0) rfl rfl ?_
  refine ss_rch rfl ?_
  unfold jx_Office_init jx_Pocket_init jx_Machine_init
  refine ss_as ?_
  refine ss_rch rfl ?_
  refine ss_bret ?_
  refine ss_as ?_
  refine ss_new (m := 1) rfl rfl ?_
  refine ss_as ?_
  refine ss_rch rfl ?_
  refine ss_as ?_
  refine ss_rch rfl ?_
  refine ss_bret ?_
  refine ss_as ?_
  refine ss_newA (m := 2) (by decide) rfl rfl ?_
  refine ss_as ?_
  refine ss_pRh rfl ?_
  refine ss_as ?_
  refine ss_pIh rfl ?_
  refine ss_as ?_
  refine ss_pIh rfl ?_
  refine ss_as ?_
  refine ss_pIh rfl ?_
  refine ss_bret ?_
  refine ss_as ?_
  refine ss_pRh rfl ?_
  refine ss_as ?_
  refine ss_pIh rfl ?_
  refine ss_as ?_
  refine ss_newA (m := 3) (by decide) rfl rfl ?_
  refine ss_as ?_
  refine ss_pRh rfl ?_
  refine ss_as ?_
  refine ss_newA (m := 4) (by decide) rfl rfl ?_
  refine ss_as ?_
  refine ss_pRh rfl ?_
  refine ss_as ?_
  refine ss_newA (m := 5) (by decide) rfl rfl ?_
  refine ss_as ?_
  refine ss_pRh rfl ?_
  refine ss_as ?_
  refine ss_pIh rfl ?_
  refine ss_as ?_
  refine ss_pIh rfl ?_
  refine ss_as ?_
  refine ss_newA (m := 6) (by decide) rfl rfl ?_
  refine ss_as ?_
  refine ss_pRh rfl ?_
  refine ss_as ?_
  refine ss_pIh rfl ?_
  refine ss_as ?_
  refine ss_newA (m := 7) (by decide) rfl rfl ?_
  refine ss_as ?_
  refine ss_pRh rfl ?_
  refine ss_as ?_
  refine ss_newA (m := 8) (by decide) rfl rfl ?_
  refine ss_as ?_
  refine ss_pRh rfl ?_
  refine ss_as ?_
  refine ss_pIh rfl ?_
  refine ss_as ?_
  refine ss_pIh rfl ?_
  refine ss_as ?_
  refine ss_new (m := 9) rfl rfl ?_
  refine ss_as ?_
  refine ss_rch rfl ?_
  refine ss_as ?_
  refine ss_rch rfl ?_
  refine ss_bret ?_
  refine ss_as ?_
  refine ss_newA (m := 10) (by decide) rfl rfl ?_
  refine ss_as ?_
  refine ss_pRh rfl ?_
  refine ss_as ?_
  refine ss_newA (m := 11) (by decide) rfl rfl ?_
  refine ss_as ?_
  refine ss_pRh rfl ?_
  refine ss_bret ?_
  refine ss_as ?_
  refine ss_pRh rfl ?_
  refine ss_bret ?_
  refine h' _ _ _ (fun x hx => ?_) (fun x k hx => ?_) ⟨by omega, sh_end (i := 0), sh_end (i := 1), sh_end (i := 2), sh_end (i := 3), sh_end (i := 4), sh_end (i := 5), sh_end (i := 6), sh_end (i := 7), sh_end (i := 8), ?_, ?_, ?_, ?_, ?_, ?_, ?_, ?_⟩
  · repeat (first | rw [zu_r (by omega)] | rw [zu1_a (by omega)])
  · repeat (first | rw [zu_a (by omega)] | rw [zu1_a (by omega)])
  all_goals (repeat (first | rw [zu_eq] | rw [zu_k (by decide)] | rw [zu_a (by omega)] | rw [zu1_a (by omega)]))
end
