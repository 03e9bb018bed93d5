/-! What stands between two calls. -/
def pk_at (I : Nat → Nat → Int32) (a : Nat) (K : Nat → Int32) : Prop := (∀ i, i < 192 → I (a + 1) i = K i) ∧ I a 2 = K 192 ∧ I a 1 = K 193 ∧ I a 3 = K 194
def pk_ok (K : Nat → Int32) : Prop := (∀ i, i < 192 → 0 ≤ K i ∧ K i ≤ 9) ∧ (0 ≤ K 192 ∧ K 192 ≤ 7) ∧ (0 ≤ K 193 ∧ K 193 ≤ 99999) ∧ (0 ≤ K 194 ∧ K 194 ≤ 999)
abbrev lg_L : Type := List (Int32 × (Nat → Int32))
def cx_lg (b : Nat) (I : Nat → Nat → Int32) (L : lg_L) : Prop := L.length ≤ 16 ∧ I b 3 = Int32.ofNat L.length ∧ ∃ f, f < 16 ∧ I b 2 = Int32.ofNat f ∧ ∀ i e, L[i]? = some e → I (b + 2) ((f + i) % 16) = e.1 ∧ pk_at I (b + 3 + 2 * ((f + i) % 16)) e.2
def mx_lg (I : Nat → Nat → Int32) (L : lg_L) : Prop := L.length ≤ 16 ∧ I 112 40 = Int32.ofNat L.length ∧ ∀ i e, L[i]? = some e → (∀ k, k < 195 → I 133 (196 * i + k) = e.2 k) ∧ I 133 (196 * i + 195) = e.1
def lg_ok (L : lg_L) : Prop := ∀ e, e ∈ L → (∃ k, k < 4 ∧ e.1 = Int32.ofNat k) ∧ pk_ok e.2
def tp_ok (I : Nat → Nat → Int32) : Prop := (∃ n, n ≤ 400 ∧ I 95 1 = Int32.ofNat n ∧ I 112 13 = Int32.ofNat n) ∧ ∀ k, k < 400 → I 119 k = sf_nw 2 (I 96 k) ∧ 0 ≤ I 96 k ∧ I 96 k ≤ 255
def ms_ok (I : Nat → Nat → Int32) : Prop := I 0 12 = I 112 0 ∧ (∀ k, k < 7 → I 108 k = I 113 k) ∧ I 0 9 = I 112 14 ∧ I 0 10 = I 112 43 ∧ I 0 11 = I 112 6 ∧ I 0 8 = I 112 51 ∧ ∀ k, k < 4 → I 110 k = I 138 k
/-- the entries of a row of laws: none, or a Program -/
def lw_ok (t : List (Nat × Nat)) (D : Nat → Nat → Option Nat) (a : Nat) : Prop := ∀ n, n < 6 → D a n = none ∨ ∃ p, D a n = some p ∧ (zp_sh0 ++ t).getD p (999, 0) = (16, 5)
/-- the shape of an Office that was made later -/
def of_sh (t : List (Nat × Nat)) (D : Nat → Nat → Option Nat) (o : Nat) : Prop := 138 < o ∧ (zp_sh0 ++ t).getD o (999, 0) = (14, 14) ∧ (zp_sh0 ++ t).getD (o + 1) (999, 0) = (15, 4) ∧ (zp_sh0 ++ t).getD (o + 2) (999, 0) = (0, 192) ∧ (zp_sh0 ++ t).getD (o + 3) (999, 0) = (0, 6) ∧ (zp_sh0 ++ t).getD (o + 4) (999, 0) = (0, 6) ∧ (zp_sh0 ++ t).getD (o + 5) (999, 0) = (0, 6) ∧ (zp_sh0 ++ t).getD (o + 6) (999, 0) = (6, 6) ∧ (zp_sh0 ++ t).getD (o + 7) (999, 0) = (0, 6) ∧ (zp_sh0 ++ t).getD (o + 8) (999, 0) = (0, 6) ∧
  D o 0 = some (o + 1) ∧ D (o + 1) 0 = some (o + 2) ∧ D o 2 = some (o + 3) ∧ D o 3 = some (o + 4) ∧ D o 4 = some (o + 5) ∧ D o 7 = some (o + 6) ∧ D o 9 = some (o + 7) ∧ D o 10 = some (o + 8)
def im_K (I : Nat → Nat → Int32) (k : Nat) : Nat → Int32 := fun i => I 115 (5838 * k + i)
def im_ok (t : List (Nat × Nat)) (I : Nat → Nat → Int32) (D : Nat → Nat → Option Nat) (k : Nat) : Prop := (D 107 k = none ∧ I 116 k = 0) ∨ ∃ o, D 107 k = some o ∧ I 116 k = 1 ∧ of_sh t D o ∧ zr_off I o (im_K I k) ∧ zv (im_K I k) ∧ lw_ok t D (o + 6) ∧ ∀ n, n < sf_ix (im_K I k 229) → ∃ p, D (o + 6) n = some p ∧ zr_law t I D (im_K I k) n p
def INV (t : List (Nat × Nat)) (I : Nat → Nat → Int32) (D : Nat → Nat → Option Nat) : Prop := zr_cl t I D (I 114) ∧ lw_ok t D 8 ∧ (∃ L, cx_lg 20 I L ∧ mx_lg I L ∧ lg_ok L) ∧ tp_ok I ∧ ms_ok I ∧ zr_wb I ∧ im_ok t I D 0 ∧ im_ok t I D 1 ∧ ∀ o, D 107 0 = some o → D 107 1 = some o → False
/-- scratch -/
def zk_sc (a k : Nat) : Bool := (11 < a && a < 20) || (54 < a && a < 95) || (96 < a && a < 107) || a == 109 || a == 1 || a == 111 || (a == 112 && !(k == 0 || k == 6 || k == 13 || k == 14 || k == 40 || k == 43 || k == 51)) || a == 117 || (119 < a && a < 133) || (133 < a && a < 138)
/-- what is neither the office's, the log's, the tape's nor an image's -/
def zk_co (a k : Nat) : Bool := zk_sc a k || a == 0 || a == 108 || a == 110 || a == 113 || a == 138 || (a == 112 && (k == 0 || k == 6 || k == 14 || k == 43 || k == 51))
section
variable {t : List (Nat × Nat)} {I : Nat → Nat → Int32} {J : Nat → Nat → Int64} {D : Nat → Nat → Option Nat} {K : Nat → Int32}
set_option maxRecDepth 20000 in
theorem zr_cl_fr2 {I' : Nat → Nat → Int32} (hf : ∀ a, (2 ≤ a ∧ a ≤ 10) ∨ 138 < a → I' a = I a) (h : zr_cl t I D K) : zr_cl t I' D K := by
  refine ⟨zr_off_fr (fun a h1 h2 => hf a (Or.inl ⟨h1, h2⟩)) h.1, h.2.1, fun n hn => ?_⟩
  obtain ⟨p, h1, h2⟩ := h.2.2 n hn
  exact ⟨p, h1, zr_law_fr (fun a ha => hf a (Or.inr ha)) h2⟩
set_option maxRecDepth 20000 in
theorem zr_cl_ml (h : zr_cl t I D K) : zr_ml K := ⟨h.2.1, fun n hn => by obtain ⟨p, -, h2⟩ := h.2.2 n hn; exact h2.2.2.1⟩
set_option maxRecDepth 20000 in
theorem pk_fr {I' : Nat → Nat → Int32} {a : Nat} (h1 : I' a = I a) (h2 : I' (a + 1) = I (a + 1)) (h : pk_at I a K) : pk_at I' a K := by
  unfold pk_at at *; rw [h1, h2]; exact h
set_option maxRecDepth 20000 in
theorem cx_lg_fr {I' : Nat → Nat → Int32} {b : Nat} {L : lg_L} (hb : ∀ k, k = 2 ∨ k = 3 → I' b k = I b k) (hf : ∀ a, b + 2 ≤ a → a < b + 35 → I' a = I a) (h : cx_lg b I L) : cx_lg b I' L := by
  obtain ⟨h1, h2, f, h3, h4, h5⟩ := h
  refine ⟨h1, (hb 3 (Or.inr rfl)).trans h2, f, h3, (hb 2 (Or.inl rfl)).trans h4, fun i e hi => ?_⟩
  obtain ⟨r1, r2⟩ := h5 i e hi
  have := Nat.mod_lt (f + i) (show 0 < 16 by decide)
  exact ⟨by rw [hf (b + 2) (by omega) (by omega)]; exact r1, pk_fr (hf _ (by omega) (by omega)) (hf _ (by omega) (by omega)) r2⟩
set_option maxRecDepth 20000 in
theorem mx_lg_fr {I' : Nat → Nat → Int32} {L : lg_L} (h40 : I' 112 40 = I 112 40) (hf : I' 133 = I 133) (h : mx_lg I L) : mx_lg I' L := by
  unfold mx_lg at *; rw [h40, hf]; exact h
set_option maxRecDepth 20000 in
theorem tp_fr {I' : Nat → Nat → Int32} (h1 : I' 95 1 = I 95 1) (h2 : I' 112 13 = I 112 13) (h3 : I' 96 = I 96) (h4 : I' 119 = I 119) (h : tp_ok I) : tp_ok I' := by
  unfold tp_ok at *; rw [h1, h2, h3, h4]; exact h
set_option maxRecDepth 20000 in
theorem im_fr {I' : Nat → Nat → Int32} {k : Nat} (h1 : I' 115 = I 115) (h2 : I' 116 = I 116) (hf : ∀ a, 138 < a → I' a = I a) (h : im_ok t I D k) : im_ok t I' D k := by
  have hK : im_K I' k = im_K I k := by unfold im_K; rw [h1]
  rcases h with ⟨e1, e2⟩ | ⟨o, e1, e2, e3, e4, e5, e7, e6⟩
  · exact Or.inl ⟨e1, by rw [h2]; exact e2⟩
  · refine Or.inr ⟨o, e1, by rw [h2]; exact e2, e3, ?_, by rw [hK]; exact e5, e7, ?_⟩
    · rw [hK]; exact zr_off_fr (fun a ha1 ha2 => hf a (by have := e3.1; omega)) e4
    · rw [hK]
      intro n hn
      obtain ⟨p, p1, p2⟩ := e6 n hn
      exact ⟨p, p1, zr_law_fr hf p2⟩
/-- all but the small cells -/
def CORE (t : List (Nat × Nat)) (I : Nat → Nat → Int32) (D : Nat → Nat → Option Nat) : Prop := zr_cl t I D (I 114) ∧ lw_ok t D 8 ∧ (∃ L, cx_lg 20 I L ∧ mx_lg I L ∧ lg_ok L) ∧ tp_ok I ∧ zr_wb I ∧ im_ok t I D 0 ∧ im_ok t I D 1 ∧ ∀ o, D 107 0 = some o → D 107 1 = some o → False
set_option maxRecDepth 20000 in
theorem INV.core (h : INV t I D) : CORE t I D := ⟨h.1, h.2.1, h.2.2.1, h.2.2.2.1, h.2.2.2.2.2.1, h.2.2.2.2.2.2⟩
set_option maxRecDepth 20000 in
theorem INV.ms (h : INV t I D) : ms_ok I := h.2.2.2.2.1
set_option maxRecDepth 20000 in
theorem CORE.inv (h : CORE t I D) (hm : ms_ok I) : INV t I D := ⟨h.1, h.2.1, h.2.2.1, h.2.2.2.1, hm, h.2.2.2.2.1, h.2.2.2.2.2⟩
set_option maxRecDepth 20000 in
theorem core_fr {I' : Nat → Nat → Int32} (hf : zf zk_co I I') (h : CORE t I D) : CORE t I' D := by
  obtain ⟨h1, h2, ⟨L, l1, l2, l3⟩, h4, h5, h6, h7, h8⟩ := h
  have hrow : ∀ a, (∀ k, zk_co a k = false) → I' a = I a := fun a ha => zf_row hf ha
  have h138 : ∀ a, 138 < a → I' a = I a := fun a ha => hrow a (fun k => by simp [zk_co, zk_sc]; omega)
  have h114 : I' 114 = I 114 := hrow 114 (fun k => rfl)
  have h115 : I' 115 = I 115 := hrow 115 (fun k => rfl)
  have h116 : I' 116 = I 116 := hrow 116 (fun k => rfl)
  refine ⟨?_, h2, ⟨L, ?_, ?_, l3⟩, ?_, ?_, im_fr h115 h116 h138 h6, im_fr h115 h116 h138 h7, h8⟩
  · rw [h114]
    exact zr_cl_fr2 (fun a ha => ha.elim (fun ha => hrow a (fun k => by simp [zk_co, zk_sc]; omega)) (h138 a)) h1
  · exact cx_lg_fr (fun k hk => hf 20 k rfl) (fun a ha1 ha2 => hrow a (fun k => by simp [zk_co, zk_sc]; omega)) l1
  · exact mx_lg_fr (hf 112 40 rfl) (hrow 133 (fun k => rfl)) l2
  · exact tp_fr (hf 95 1 rfl) (hf 112 13 rfl) (hrow 96 (fun k => rfl)) (hrow 119 (fun k => rfl)) h4
  · intro k hk; rw [hf 118 k rfl]; exact h5 k hk
set_option maxRecDepth 20000 in
theorem zk_sc_co {I I' : Nat → Nat → Int32} (h : zf zk_sc I I') : zf zk_co I I' := zf_mono h (fun a k e => by unfold zk_co; rw [e]; rfl)
set_option maxRecDepth 20000 in
theorem ms_fr {I' : Nat → Nat → Int32} (hf : zf zk_sc I I') (h : ms_ok I) : ms_ok I' := by
  obtain ⟨h1, h2, h3, h4, h5, h6, h7⟩ := h
  refine ⟨?_, fun k hk => ?_, ?_, ?_, ?_, ?_, fun k hk => ?_⟩
  · rw [hf 0 12 rfl, hf 112 0 rfl]; exact h1
  · rw [hf 108 k rfl, hf 113 k rfl]; exact h2 k hk
  · rw [hf 0 9 rfl, hf 112 14 rfl]; exact h3
  · rw [hf 0 10 rfl, hf 112 43 rfl]; exact h4
  · rw [hf 0 11 rfl, hf 112 6 rfl]; exact h5
  · rw [hf 0 8 rfl, hf 112 51 rfl]; exact h6
  · rw [hf 110 k rfl, hf 138 k rfl]; exact h7 k hk
set_option maxRecDepth 20000 in
theorem inv_fr {I' : Nat → Nat → Int32} (hf : zf zk_sc I I') (h : INV t I D) : INV t I' D := (core_fr (zk_sc_co hf) h.core).inv (ms_fr hf h.ms)
end
/-- a call of both, one behind the other -/
def CL {α : Type} (f g : sf_M α) : Prop := ∀ t I J D, INV t I D → zp_wp f (fun a σ => zp_wp g (fun b τ => a = b ∧ ∃ ex I' J' D', τ = zp_Z (t ++ ex) I' J' D' ∧ INV (t ++ ex) I' D' ∧ ex.length ≤ 12 ∧ (ex.map (fun q => q.2)).sum ≤ 877) σ) (zp_Z t I J D)
section
variable {α : Type} {t : List (Nat × Nat)} {I : Nat → Nat → Int32} {J : Nat → Nat → Int64} {D : Nat → Nat → Option Nat}
set_option maxRecDepth 20000 in
theorem CL.fin {b : α} {a : α} (h : INV t I D) (e : a = b) : (fun b τ => a = b ∧ ∃ ex I' J' D', τ = zp_Z (t ++ ex) I' J' D' ∧ INV (t ++ ex) I' D' ∧ ex.length ≤ 12 ∧ (ex.map (fun q => q.2)).sum ≤ 877) b (zp_Z t I J D) := ⟨e, [], I, J, D, by rw [List.append_nil], by rw [List.append_nil]; exact h, by decide, by decide⟩
set_option maxRecDepth 20000 in
/-- a call that only asks -/
theorem CL.ask {f g : sf_M α} (s : (Nat → Int32) → α) {mx mm : Nat → Nat → Bool} (hx : ∀ t I J D K, zr_cl t I D K → zp_wp f (fun r τ => ∃ I', τ = zp_Z t I' J D ∧ zf mx I I' ∧ r = s K) (zp_Z t I J D)) (hm : ∀ t I J D K, I 114 = K → zr_ml K → zp_wp g (fun r τ => ∃ I', τ = zp_Z t I' J D ∧ zf mm I I' ∧ r = s K) (zp_Z t I J D)) (h1 : ∀ a k, mx a k = true → zk_sc a k = true) (h2 : ∀ a k, mm a k = true → zk_sc a k = true) : CL f g := by
  intro t I J D h
  refine zp_wp_mono (hx t I J D (I 114) h.1) ?_
  rintro r τ ⟨I1, rfl, f1, rfl⟩
  have f1' := zf_mono f1 h1
  have hi1 := inv_fr f1' h
  have e114 : I1 114 = I 114 := zf_row f1' (fun k => rfl)
  refine zp_wp_mono (hm t I1 J D (I 114) e114 (zr_cl_ml h.1)) ?_
  rintro r τ ⟨I2, rfl, f2, rfl⟩
  exact CL.fin (inv_fr (zf_mono f2 h2) hi1) rfl
end
