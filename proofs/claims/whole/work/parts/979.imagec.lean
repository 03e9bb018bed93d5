/-! image, back: both. -/
section
variable {t ex : List (Nat × Nat)} {I I' I1 I2 : Nat → Nat → Int32} {J : Nat → Nat → Int64} {D D' : Nat → Nat → Option Nat} {K : Nat → Int32}
set_option maxRecDepth 20000 in
theorem of_dj {o p x : Nat} (ho : of_sh t D o) (hp : zr_pp t D' p) (h1 : p ≤ x) (h2 : x ≤ p + 3) : ¬ (o ≤ x ∧ x < o + 9) := by
  rintro ⟨h3, h4⟩
  obtain ⟨s0, s1, s2, s3, s4, s5, s6, s7, s8, s9, -⟩ := ho
  obtain ⟨z1, z2, z3, z4, -⟩ := hp
  have A : (zp_sh0 ++ t).getD x (999, 0) = (16, 5) ∨ (zp_sh0 ++ t).getD x (999, 0) = (0, 400) ∨ (zp_sh0 ++ t).getD x (999, 0) = (0, 72) := by
    have : x = p ∨ x = p + 1 ∨ x = p + 2 ∨ x = p + 3 := by omega
    rcases this with rfl | rfl | rfl | rfl
    · exact Or.inl z1
    · exact Or.inr (Or.inl z2)
    · exact Or.inr (Or.inl z3)
    · exact Or.inr (Or.inr z4)
  have B : (zp_sh0 ++ t).getD x (999, 0) = (14, 14) ∨ (zp_sh0 ++ t).getD x (999, 0) = (15, 4) ∨ (zp_sh0 ++ t).getD x (999, 0) = (0, 192) ∨ (zp_sh0 ++ t).getD x (999, 0) = (0, 6) ∨ (zp_sh0 ++ t).getD x (999, 0) = (6, 6) := by
    have : x = o ∨ x = o + 1 ∨ x = o + 2 ∨ x = o + 3 ∨ x = o + 4 ∨ x = o + 5 ∨ x = o + 6 ∨ x = o + 7 ∨ x = o + 8 := by omega
    rcases this with rfl | rfl | rfl | rfl | rfl | rfl | rfl | rfl | rfl
    · exact Or.inl s1
    · exact Or.inr (Or.inl s2)
    · exact Or.inr (Or.inr (Or.inl s3))
    · exact Or.inr (Or.inr (Or.inr (Or.inl s4)))
    · exact Or.inr (Or.inr (Or.inr (Or.inl s5)))
    · exact Or.inr (Or.inr (Or.inr (Or.inl s6)))
    · exact Or.inr (Or.inr (Or.inr (Or.inr s7)))
    · exact Or.inr (Or.inr (Or.inr (Or.inl s8)))
    · exact Or.inr (Or.inr (Or.inr (Or.inl s9)))
  rcases A with A | A | A <;> rcases B with B | B | B | B | B <;> rw [A] at B <;> cases B
set_option maxRecDepth 20000 in
theorem of_dd {o o' x : Nat} (ho : of_sh t D o) (ho' : of_sh t D' o') (hne : o' ≠ o) (h1 : o' ≤ x) (h2 : x < o' + 9) : ¬ (o ≤ x ∧ x < o + 9) := by
  rintro ⟨h3, h4⟩
  -- one of the two begins within the other
  have key : ∀ {D1 D2 : Nat → Nat → Option Nat} {a b : Nat}, of_sh t D1 a → of_sh t D2 b → a < b → b < a + 9 → False := by
    intro D1 D2 a b ha hb q1 q2
    obtain ⟨s0, s1, s2, s3, s4, s5, s6, s7, s8, s9, -⟩ := ha
    have A := hb.2.1
    have B : (zp_sh0 ++ t).getD b (999, 0) = (15, 4) ∨ (zp_sh0 ++ t).getD b (999, 0) = (0, 192) ∨ (zp_sh0 ++ t).getD b (999, 0) = (0, 6) ∨ (zp_sh0 ++ t).getD b (999, 0) = (6, 6) := by
      have : b = a + 1 ∨ b = a + 2 ∨ b = a + 3 ∨ b = a + 4 ∨ b = a + 5 ∨ b = a + 6 ∨ b = a + 7 ∨ b = a + 8 := by omega
      rcases this with e | e | e | e | e | e | e | e <;> rw [e]
      · exact Or.inl s2
      · exact Or.inr (Or.inl s3)
      · exact Or.inr (Or.inr (Or.inl s4))
      · exact Or.inr (Or.inr (Or.inl s5))
      · exact Or.inr (Or.inr (Or.inl s6))
      · exact Or.inr (Or.inr (Or.inr s7))
      · exact Or.inr (Or.inr (Or.inl s8))
      · exact Or.inr (Or.inr (Or.inl s9))
    rcases B with B | B | B | B <;> rw [A] at B <;> cases B
  rcases Nat.lt_or_ge o o' with h | h
  · exact key ho ho' h (by omega)
  · exact key ho' ho (by omega) (by omega)
set_option maxRecDepth 20000 in
theorem pp_mono {p : Nat} (hp : 138 < p) (hD : ∀ k, D' p k = D p k) (h : zr_pp t D p) : p + 3 < 139 + t.length ∧ zr_pp (t ++ ex) D' p := by
  obtain ⟨z1, z2, z3, z4, z5, z6, z7⟩ := h
  have hp3 : p + 3 < 139 + t.length := sh_lt z4 (by decide)
  refine ⟨hp3, by rw [sh_mono (by omega)]; exact z1, by rw [sh_mono (by omega)]; exact z2, by rw [sh_mono (by omega)]; exact z3, by rw [sh_mono (by omega)]; exact z4, ?_, ?_, ?_⟩
  · rw [rfs_hi (by omega), hD, ← rfs_hi (D := D) (show 139 ≤ p by omega)]; exact z5
  · rw [rfs_hi (by omega), hD, ← rfs_hi (D := D) (show 139 ≤ p by omega)]; exact z6
  · rw [rfs_hi (by omega), hD, ← rfs_hi (D := D) (show 139 ≤ p by omega)]; exact z7
set_option maxRecDepth 20000 in
theorem law_mono2 {n p : Nat} (hI : ∀ x, p ≤ x → x ≤ p + 3 → I' x = I x) (hD : ∀ k, D' p k = D p k) (h : zr_law t I D K n p) : zr_law (t ++ ex) I' D' K n p := by
  obtain ⟨pp, p3, p4, p5⟩ := h
  refine ⟨(pp_mono p3 hD pp).2, p3, p4, ?_⟩
  unfold zr_prog zr_cls at p5 ⊢
  rw [hI p (by omega) (by omega), hI (p + 1) (by omega) (by omega), hI (p + 2) (by omega) (by omega), hI (p + 3) (by omega) (by omega)]
  exact p5
set_option maxRecDepth 20000 in
theorem pp_sh {p : Nat} (hp : 138 < p) (h : zr_pp t D p) : p + 3 < 139 + t.length ∧ zr_pp (t ++ ex) D p := pp_mono hp (fun _ => rfl) h
set_option maxRecDepth 20000 in
theorem of_shm {o : Nat} (hD : ∀ x k, o ≤ x → x < o + 2 → D' x k = D x k) (h : of_sh t D o) : o + 8 < 139 + t.length ∧ of_sh (t ++ ex) D' o := by
  obtain ⟨o0, o1, o2, o3, o4, o5, o6, o7, o8, o9, q1, q2, q3, q4, q5, q6, q7, q8⟩ := h
  have ho : o + 8 < 139 + t.length := sh_lt o9 (by decide)
  exact ⟨ho, o0, by rw [sh_mono (by omega)]; exact o1, by rw [sh_mono (by omega)]; exact o2, by rw [sh_mono (by omega)]; exact o3, by rw [sh_mono (by omega)]; exact o4, by rw [sh_mono (by omega)]; exact o5, by rw [sh_mono (by omega)]; exact o6, by rw [sh_mono (by omega)]; exact o7, by rw [sh_mono (by omega)]; exact o8, by rw [sh_mono (by omega)]; exact o9, by rw [hD _ _ (by omega) (by omega)]; exact q1, by rw [hD _ _ (by omega) (by omega)]; exact q2, by rw [hD _ _ (by omega) (by omega)]; exact q3, by rw [hD _ _ (by omega) (by omega)]; exact q4, by rw [hD _ _ (by omega) (by omega)]; exact q5, by rw [hD _ _ (by omega) (by omega)]; exact q6, by rw [hD _ _ (by omega) (by omega)]; exact q7, by rw [hD _ _ (by omega) (by omega)]; exact q8⟩
set_option maxRecDepth 20000 in
/-- an image that was kept, when the other one is -/
theorem im_mono2 {d o : Nat} (hs : of_sh (t ++ ex) D' o) (hne : ∀ o', D 107 d = some o' → o' ≠ o) (h15 : ∀ k, k < 5838 → im_K I' d k = im_K I d k) (h16 : I' 116 d = I 116 d) (hI : ∀ x, 138 < x → x < 139 + t.length → ¬ (o ≤ x ∧ x < o + 9) → I' x = I x) (hD : ∀ x k, 138 < x → x < 139 + t.length → ¬ (o ≤ x ∧ x < o + 9) → D' x k = D x k) (h107 : D' 107 d = D 107 d) (h : im_ok t I D d) : im_ok (t ++ ex) I' D' d := by
  rcases h with ⟨e1, e2⟩ | ⟨o', e1, e2, e3, e4, e5, e7, e6⟩
  · exact Or.inl ⟨by rw [h107]; exact e1, by rw [h16]; exact e2⟩
  · have hn := hne o' e1
    obtain ⟨hlt, hs'⟩ := of_shm (ex := ex) (fun _ _ _ _ => rfl) e3
    have dj : ∀ x, o' ≤ x → x < o' + 9 → ¬ (o ≤ x ∧ x < o + 9) := fun x q1 q2 => of_dd hs hs' hn q1 q2
    have h138 := e3.1
    have hD2 : ∀ x k, o' ≤ x → x < o' + 9 → D' x k = D x k := fun x k q1 q2 => hD x k (by omega) (by omega) (dj x q1 q2)
    refine Or.inr ⟨o', by rw [h107]; exact e1, by rw [h16]; exact e2, (of_shm (fun x k q1 q2 => hD2 x k q1 (by omega)) e3).2, ?_, ?_, ?_, ?_⟩
    · exact zr_off_c h15 (zr_off_fr (fun a h1 h2 => hI a (by omega) (by omega) (dj a h1 (by omega))) e4)
    · exact zv_c h15 e5
    · exact lw_mono (fun n hn => hD2 _ _ (by omega) (by omega)) e7
    · intro n hn
      obtain ⟨cc, hc6, hc⟩ := zv_229 e5
      rw [h15 229 (by omega)] at hn
      have hn6 : n < 6 := by rw [hc, zi_ixn (by omega)] at hn; omega
      obtain ⟨p, p1, p2⟩ := e6 n hn
      obtain ⟨q1, q2⟩ := pp_sh (ex := ex) p2.2.1 p2.1
      have p138 := p2.2.1
      have dj2 : ∀ x, p ≤ x → x ≤ p + 3 → ¬ (o ≤ x ∧ x < o + 9) := fun x w1 w2 => of_dj hs q2 w1 w2
      obtain ⟨r1, r2, r3, r4⟩ := law_mono2 (ex := ex) (I' := I') (D' := D') (fun x w1 w2 => hI x (by omega) (by omega) (dj2 x w1 w2)) (fun k => hD p k (by omega) (by omega) (dj2 p (by omega) (by omega))) p2
      exact ⟨p, by rw [hD2 _ _ (by omega) (by omega)]; exact p1, r1, r2, zr_txt_c h15 (by omega) r3, by rw [(ks_c (o := false) h15 (by omega) r3.2.1).2.2.2]; exact r4⟩
set_option maxRecDepth 20000 in
/-- the row of an image, and the laws that its Office holds -/
theorem im_new {c o : Nat} (hC : zr_cl t I D K) (hl : lw_ok t D 8) (hs : of_sh (t ++ ex) D' o) (h107 : D' 107 c = some o) (h116 : I' 116 c = 1) (hO : zr_off I' o K) (hK : ∀ k, k < 5838 → im_K I' c k = K k) (hI : ∀ x, 138 < x → x < 139 + t.length → ¬ (o ≤ x ∧ x < o + 9) → I' x = I x) (hD : ∀ x k, 138 < x → x < 139 + t.length → ¬ (o ≤ x ∧ x < o + 9) → D' x k = D x k) (hD8 : ∀ n, n < 6 → D' (o + 6) n = D 8 n) : im_ok (t ++ ex) I' D' c := by
  obtain ⟨cc, hc6, hc⟩ := zv_229 hC.2.1
  refine Or.inr ⟨o, h107, h116, hs, zr_off_c hK hO, zv_c hK hC.2.1, fun n hn => ?_, fun n hn => ?_⟩
  · rw [hD8 n hn]
    rcases hl n hn with h1 | ⟨p, h1, h2⟩
    · exact Or.inl h1
    · exact Or.inr ⟨p, h1, by rw [sh_mono (sh_lt h2 (by decide))]; exact h2⟩
  · rw [hK 229 (by omega)] at hn
    have hn6 : n < 6 := by rw [hc, zi_ixn (by omega)] at hn; omega
    obtain ⟨p, p1, p2⟩ := hC.2.2 n hn
    obtain ⟨q1, q2⟩ := pp_sh (ex := ex) p2.2.1 p2.1
    have p138 := p2.2.1
    have dj2 : ∀ x, p ≤ x → x ≤ p + 3 → ¬ (o ≤ x ∧ x < o + 9) := fun x w1 w2 => of_dj hs q2 w1 w2
    obtain ⟨r1, r2, r3, r4⟩ := law_mono2 (ex := ex) (I' := I') (D' := D') (fun x w1 w2 => hI x (by omega) (by omega) (dj2 x w1 w2)) (fun k => hD p k (by omega) (by omega) (dj2 p (by omega) (by omega))) p2
    exact ⟨p, by rw [hD8 n hn6]; exact p1, r1, r2, zr_txt_c hK (by omega) r3, by rw [(ks_c (o := false) hK (by omega) r3.2.1).2.2.2]; exact r4⟩
set_option maxRecDepth 20000 in
theorem ms_acc {r : Int32} (hr : 0 ≤ r) (h : ms_ok I) (a1 : an_at 0 12 108 I I1 r) (a2 : an_at 112 0 113 I1 I2 r) (e12 : I2 0 12 = I1 0 12) (e108 : ∀ k, I2 108 k = I1 108 k) (e113 : ∀ k, I1 113 k = I 113 k) (e0 : ∀ k, k = 8 ∨ k = 9 ∨ k = 10 ∨ k = 11 → I2 0 k = I 0 k) (e112 : ∀ k, k = 6 ∨ k = 14 ∨ k = 43 ∨ k = 51 → I2 112 k = I 112 k) (e110 : I2 110 = I 110) (e138 : I2 138 = I 138) : ms_ok I2 := by
  obtain ⟨g1, g2, g3, g4, g5, g6, g7⟩ := h
  obtain ⟨p1, p2⟩ := a1.1 hr
  obtain ⟨p3, p4⟩ := a2.1 hr
  refine ⟨by rw [e12, p1, p3], fun k hk => by rw [e108, p2 k hk, p4 k hk, e113, g2 k hk], ?_, ?_, ?_, ?_, fun k hk => ?_⟩
  · rw [e0 9 (by omega), e112 14 (by omega)]; exact g3
  · rw [e0 10 (by omega), e112 43 (by omega)]; exact g4
  · rw [e0 11 (by omega), e112 6 (by omega)]; exact g5
  · rw [e0 8 (by omega), e112 51 (by omega)]; exact g6
  · rw [e110, e138]; exact g7 k hk
end
set_option maxRecDepth 20000 in
/-- case 38 -/
theorem CL_image (x : Int32) : CL (jx_SF_image (some 0) x) (jx_Mo_image (some 112) x) := by
  intro t I J D h
  have hl := ze_lies x 0 1
  by_cases hx : 0 ≤ x ∧ x ≤ 1
  · obtain ⟨c, hc, rfl⟩ := zi_rng (n := 1) hx.1 hx.2 (by omega)
    refine zp_wp_mono (cx_image_good h (c := c) (by omega)) ?_
    rintro r τ ⟨rfl, ex, I1, J1, D1, o, rfl, hex, hs, h107, hne, f1, d1, d8, r1, a1⟩
    have o138 : 138 < o := hs.1
    have hr : ∀ a, a < 139 → a ≠ 0 → a ≠ 108 → I1 a = I a := fun a h1 h2 h3 => funext fun k => f1 a k (by omega) (by simp [zk_of]; omega) (by simp [zk_st, h2, h3])
    have h0 : ∀ k, k ≠ 12 → I1 0 k = I 0 k := fun k hk => f1 0 k (by omega) (by simp [zk_of]; omega) (by simp [zk_st, hk])
    refine zp_wp_mono (mx_image_good (K := I1 114) rfl (c := c) (by omega)) ?_
    rintro r τ ⟨rfl, I2, rfl, f2, k2, k3, e2, e3, a2⟩
    have hf2 : ∀ a, a ≠ 115 → a ≠ 116 → a ≠ 112 → a ≠ 113 → I2 a = I1 a := fun a h1 h2 h3 h4 => zf_row f2 (fun k => by simp [h1, h2, h3])
    have hr2 : ∀ a, a < 139 → a ≠ 0 → a ≠ 108 → a ≠ 115 → a ≠ 116 → a ≠ 112 → a ≠ 113 → I2 a = I a := fun a h1 h2 h3 h4 h5 h6 h7 => (hf2 a h4 h5 h6 h7).trans (hr a h1 h2 h3)
    have e112 : ∀ k, k ≠ 0 → I2 112 k = I 112 k := fun k hk => by rw [f2 112 k (by simp [hk]), hr 112 (by decide) (by decide) (by decide)]
    have e114 : I2 114 = I 114 := hr2 114 (by decide) (by decide) (by decide) (by decide) (by decide) (by decide) (by decide)
    have hIo : ∀ x, 138 < x → x < 139 + t.length → ¬ (o ≤ x ∧ x < o + 9) → I2 x = I x := fun x q1 q2 q3 => by
      rw [hf2 x (by omega) (by omega) (by omega) (by omega)]
      exact funext fun k => f1 x k q2 (by simp [zk_of]; omega) (by simp [zk_st]; omega)
    have hDo : ∀ x k, 138 < x → x < 139 + t.length → ¬ (o ≤ x ∧ x < o + 9) → D1 x k = D x k := fun x k q1 q2 q3 => d1 x k q2 (by omega) (by omega)
    have hD8 : ∀ n, D1 8 n = D 8 n := fun n => d1 8 n (by omega) (by omega) (by omega)
    have h107' : ∀ d, d ≠ c → D1 107 d = D 107 d := fun d hd => d1 107 d (by omega) (by omega) (by omega)
    have him : ∀ d, d < 2 → im_ok (t ++ ex) I2 D1 d := by
      intro d hd
      by_cases e : d = c
      · subst e
        refine im_new (K := I 114) h.1 h.2.1 hs h107 e2 ?_ (fun k hk => ?_) hIo hDo d8
        · exact zr_off_fr (fun a q1 q2 => hf2 a (by omega) (by omega) (by omega) (by omega)) r1
        · show I2 115 (5838 * d + k) = _
          rw [k2 k hk, hr 114 (by decide) (by decide) (by decide)]
      · refine im_mono2 hs (fun o' ho' => hne d o' hd e ho') (fun k hk => ?_) ?_ hIo hDo (h107' d e) (h.im hd)
        · show I2 115 _ = I 115 _
          rw [k3 _ (by omega), hr 115 (by decide) (by decide) (by decide)]
        · rw [e3 d e, hr 116 (by decide) (by decide) (by decide)]
    have hms : ms_ok I2 := ms_acc (by decide) h.ms a1 a2 (by rw [hf2 0 (by decide) (by decide) (by decide) (by decide)]) (fun k => by rw [hf2 108 (by decide) (by decide) (by decide) (by decide)]) (fun k => by rw [hr 113 (by decide) (by decide) (by decide)]) (fun k hk => by rw [hf2 0 (by decide) (by decide) (by decide) (by decide)]; exact h0 k (by omega)) (fun k hk => e112 k (by omega)) (hr2 110 (by decide) (by decide) (by decide) (by decide) (by decide) (by decide) (by decide)) (hr2 138 (by decide) (by decide) (by decide) (by decide) (by decide) (by decide) (by decide))
    obtain ⟨h1, h2, ⟨L, l1, l2, l3⟩, h4, -, h6, -, -, -⟩ := h
    refine ⟨rfl, ex, I2, J1, D1, rfl, ⟨?_, lw_mono (fun n _ => hD8 n) h2, ⟨L, ?_, ?_, l3⟩, ?_, hms, ?_, him 0 (by omega), him 1 (by omega), ?_⟩, ?_, ?_⟩
    · rw [e114]
      refine ⟨zr_off_fr (fun a q1 q2 => hr2 a (by omega) (by omega) (by omega) (by omega) (by omega) (by omega) (by omega)) h1.1, h1.2.1, fun n hn => ?_⟩
      obtain ⟨p, p1, p2⟩ := h1.2.2 n hn
      obtain ⟨q1, q2⟩ := pp_sh (ex := ex) p2.2.1 p2.1
      have p138 := p2.2.1
      have dj2 : ∀ x, p ≤ x → x ≤ p + 3 → ¬ (o ≤ x ∧ x < o + 9) := fun x w1 w2 => of_dj hs q2 w1 w2
      exact ⟨p, by rw [hD8]; exact p1, law_mono2 (fun x w1 w2 => hIo x (by omega) (by omega) (dj2 x w1 w2)) (fun k => hDo p k (by omega) (by omega) (dj2 p (by omega) (by omega))) p2⟩
    · exact cx_lg_fr (fun k _ => by rw [hr2 20 (by decide) (by decide) (by decide) (by decide) (by decide) (by decide) (by decide)]) (fun a q1 q2 => hr2 a (by omega) (by omega) (by omega) (by omega) (by omega) (by omega) (by omega)) l1
    · exact mx_lg_fr (e112 40 (by decide)) (hr2 133 (by decide) (by decide) (by decide) (by decide) (by decide) (by decide) (by decide)) l2
    · exact tp_fr (by rw [hr2 95 (by decide) (by decide) (by decide) (by decide) (by decide) (by decide) (by decide)]) (e112 13 (by decide)) (hr2 96 (by decide) (by decide) (by decide) (by decide) (by decide) (by decide) (by decide)) (hr2 119 (by decide) (by decide) (by decide) (by decide) (by decide) (by decide) (by decide)) h4
    · intro k hk; rw [hr2 118 (by decide) (by decide) (by decide) (by decide) (by decide) (by decide) (by decide)]; exact h6 k hk
    · intro o1 w1 w2
      have : c = 0 ∨ c = 1 := by omega
      rcases this with rfl | rfl
      · rw [h107] at w1; cases w1
        exact hne 1 _ (by omega) (by omega) (by rw [← h107' 1 (by omega)]; exact w2) rfl
      · rw [h107] at w2; cases w2
        exact hne 0 _ (by omega) (by omega) (by rw [← h107' 0 (by omega)]; exact w1) rfl
    · rcases hex with rfl | rfl <;> decide
    · rcases hex with rfl | rfl <;> decide
  · have hf : zs_in 0 x 1 = false := by
      rw [← Bool.not_eq_true, zs_inT]; exact hx
    unfold jx_SF_image
    refine ss_or ?_
    have hbad : zp_wp (sf_bnd (sf_rc 0 (some 0) (jx_SF_refused (some 0) (-1))) fun x17 => sf_ret x17) (fun a σ => zp_wp (jx_Mo_image (some 112) x) (fun b τ => a = b ∧ ∃ ex I' J' D', τ = zp_Z (t ++ ex) I' J' D' ∧ INV (t ++ ex) I' D' ∧ ex.length ≤ 12 ∧ (ex.map (fun q => q.2)).sum ≤ 877) σ) (zp_Z t I J D) := by
      refine ss_rc rfl ?_
      refine ss_call (cx_refused (j := 1) (by decide) (by decide)) ?_
      refine ss_ret ?_
      unfold jx_Mo_image
      rw [hf] at hl
      refine ss_pure hl ?_
      refine ss_iT rfl ?_
      refine ss_rc rfl ?_
      refine ss_call (mx_refuses (j := 1) (by decide) (by decide)) ?_
      exact ss_ret (CL.fin (INV_ref h (by decide) (by decide) rfl) rfl)
    by_cases c1 : x < 0
    · exact ss_biT c1 (ss_bret (ss_cr hbad))
    · have c2 : ¬ x < 2 := by
        intro c2; apply hx; (simp only [Int32.le_iff_toInt_le, Int32.lt_iff_toInt_lt, ← Int32.toInt_inj, Int32.toInt_ofNat', Int32.reduceToInt, zi_ix, Int32.toInt_add, Int32.toInt_sub, Int32.toInt_mul, Int32.toInt_neg, zi_bm, zi_bms, zp_in] at *; omega)
      exact ss_biF c1 (ss_biF c2 (ss_bret (ss_cr hbad)))
