section
variable {t : List (Nat × Nat)} {I : Nat → Nat → Int32} {J : Nat → Nat → Int64} {D : Nat → Nat → Option Nat} {K K' : Nat → Int32} {L : lg_L}
set_option maxRecDepth 20000 in
theorem zk_dk_ex (a k : Nat) (h : zk_dk a k = true) : zk_ex a k = true := by
  simp only [zk_dk, Bool.or_eq_true, Bool.and_eq_true, beq_iff_eq, decide_eq_true_eq] at h
  simp [zk_ex, zk_sc]; omega
set_option maxRecDepth 20000 in
theorem zk_dj_em (a k : Nat) (h : zk_dj a k = true) : zk_em a k = true := by
  simp only [zk_dj, Bool.or_eq_true, Bool.and_eq_true, beq_iff_eq] at h
  rcases h with ((h | h) | h) | ⟨h, h'⟩
  · have := zk_sm2 a k h
    simp [zk_em, this]
  · simp [zk_em, h]
  · simp [zk_em, h]
  · simp [zk_em, h, h']
set_option maxRecDepth 20000 in
/-- a deed of the Desk, answered -/
theorem CL.dd {F : Option Nat → sf_M Int32} {g : sf_M Int32} {d : DSp} (hx : DX (F (some 1)) d) (hm : DM g d) (ho : DO d) : CL (sf_bnd (sf_gR 0 0 (some 0)) fun x1 => sf_bnd (sf_rc 1 x1 (F x1)) fun x2 => sf_bnd (sf_rc 0 (some 0) (jx_SF_answered (some 0) x2)) fun x3 => sf_ret x3) (sf_bnd (sf_rc 11 (some 112) g) fun x1 => sf_bnd (sf_rc 11 (some 112) (jx_Mo_goodOr (some 112) x1)) fun x2 => sf_ret x2) := by
  refine CL.deed (fun t I J D L h l1 l2 l3 => ⟨(d (I 114) L).1, (d (I 114) L).2.1, (d (I 114) L).2.2, (ho _ L h.1.2.1).1, (ho _ L h.1.2.1).2.1 l3, ?_, ?_⟩)
  · refine ss_pt rfl rfl ?_
    refine ss_rc rfl ?_
    refine zp_wp_call (hx t I J D (I 114) L h.1 l1) ?_
    rintro r τ ⟨rfl, I1, rfl, f1, c1, k1⟩
    refine ss_rc rfl ?_
    refine zp_wp_call (cx_answered (ho _ L h.1.2.1).1) ?_
    rintro r τ ⟨rfl, I2, rfl, f2, a2⟩
    exact ss_ret ⟨rfl, I2, rfl, zf_trans (zf_mono f1 zk_dk_ex) (zf_mono f2 zk_st_ex), zr_cl_st c1 f2, cx_lg_st k1 f2, an_l (fun k => (f1 108 k rfl).symm) a2⟩
  · intro I1 e1 m1 _
    refine ss_rc rfl ?_
    refine zp_wp_call (hm t I1 J D (I 114) L e1 (zr_cl_ml h.1) m1) ?_
    rintro r τ ⟨rfl, I2, rfl, f2, e2, k2⟩
    refine ss_rc rfl ?_
    refine zp_wp_call (mx_goodOr (ho _ L h.1.2.1).1) ?_
    rintro r τ ⟨rfl, I3, rfl, f3, a3⟩
    exact ss_ret ⟨rfl, I3, rfl, zf_trans (zf_mono f2 zk_dj_em) (zf_mono f3 zk_sm0_em), by rw [zf_row f3 (fun k => rfl)]; exact e2, mx_lg_st k2 f3, an_l (fun k => (f2 113 k rfl).symm) a3⟩
set_option maxRecDepth 20000 in
/-- case 15 -/
theorem CL_buy (s p q : Int32) : CL (jx_SF_buy (some 0) s p q) (jx_Mo_buy (some 112) s p q) := by
  unfold jx_SF_buy jx_Mo_buy
  exact CL.dd (F := fun x => jx_Desk_buyTicket x s p q) (DX_buy s p q) (DM_buy s p q) (DO_buy s p q)
set_option maxRecDepth 20000 in
/-- case 17 -/
theorem CL_save (n : Int32) : CL (jx_SF_save (some 0) n) (jx_Mo_save (some 112) n) := by
  unfold jx_SF_save jx_Mo_save
  exact CL.dd (F := fun x => jx_Desk_savePence x n) (DX_save n) (DM_save n) (DO_save n)
set_option maxRecDepth 20000 in
/-- case 18 -/
theorem CL_pass : CL (jx_SF_pass (some 0)) (jx_Mo_pass (some 112)) := by
  unfold jx_SF_pass jx_Mo_pass
  exact CL.dd (F := fun x => jx_Desk_passDay x) DX_pass DM_pass DO_pass
set_option maxRecDepth 20000 in
/-- case 19 -/
theorem CL_undo : CL (jx_SF_undo (some 0)) (jx_Mo_undo (some 112)) := by
  refine CL.deed (fun t I J D L h l1 l2 l3 => ?_)
  rcases hl : L.getLast? with _ | e
  · -- nothing to take back
    have hL0 : L = [] := List.getLast?_eq_none_iff.mp hl
    subst hL0
    refine ⟨-Int32.ofNat 3, I 114, [], ar_neg 3 (by decide) (by decide), l3, ?_, ?_⟩
    · unfold jx_SF_undo
      refine ss_pt rfl rfl ?_
      refine ss_pt rfl rfl ?_
      refine ss_pt rfl rfl ?_
      refine ss_pt rfl rfl ?_
      refine ss_pt rfl rfl ?_
      refine ss_rc rfl ?_
      refine zp_wp_call (cx_pop l1) ?_
      rintro r τ (⟨-, rfl, rfl⟩ | ⟨e, he, -⟩)
      · refine ss_iF (by decide) ?_
        refine ss_rc rfl ?_
        refine ss_call (cx_refused (j := 3) (by decide) (by decide)) ?_
        exact ss_ret ⟨rfl, _, rfl, zf_u2 (zf_u2 (zf_refl _ _) rfl) rfl, zr_cl_fr2 (fun a ha => by rw [zu_r (by omega), zu_r (by omega)]) h.1, cx_lg_fr (fun k hk => by rw [zu_a (by decide), zu_a (by decide)]) (fun a q1 q2 => by rw [zu_r (by omega), zu_r (by omega)]) l1, an_ref 0 12 108 (by decide) (by decide) (by decide)⟩
      · cases he
    · intro I1 e1 m1 _
      unfold jx_Mo_undo
      refine ss_gI rfl m1.2.1 ?_
      refine ss_iT rfl ?_
      refine ss_rc rfl ?_
      refine ss_call (mx_refuses (j := 3) (by decide) (by decide)) ?_
      refine ss_ret ⟨rfl, _, rfl, zf_u2 (zf_u2 (zf_refl _ _) rfl) rfl, ?_, mx_lg_fr (by rw [zu_a (by decide), zu_k (by decide)]) (by rw [zu_r (by decide), zu_r (by decide)]) m1, an_ref 112 0 113 (by decide) (by decide) (by decide)⟩
      rw [zu_r (by decide), zu_r (by decide)]; exact e1
  · have hmem : e ∈ L := List.mem_of_getLast? hl
    obtain ⟨⟨c, hc, hec⟩, hpk⟩ := l3 e hmem
    have hc0 : 0 ≤ e.1 := by rw [hec]; exact zi_leL (a := 0) (by omega) (by omega)
    have hne : L ≠ [] := fun e0 => by rw [e0] at hmem; cases hmem
    have hpos : 0 < L.length := Nat.pos_of_ne_zero (fun h0 => hne (List.length_eq_zero_iff.mp h0))
    refine ⟨e.1, kW (I 114) e.2, L.dropLast, Or.inl hc0, fun x hx => l3 x (List.dropLast_subset _ hx), ?_, ?_⟩
    · unfold jx_SF_undo
      refine ss_pt rfl rfl ?_
      refine ss_pt rfl rfl ?_
      refine ss_pt rfl rfl ?_
      refine ss_pt rfl rfl ?_
      refine ss_pt rfl rfl ?_
      refine ss_rc rfl ?_
      refine zp_wp_call (cx_pop l1) ?_
      rintro r τ (⟨h0, -⟩ | ⟨e', he, rfl, I1, rfl, f1, p1, k1⟩)
      · exact absurd h0 hne
      · rw [hl] at he
        cases he
        refine ss_iT hc0 ?_
        refine ss_rc rfl ?_
        refine ss_call (cx_accepted _) ?_
        have hC1 : zr_cl t I1 D (kW (I 114) e.2) := zr_cl_kW h.1 hpk p1 (fun a ha => zf_row f1 (fun k => by simp; omega))
        refine ss_ret ⟨rfl, _, rfl, zf_u2 (zf_mono f1 ?_) rfl, zr_cl_fr2 (fun a ha => zu_r (by omega)) hC1, cx_lg_fr (fun k hk => zu_a (by decide)) (fun a q1 q2 => zu_r (by omega)) k1, an_l (I := I1) (fun k => (f1 108 k rfl).symm) (an_acc 0 12 108 (by decide) hc0)⟩
        intro a k q
        simp only [Bool.or_eq_true, Bool.and_eq_true, beq_iff_eq] at q
        simp [zk_ex]; omega
    · intro I1 e1 m1 _
      obtain ⟨h16, h40, he⟩ := m1
      obtain ⟨n, hn⟩ : ∃ n, L.length = n + 1 := ⟨L.length - 1, by omega⟩
      have hnz : ¬ Int32.ofNat L.length = 0 := zi_ne (b := 0) (by omega) (by omega) (by omega)
      have q40 : sf_u2 I1 112 40 (Int32.ofNat L.length - 1) 112 40 = Int32.ofNat n := by rw [zu_eq, hn]; exact zi_p n
      have hln : L[n]? = some e := by rw [List.getLast?_eq_getElem?, hn] at hl; exact hl
      obtain ⟨x1, x2⟩ := he n e hln
      have e196 : (196 : Int32) * Int32.ofNat n = Int32.ofNat (196 * n) := (Int32.ofNat_mul 196 n).symm
      unfold jx_Mo_undo
      refine ss_gI rfl h40 ?_
      refine ss_iF hnz ?_
      refine ss_gI rfl h40 ?_
      refine ss_pI rfl ?_
      refine ss_gI rfl q40 ?_
      refine ss_bret ?_
      rw [e196]
      refine zl_g (fun i (_ : Unit) => Int32.ofNat i) 0 195 (s0 := ()) rfl (by omega) (by omega) (fun i _ I2 => zf (fun a _ => a == 114) (sf_u2 I1 112 40 (Int32.ofNat L.length - 1)) I2 ∧ I2 114 = fun k => if k < i then e.2 k else I 114 k) ⟨zf_refl _ _, by rw [zu_r (by decide), e1]; funext k; rw [if_neg (by omega)]⟩ ?step ?fin
      case step =>
        rintro i s I2 - hi ⟨g, r1⟩
        have n1 : ¬ (195 : Int32) ≤ Int32.ofNat i := zi_nle (a := 195) hi (by omega)
        have l1 : i < 5838 := by omega
        have l2 : 196 * n + i < 3136 := by omega
        have a1 : I2 133 (196 * n + i) = e.2 i := by rw [g 133 _ rfl, zu_a (by decide)]; exact x1 i hi
        refine ss_iF n1 ?_
        refine ss_pt rfl rfl ?_
        refine ss_pt rfl rfl ?_
        refine ss_aI rfl (zi_add _ _) l2 (by decide) a1 ?_
        refine ss_sI rfl rfl l1 (by decide) ?_
        refine ss_bret ?_
        refine ss_ret (Or.inl ⟨(), _, by rw [zi_s], rfl, zf_u2 g rfl, ?_⟩)
        rw [kS_u r1]
        funext k
        unfold kS
        by_cases q : k = i
        · rw [if_pos q, if_pos (by omega), q]
        · rw [if_neg q]
          show (if k < i then e.2 k else I 114 k) = _
          by_cases q2 : k < i
          · rw [if_pos q2, if_pos (by omega)]
          · rw [if_neg q2, if_neg (by omega)]
      case fin =>
        rintro s I2 ⟨g, r1⟩
        have n1 : (195 : Int32) ≤ Int32.ofNat 195 := by decide
        have l2 : 196 * n + 195 < 3136 := by omega
        have a1 : I2 133 (196 * n + 195) = e.1 := by rw [g 133 _ rfl, zu_a (by decide)]; exact x2
        refine ss_iT n1 ?_
        refine ss_ret ⟨_, rfl, ?_⟩
        refine ss_pt rfl rfl ?_
        refine ss_aI rfl (zi_add _ 195) l2 (by decide) a1 ?_
        refine ss_rc rfl ?_
        refine ss_call (mx_good _) ?_
        have hd : L.dropLast.length = n := by rw [List.length_dropLast, hn]; rfl
        refine ss_ret ⟨rfl, _, rfl, zf_u2 (zf_trans (zf_u2 (zf_refl _ _) rfl) (zf_mono g (fun a k q => by simp only [beq_iff_eq] at q; simp [zk_em, q]))) rfl, ?_, ⟨by omega, ?_, fun i x hx => ?_⟩, an_l (I := I2) (fun k => ?_) (an_acc 112 0 113 (by decide) hc0)⟩
        · rw [zu_r (by decide), r1]; rfl
        · rw [zu_k (by decide), g 112 40 rfl, q40, hd]
        · have hx' : L[i]? = some x := by
            rw [List.getElem?_dropLast] at hx
            split at hx
            · exact hx
            · cases hx
          obtain ⟨y1, y2⟩ := he i x hx'
          have e133 : ∀ k, sf_u2 I2 112 0 0 133 k = I1 133 k := fun k => by rw [zu_a (by decide), g 133 k rfl, zu_a (by decide)]
          exact ⟨fun k hk => by rw [e133]; exact y1 k hk, by rw [e133]; exact y2⟩
        · rw [g 113 k rfl, zu_a (by decide)]
end
