/-! thereAndBack: the model's loops; both. -/
section
variable {t : List (Nat × Nat)} {I : Nat → Nat → Int32} {J : Nat → Nat → Int64} {D : Nat → Nat → Option Nat} {K : Nat → Int32} {n m p q : Nat}
set_option maxRecDepth 20000 in
theorem TTm_le (hp : p < 8) (hq : q < 8) (i1 i2 : Nat) : TTm K n m p q i1 i2 ≤ 1400000000 := by
  have hN8 : zd p q < 8 := by unfold zd; split <;> omega
  have := TT_le (a := tpA K n p q) (b := tpA K m p q) (r := tkR K n m p q) (S1 := mS (Int32.ofNat i1) p q) (S2 := mS (Int32.ofNat i2) p q) (N := zd p q) (fun i e h1 h2 => sgl_le (tb_lt hp hq (by omega)) (tb_lt hp hq h2)) (fun i e h1 h2 => sgl_le (tb_lt hp hq h2) (tb_lt hp hq (by omega))) (zd p q) (Nat.le_refl _)
  show TT _ _ _ _ _ _ ≤ _
  omega
/-- the set of costs of the masks below i, and of those at i below j -/
def tbS (K : Nat → Int32) (n m p q Y1 Y2 i j : Nat) (c : Nat) : Prop := c < 100000000 ∧ ∃ i1 i2, i1 ≤ Y1 ∧ i2 ≤ Y2 ∧ sbm i1 Y1 ∧ sbm i2 Y2 ∧ (i1 < i ∨ (i1 = i ∧ i2 < j)) ∧ c = TTm K n m p q i1 i2
set_option maxRecDepth 20000 in
theorem mx_loops (hI : zr_tb I K n m) (hp : p < 8) (hq : q < 8) (hpq : p ≠ q) {Y1 Y2 : Nat} (hY1 : Y1 < 256) (hY2 : Y2 < 256) : zp_wp (sf_bnd (sf_loop (β := (Int32 × Int32)) (γ := (Int32)) (fun b14 =>
  if Int32.ofNat Y1 < b14.2 then (
  sf_ret (.inr b14.1)
  ) else (
  if (b14.2 &&& (Int32.ofNat Y1 ^^^ (-1 : Int32))) = 0 then (
  sf_bnd (sf_loop (β := (Int32 × Int32)) (γ := (Int32)) (fun b17 =>
  if Int32.ofNat Y2 < b17.2 then (
  sf_ret (.inr b17.1)
  ) else (
  if (b17.2 &&& (Int32.ofNat Y2 ^^^ (-1 : Int32))) = 0 then (
  sf_bnd (sf_rc 11 (some 112) (jx_Mo_costsTogether (some 112) b14.2 b17.2 (Int32.ofNat p) (Int32.ofNat q))) fun x20 =>
  sf_bnd (jx_Mo_lesser b17.1 x20) fun x21 =>
  sf_bnd (sf_ret (b17.2 + (1 : Int32))) fun y22 =>
  sf_ret (.inl (x21, y22))
  ) else (
  sf_bnd (sf_ret (b17.2 + (1 : Int32))) fun y23 =>
  sf_ret (.inl (b17.1, y23))
  )
  )
  ) sf_fuel (b14.1, (0 : Int32))) (fun e24 =>
  sf_bnd (sf_ret (b14.2 + (1 : Int32))) fun y25 =>
  sf_ret (.inl (e24, y25))
  )
  ) else (
  sf_bnd (sf_ret (b14.2 + (1 : Int32))) fun y26 =>
  sf_ret (.inl (b14.1, y26))
  )
  )
  ) sf_fuel ((100000000 : Int32), (0 : Int32))) (fun e27 =>
  if e27 < (100000000 : Int32) then (
  sf_ret e27
  ) else (
  sf_ret (-1 : Int32)
  )
  )) (fun r τ => τ = zp_Z t I J D ∧ ∃ v, v ≤ 100000000 ∧ zy_min (tbS K n m p q Y1 Y2 (Y1 + 1) 0) (dec v) ∧ r = en (dec v)) (zp_Z t I J D) := by
  -- one more cost
  have more : ∀ (S S' : Nat → Prop) (v x : Nat), v ≤ 100000000 → zy_min S (dec v) → (∀ c, S' c ↔ (S c ∨ (c < 100000000 ∧ c = x))) → zy_min S' (dec (if x < v then x else v)) ∧ (if x < v then x else v) ≤ 100000000 := by
    intro S S' v x hv hS hS'
    refine ⟨?_, by split <;> omega⟩
    by_cases hx : x < 100000000
    · rw [← dec_min hv hx]
      exact zy_min_iff (zy_min_add hS x) (fun c => by
        rw [hS' c]
        constructor
        · rintro (h | rfl)
          · exact Or.inl h
          · exact Or.inr ⟨hx, rfl⟩
        · rintro (h | ⟨_, rfl⟩)
          · exact Or.inl h
          · exact Or.inr rfl)
    · rw [if_neg (by omega)]
      exact zy_min_iff hS (fun c => by
        rw [hS' c]
        constructor
        · exact Or.inl
        · rintro (h | ⟨h1, rfl⟩)
          · exact h
          · exact absurd h1 hx)
  have nothing : zy_min (tbS K n m p q Y1 Y2 0 0) (dec 100000000) := by
    refine ⟨fun c hc => ?_, fun v hv => by cases hv⟩
    obtain ⟨-, i1, i2, -, -, -, -, h, -⟩ := hc
    omega
  refine zl_g (fun i (v : Nat) => (Int32.ofNat v, Int32.ofNat i)) 0 (Y1 + 1) (s0 := 100000000) rfl (by omega) (by omega) (fun i v I' => I' = I ∧ v ≤ 100000000 ∧ zy_min (tbS K n m p q Y1 Y2 i 0) (dec v)) ⟨rfl, Nat.le_refl _, nothing⟩ ?step ?fin
  case fin =>
    rintro v I' ⟨rfl, hv, hS⟩
    refine ss_iT (show Int32.ofNat Y1 < Int32.ofNat (Y1 + 1) from zi_ltL (by omega) (by omega)) ?_
    refine ss_ret ⟨_, rfl, ?_⟩
    show zp_wp (if Int32.ofNat v < (100000000 : Int32) then sf_ret (Int32.ofNat v) else sf_ret (-1)) _ _
    by_cases h : v < 100000000
    · refine ss_iT (zi_ltL (b := 100000000) h (by omega)) (ss_ret ⟨rfl, v, hv, hS, ?_⟩)
      unfold dec; rw [if_pos h]; rfl
    · refine ss_iF (zi_nlt (b := 100000000) (by omega) (by omega)) (ss_ret ⟨rfl, v, hv, hS, ?_⟩)
      unfold dec; rw [if_neg h]; rfl
  case step =>
    rintro i v I' - hi ⟨rfl, hv, hS⟩
    refine ss_iF (show ¬ Int32.ofNat Y1 < Int32.ofNat i from zi_nlt (by omega) (by omega)) ?_
    by_cases hsub : sbm i Y1
    · refine ss_iT (show (Int32.ofNat i &&& (Int32.ofNat Y1 ^^^ (-1 : Int32))) = 0 from (sub_iff (by omega) hY1).mpr hsub) ?_
      refine zl_g (fun j (v : Nat) => (Int32.ofNat v, Int32.ofNat j)) 0 (Y2 + 1) (s0 := v) rfl (by omega) (by omega) (fun j v I2 => I2 = I' ∧ v ≤ 100000000 ∧ zy_min (tbS K n m p q Y1 Y2 i j) (dec v)) ⟨rfl, hv, hS⟩ ?step2 ?fin2
      case fin2 =>
        rintro v I2 ⟨rfl, hv, hS⟩
        refine ss_iT (show Int32.ofNat Y2 < Int32.ofNat (Y2 + 1) from zi_ltL (by omega) (by omega)) ?_
        refine ss_ret ⟨_, rfl, ?_⟩
        refine ss_bret ?_
        refine ss_ret (Or.inl ⟨v, I2, ?_, rfl, rfl, hv, zy_min_iff hS (fun c => ?_)⟩)
        · show Sum.inl (Int32.ofNat v, Int32.ofNat i + 1) = Sum.inl (Int32.ofNat v, Int32.ofNat (i + 1))
          rw [zi_s]
        · constructor
          · rintro ⟨h1, i1, i2, h2, h3, h4, h5, h6, h7⟩
            exact ⟨h1, i1, i2, h2, h3, h4, h5, by omega, h7⟩
          · rintro ⟨h1, i1, i2, h2, h3, h4, h5, h6, h7⟩
            exact ⟨h1, i1, i2, h2, h3, h4, h5, by omega, h7⟩
      case step2 =>
        rintro j v I2 - hj ⟨rfl, hv, hS⟩
        refine ss_iF (show ¬ Int32.ofNat Y2 < Int32.ofNat j from zi_nlt (by omega) (by omega)) ?_
        by_cases hsub2 : sbm j Y2
        · refine ss_iT (show (Int32.ofNat j &&& (Int32.ofNat Y2 ^^^ (-1 : Int32))) = 0 from (sub_iff (by omega) hY2).mpr hsub2) ?_
          refine ss_rc rfl ?_
          refine ss_call (mx_together (Int32.ofNat i) (Int32.ofNat j) hI hp hq hpq) ?_
          refine ss_pure (ze_lesser _ _) ?_
          refine ss_bret ?_
          have hx := TTm_le (K := K) (n := n) (m := m) hp hq i j
          obtain ⟨m1, m2⟩ := more (tbS K n m p q Y1 Y2 i j) (tbS K n m p q Y1 Y2 i (j + 1)) v (TTm K n m p q i j) hv hS (fun c => by
            constructor
            · rintro ⟨h1, i1, i2, h2, h3, h4, h5, h6, h7⟩
              by_cases e : i1 = i ∧ i2 = j
              · obtain ⟨rfl, rfl⟩ := e
                exact Or.inr ⟨h1, h7⟩
              · exact Or.inl ⟨h1, i1, i2, h2, h3, h4, h5, by omega, h7⟩
            · rintro (⟨h1, i1, i2, h2, h3, h4, h5, h6, h7⟩ | ⟨h1, h7⟩)
              · exact ⟨h1, i1, i2, h2, h3, h4, h5, by omega, h7⟩
              · exact ⟨h1, i, j, by omega, by omega, hsub, hsub2, by omega, h7⟩)
          refine ss_ret (Or.inl ⟨if TTm K n m p q i j < v then TTm K n m p q i j else v, I2, ?_, rfl, rfl, m2, m1⟩)
          show Sum.inl ((if Int32.ofNat (TTm K n m p q i j) < Int32.ofNat v then Int32.ofNat (TTm K n m p q i j) else Int32.ofNat v), Int32.ofNat j + 1) = Sum.inl (Int32.ofNat _, Int32.ofNat (j + 1))
          rw [zi_s]
          by_cases h : TTm K n m p q i j < v
          · rw [if_pos (zi_ltL h (by omega)), if_pos h]
          · rw [if_neg (zi_nlt (by omega) (by omega)), if_neg h]
        · refine ss_iF (show ¬ (Int32.ofNat j &&& (Int32.ofNat Y2 ^^^ (-1 : Int32))) = 0 from fun e => hsub2 ((sub_iff (by omega) hY2).mp e)) ?_
          refine ss_bret ?_
          refine ss_ret (Or.inl ⟨v, I2, ?_, rfl, rfl, hv, zy_min_iff hS (fun c => ?_)⟩)
          · show Sum.inl (Int32.ofNat v, Int32.ofNat j + 1) = Sum.inl (Int32.ofNat v, Int32.ofNat (j + 1))
            rw [zi_s]
          · constructor
            · rintro ⟨h1, i1, i2, h2, h3, h4, h5, h6, h7⟩
              exact ⟨h1, i1, i2, h2, h3, h4, h5, by omega, h7⟩
            · rintro ⟨h1, i1, i2, h2, h3, h4, h5, h6, h7⟩
              by_cases e : i1 = i ∧ i2 = j
              · obtain ⟨rfl, rfl⟩ := e
                exact absurd h5 hsub2
              · exact ⟨h1, i1, i2, h2, h3, h4, h5, by omega, h7⟩
    · refine ss_iF (show ¬ (Int32.ofNat i &&& (Int32.ofNat Y1 ^^^ (-1 : Int32))) = 0 from fun e => hsub ((sub_iff (by omega) hY1).mp e)) ?_
      refine ss_bret ?_
      refine ss_ret (Or.inl ⟨v, I', ?_, rfl, rfl, hv, zy_min_iff hS (fun c => ?_)⟩)
      · show Sum.inl (Int32.ofNat v, Int32.ofNat i + 1) = Sum.inl (Int32.ofNat v, Int32.ofNat (i + 1))
        rw [zi_s]
      · constructor
        · rintro ⟨h1, i1, i2, h2, h3, h4, h5, h6, h7⟩
          exact ⟨h1, i1, i2, h2, h3, h4, h5, by omega, h7⟩
        · rintro ⟨h1, i1, i2, h2, h3, h4, h5, h6, h7⟩
          by_cases e : i1 = i
          · subst e; exact absurd h4 hsub
          · exact ⟨h1, i1, i2, h2, h3, h4, h5, by omega, h7⟩
set_option maxRecDepth 20000 in
theorem mx_tab (hK : I 114 = K) (hM : zr_ml K) (x y p q : Int32) : zp_wp (jx_Mo_thereAndBack (some 112) x y p q) (fun r τ => ∃ I', τ = zp_Z t I' J D ∧ zf zk_l3 I I' ∧ r = sp_tab K x y p q) (zp_Z t I J D) := by
  have hv := hM.1
  have c1 := mx_canAsk (t := t) (J := J) (D := D) hK hv x p q
  have c2 := mx_canAsk (t := t) (J := J) (D := D) hK hv y q p
  unfold jx_Mo_thereAndBack
  refine ss_rc rfl ?_
  refine ss_call c1 ?_
  cases a1 : sp_ask K x p q with
  | false => exact ss_iT rfl (ss_ret ⟨I, rfl, zf_refl _ _, (sp_tab_no (fun h => by rw [a1] at h; exact absurd h.1 (by decide))).symm⟩)
  | true =>
    refine ss_iF (by decide) ?_
    refine ss_rc rfl ?_
    refine ss_call c2 ?_
    cases a2 : sp_ask K y q p with
    | false => exact ss_iT rfl (ss_ret ⟨I, rfl, zf_refl _ _, (sp_tab_no (fun h => by rw [a2] at h; exact absurd h.2 (by decide))).symm⟩)
    | true =>
      obtain ⟨n, a, b, hn, ha, hb, rfl, rfl, rfl, hne, gn, hhn, hleg, -⟩ := sp_ask_T hv a1
      obtain ⟨m, b', a', hm, hb', ha', rfl, eb, ea, -, gm, hhm, -, -⟩ := sp_ask_T hv a2
      have e1 : b' = b := by rw [zi_eq (by omega) (by omega)] at eb; exact eb.symm
      have e2 : a' = a := by rw [zi_eq (by omega) (by omega)] at ea; exact ea.symm
      subst e1
      subst e2
      obtain ⟨w1, hw1, ew1⟩ := zi_rng (n := 255) (hv.2.2.2.2.1 n hn).1 (hv.2.2.2.2.1 n hn).2 (by omega)
      obtain ⟨w2, hw2, ew2⟩ := zi_rng (n := 255) (hv.2.2.2.2.1 m hm).1 (hv.2.2.2.2.1 m hm).2 (by omega)
      refine ss_iF (by decide) ?_
      refine ss_rc rfl ?_
      refine zp_wp_call (mx_laysBoth hK hM hn hm) ?_
      rintro _ τ ⟨I1, rfl, f1, r1⟩
      have hK1 : I1 114 = K := (zf_row f1 (fun k => rfl)).trans hK
      have k1 : I1 114 (195 + n) = Int32.ofNat w1 := by rw [hK1]; exact ew1
      have k2 : I1 114 (195 + m) = Int32.ofNat w2 := by rw [hK1]; exact ew2
      have bt := mx_between (t := t) (I := I1) (J := J) (D := D) ha hb hne
      obtain ⟨y1, -⟩ := tb_mask (n := n) ha hb hne hw1 ew1
      obtain ⟨y2, -⟩ := tb_mask (n := m) ha hb hne hw2 ew2
      refine ss_call bt ?_
      refine ss_pt rfl rfl ?_
      refine ss_aI rfl (zi_add 195 n) (by omega) (by decide) k1 ?_
      refine ss_bret ?_
      refine ss_call bt ?_
      refine ss_pt rfl rfl ?_
      refine ss_aI rfl (zi_add 195 m) (by omega) (by decide) k2 ?_
      refine ss_bret ?_
      rw [i32_and, i32_and]
      refine zp_wp_mono (mx_loops r1 ha hb hne y1 y2) ?_
      rintro r τ ⟨rfl, v, hv8, hmin, rfl⟩
      refine ⟨I1, rfl, f1, ?_⟩
      have hmin2 : zy_min (tkM K n m a' b') (dec v) := by
        refine zy_min_iff hmin (fun c => ?_)
        rw [tb_M ha hb gn gm hw1 ew1 hw2 ew2]
        constructor
        · rintro ⟨h1, i1, i2, h2, h3, h4, h5, h6, h7⟩
          exact ⟨h1, i1, i2, by omega, by omega, h4, h5, h7⟩
        · rintro ⟨h1, i1, i2, h2, h3, h4, h5, h7⟩
          have l1 := sub_le h2 h4
          have l2 := sub_le h3 h5
          exact ⟨h1, i1, i2, l1, l2, h4, h5, by omega, h7⟩
      have := zy_min_uniq hmin2 (tb_min hn hm hhn hhm ha hb gn gm)
      unfold sp_tab
      rw [if_pos hleg, zi_ixn (by omega), zi_ixn (by omega), this]
end
set_option maxRecDepth 20000 in
/-- case 24 -/
theorem CL_tab (x y p q : Int32) : CL (jx_SF_thereAndBack (some 0) x y p q) (jx_Mo_thereAndBack (some 112) x y p q) := CL.ask (fun K => sp_tab K x y p q) (fun _ _ _ _ _ h => cx_tab h x y p q) (fun _ _ _ _ _ h1 h2 => mx_tab h1 h2 x y p q) zk_sx4 zk_sl3
