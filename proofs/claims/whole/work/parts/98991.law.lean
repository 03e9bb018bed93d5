/-! The law: both alike from the start, call by call. -/
set_option maxRecDepth 20000 in
theorem init_R0 : ∀ a, a < 8 → ∀ k, k < 54 → mkR LRA (0 + a) k = zp_pt (0 + a) k := by decide +kernel
set_option maxRecDepth 20000 in
theorem init_R8 : ∀ a, a < 8 → ∀ k, k < 54 → mkR LRA (8 + a) k = zp_pt (8 + a) k := by decide +kernel
set_option maxRecDepth 20000 in
theorem init_R16 : ∀ a, a < 8 → ∀ k, k < 54 → mkR LRA (16 + a) k = zp_pt (16 + a) k := by decide +kernel
set_option maxRecDepth 20000 in
theorem init_R24 : ∀ a, a < 8 → ∀ k, k < 54 → mkR LRA (24 + a) k = zp_pt (24 + a) k := by decide +kernel
set_option maxRecDepth 20000 in
theorem init_R32 : ∀ a, a < 8 → ∀ k, k < 54 → mkR LRA (32 + a) k = zp_pt (32 + a) k := by decide +kernel
set_option maxRecDepth 20000 in
theorem init_R40 : ∀ a, a < 8 → ∀ k, k < 54 → mkR LRA (40 + a) k = zp_pt (40 + a) k := by decide +kernel
set_option maxRecDepth 20000 in
theorem init_R48 : ∀ a, a < 8 → ∀ k, k < 54 → mkR LRA (48 + a) k = zp_pt (48 + a) k := by decide +kernel
set_option maxRecDepth 20000 in
theorem init_R56 : ∀ a, a < 8 → ∀ k, k < 54 → mkR LRA (56 + a) k = zp_pt (56 + a) k := by decide +kernel
set_option maxRecDepth 20000 in
theorem init_R64 : ∀ a, a < 8 → ∀ k, k < 54 → mkR LRA (64 + a) k = zp_pt (64 + a) k := by decide +kernel
set_option maxRecDepth 20000 in
theorem init_R72 : ∀ a, a < 8 → ∀ k, k < 54 → mkR LRA (72 + a) k = zp_pt (72 + a) k := by decide +kernel
set_option maxRecDepth 20000 in
theorem init_R80 : ∀ a, a < 8 → ∀ k, k < 54 → mkR LRA (80 + a) k = zp_pt (80 + a) k := by decide +kernel
set_option maxRecDepth 20000 in
theorem init_R88 : ∀ a, a < 8 → ∀ k, k < 54 → mkR LRA (88 + a) k = zp_pt (88 + a) k := by decide +kernel
set_option maxRecDepth 20000 in
theorem init_R96 : ∀ a, a < 8 → ∀ k, k < 54 → mkR LRA (96 + a) k = zp_pt (96 + a) k := by decide +kernel
set_option maxRecDepth 20000 in
theorem init_R104 : ∀ a, a < 8 → ∀ k, k < 54 → mkR LRA (104 + a) k = zp_pt (104 + a) k := by decide +kernel
set_option maxRecDepth 20000 in
theorem init_R112 : ∀ a, a < 8 → ∀ k, k < 54 → mkR LRA (112 + a) k = zp_pt (112 + a) k := by decide +kernel
set_option maxRecDepth 20000 in
theorem init_R120 : ∀ a, a < 8 → ∀ k, k < 54 → mkR LRA (120 + a) k = zp_pt (120 + a) k := by decide +kernel
set_option maxRecDepth 20000 in
theorem init_R128 : ∀ a, a < 8 → ∀ k, k < 54 → mkR LRA (128 + a) k = zp_pt (128 + a) k := by decide +kernel
set_option maxRecDepth 20000 in
theorem init_R136 : ∀ a, a < 3 → ∀ k, k < 54 → mkR LRA (136 + a) k = zp_pt (136 + a) k := by decide +kernel
set_option maxRecDepth 20000 in
theorem init_R : mkR LRA = zp_rfs (fun _ _ => none) := by
  funext a k
  have hz : zp_rfs (fun _ _ => none) a k = zp_pt a k := by
    unfold zp_rfs
    cases zp_pt a k <;> rfl
  rw [hz]
  by_cases ha : a < 139
  · by_cases hk : k < 54
    · rcases Nat.lt_or_ge a 8 with h | h
      · have := init_R0 (a - 0) (by omega) k hk; rw [show 0 + (a - 0) = a by omega] at this; exact this
      rcases Nat.lt_or_ge a 16 with h | h
      · have := init_R8 (a - 8) (by omega) k hk; rw [show 8 + (a - 8) = a by omega] at this; exact this
      rcases Nat.lt_or_ge a 24 with h | h
      · have := init_R16 (a - 16) (by omega) k hk; rw [show 16 + (a - 16) = a by omega] at this; exact this
      rcases Nat.lt_or_ge a 32 with h | h
      · have := init_R24 (a - 24) (by omega) k hk; rw [show 24 + (a - 24) = a by omega] at this; exact this
      rcases Nat.lt_or_ge a 40 with h | h
      · have := init_R32 (a - 32) (by omega) k hk; rw [show 32 + (a - 32) = a by omega] at this; exact this
      rcases Nat.lt_or_ge a 48 with h | h
      · have := init_R40 (a - 40) (by omega) k hk; rw [show 40 + (a - 40) = a by omega] at this; exact this
      rcases Nat.lt_or_ge a 56 with h | h
      · have := init_R48 (a - 48) (by omega) k hk; rw [show 48 + (a - 48) = a by omega] at this; exact this
      rcases Nat.lt_or_ge a 64 with h | h
      · have := init_R56 (a - 56) (by omega) k hk; rw [show 56 + (a - 56) = a by omega] at this; exact this
      rcases Nat.lt_or_ge a 72 with h | h
      · have := init_R64 (a - 64) (by omega) k hk; rw [show 64 + (a - 64) = a by omega] at this; exact this
      rcases Nat.lt_or_ge a 80 with h | h
      · have := init_R72 (a - 72) (by omega) k hk; rw [show 72 + (a - 72) = a by omega] at this; exact this
      rcases Nat.lt_or_ge a 88 with h | h
      · have := init_R80 (a - 80) (by omega) k hk; rw [show 80 + (a - 80) = a by omega] at this; exact this
      rcases Nat.lt_or_ge a 96 with h | h
      · have := init_R88 (a - 88) (by omega) k hk; rw [show 88 + (a - 88) = a by omega] at this; exact this
      rcases Nat.lt_or_ge a 104 with h | h
      · have := init_R96 (a - 96) (by omega) k hk; rw [show 96 + (a - 96) = a by omega] at this; exact this
      rcases Nat.lt_or_ge a 112 with h | h
      · have := init_R104 (a - 104) (by omega) k hk; rw [show 104 + (a - 104) = a by omega] at this; exact this
      rcases Nat.lt_or_ge a 120 with h | h
      · have := init_R112 (a - 112) (by omega) k hk; rw [show 112 + (a - 112) = a by omega] at this; exact this
      rcases Nat.lt_or_ge a 128 with h | h
      · have := init_R120 (a - 120) (by omega) k hk; rw [show 120 + (a - 120) = a by omega] at this; exact this
      rcases Nat.lt_or_ge a 136 with h | h
      · have := init_R128 (a - 128) (by omega) k hk; rw [show 128 + (a - 128) = a by omega] at this; exact this
      rcases Nat.lt_or_ge a 139 with h | h
      · have := init_R136 (a - 136) (by omega) k hk; rw [show 136 + (a - 136) = a by omega] at this; exact this
      omega
    · have h1 : LRA.all (fun e => decide (e.2.1 < 54)) = true := by decide +kernel
      have h2 : zp_ptl.all (fun r => decide (r.length ≤ 54)) = true := by decide +kernel
      have e1 : mkR LRA a k = none := by
        unfold mkR
        rw [List.find?_eq_none.mpr (fun x hx => ?_)]
        · rfl
        · have := List.all_eq_true.mp h1 x hx
          rw [decide_eq_true_eq] at this
          rw [Bool.and_eq_true, beq_iff_eq, beq_iff_eq]
          rintro ⟨-, h⟩
          omega
      rw [e1]
      unfold zp_pt
      have hl : a < zp_ptl.length := ha
      have h3 := List.all_eq_true.mp h2 _ (List.getElem_mem hl)
      rw [decide_eq_true_eq] at h3
      rw [List.getD_eq_getElem?_getD, List.getElem?_eq_none]
      · rfl
      · rw [List.getD_eq_getElem?_getD, List.getElem?_eq_getElem hl]
        show zp_ptl[a].length ≤ k
        omega
  · rw [zp_pt_hi (by omega)]
    have h1 : LRA.all (fun e => decide (e.1 < 139)) = true := by decide +kernel
    unfold mkR
    rw [List.find?_eq_none.mpr (fun x hx => ?_)]
    · rfl
    · have := List.all_eq_true.mp h1 x hx
      rw [decide_eq_true_eq] at this
      rw [Bool.and_eq_true, beq_iff_eq, beq_iff_eq]
      rintro ⟨h, -⟩
      omega
set_option maxRecDepth 20000 in
theorem init_Z : IS 139 LIA LRA = zp_Z [] (mkI LIA) (fun _ _ => 0) (fun _ _ => none) := by
  unfold IS zp_Z
  rw [init_R, show zp_sh0.take 139 = zp_sh0 ++ [] from by decide +kernel]
set_option maxRecDepth 20000 in
theorem init_off : zr_off (mkI LIA) 2 (mkI LIA 114) := by
  refine ⟨by decide +kernel, by decide +kernel, by decide +kernel, by decide +kernel, by decide +kernel, by decide +kernel, by decide +kernel, by decide +kernel, by decide +kernel, by decide +kernel, by decide +kernel, by decide +kernel, by decide +kernel, by decide +kernel, by decide +kernel⟩
set_option maxRecDepth 20000 in
theorem init_zv : zv (mkI LIA 114) := by
  refine ⟨by decide +kernel, by decide +kernel, by decide +kernel, by decide +kernel, by decide +kernel, by decide +kernel, by decide +kernel, by decide +kernel, by decide +kernel, by decide +kernel, by decide +kernel, by decide +kernel⟩
set_option maxRecDepth 20000 in
theorem init_tp : tp_ok (mkI LIA) := ⟨⟨0, by decide, by decide +kernel, by decide +kernel⟩, by decide +kernel⟩
set_option maxRecDepth 20000 in
theorem init_ms : ms_ok (mkI LIA) := ⟨by decide +kernel, by decide +kernel, by decide +kernel, by decide +kernel, by decide +kernel, by decide +kernel, by decide +kernel⟩
set_option maxRecDepth 20000 in
theorem init_wb : zr_wb (mkI LIA) := by
  unfold zr_wb
  decide +kernel
set_option maxRecDepth 20000 in
theorem init_INV : INV [] (mkI LIA) (fun _ _ => none) := by
  refine ⟨⟨init_off, init_zv, fun n hn => ?_⟩, fun n _ => Or.inl rfl, ⟨[], cx_lg_nil (by decide +kernel) (by decide +kernel), ⟨by decide, by decide +kernel, fun i e hi => by cases hi⟩, fun e he => absurd he List.not_mem_nil⟩, init_tp, init_ms, init_wb, Or.inl ⟨rfl, by decide +kernel⟩, Or.inl ⟨rfl, by decide +kernel⟩, fun o h => by cases h⟩
  exfalso
  have : sf_ix (mkI LIA 114 229) = 0 := by decide +kernel
  omega
/-- what one call of the script leaves -/
def JP (c : Nat) (body : sf_M (Int32 ⊕ (Int32 ⊕ Unit))) : Prop := ∀ t I J D, INV t I D → zp_wp body (fun r τ => r = .inl (Int32.ofNat (6 * (c + 1))) ∧ ∃ ex I' J' D', τ = zp_Z (t ++ ex) I' J' D' ∧ INV (t ++ ex) I' D' ∧ ex.length ≤ 12 ∧ (ex.map (fun q => q.2)).sum ≤ 877) (zp_Z t I J D)
set_option maxRecDepth 20000 in
theorem ss_scr {β : Type} {L m : Nat} {xs : Nat → Int32} {x : Int32} {g : Int32 → sf_M β} {Q : β → sf_St → Prop} {σ : sf_St} (hx : x = Int32.ofNat m) (hm : m < L) (hL : L ≤ 3072) (h : zp_wp (g (xs m)) Q σ) : zp_wp (sf_bnd (sf_scr L xs x) g) Q σ := by
  refine ss_call (v := xs m) (τ := σ) ?_ h
  unfold sf_scr
  have e : x.toInt = (m : Int) := by rw [hx]; exact zi_ofNat (by omega)
  rw [e, if_pos (by rw [Bool.and_eq_true, decide_eq_true_eq, decide_eq_true_eq]; omega), hx, zi_ixn (by omega)]
set_option maxRecDepth 20000 in
theorem jq_rc {α β : Type} {ci : Nat} {o : Option Nat} {f : sf_M α} {g : α → sf_M β} {Q : β → sf_St → Prop} {σ : sf_St} (ho : sf_isO ci o σ = true) (h : zp_wp (sf_bnd f g) Q σ) : zp_wp (sf_bnd (sf_rc ci o f) g) Q σ := by
  obtain ⟨x, τ, e, hq⟩ := h
  refine ⟨x, τ, ?_, hq⟩
  unfold sf_bnd sf_rc at *
  rw [if_pos ho]; exact e
set_option maxRecDepth 20000 in
/-- the model still lies where it lay -/
theorem jq_call {α : Type} {f g : sf_M α} (h : CL f g) (hg : sf_Gr f) {t : List (Nat × Nat)} {I : Nat → Nat → Int32} {J : Nat → Nat → Int64} {D : Nat → Nat → Option Nat} (hI : INV t I D) : zp_wp f (fun a σ => sf_isO 11 (some 112) σ = true ∧ zp_wp g (fun b τ => a = b ∧ ∃ ex I' J' D', τ = zp_Z (t ++ ex) I' J' D' ∧ INV (t ++ ex) I' D' ∧ ex.length ≤ 12 ∧ (ex.map (fun q => q.2)).sum ≤ 877) σ) (zp_Z t I J D) := by
  obtain ⟨x, τ, e, hq⟩ := h t I J D hI
  refine ⟨x, τ, e, ?_, hq⟩
  obtain ⟨u, hu⟩ := hg _ _ _ e
  have hu' : τ.1 = (zp_sh0 ++ t) ++ u := hu
  show ((τ.1.getD 112 (999, 0)).1 == 10 + 11) = true
  rw [hu', List.append_assoc]
  have := sh_fix (t := t ++ u) (a := 112) (by decide)
  rw [this]; rfl
set_option maxRecDepth 20000 in
theorem jq_0 (X : sf_X) {L c : Nat} {xs : Nat → Int32} (hL : L ≤ 3072) (hc : 6 * c + 6 ≤ L) : JP c (jl_0 L xs (Int32.ofNat (6 * c)) (some 0) (some 112)) := by
  intro t I J D hI
  unfold jl_0
  refine ss_scr (m := 6 * c + 1) (zi_add (6 * c) 1) (by omega) hL ?_
  refine ss_scr (m := 6 * c + 2) (zi_add (6 * c) 2) (by omega) hL ?_
  refine ss_scr (m := 6 * c + 3) (zi_add (6 * c) 3) (by omega) hL ?_
  refine ss_rc rfl ?_
  refine zp_wp_call (jq_call (CL_train _ _ _) ((ok_SF_train (some 0) _ _ _).1 X) hI) ?_
  rintro r1 τ ⟨ho, hq⟩
  refine ss_scr (m := 6 * c + 1) (zi_add (6 * c) 1) (by omega) hL ?_
  refine ss_scr (m := 6 * c + 2) (zi_add (6 * c) 2) (by omega) hL ?_
  refine ss_scr (m := 6 * c + 3) (zi_add (6 * c) 3) (by omega) hL ?_
  refine jq_rc ho ?_
  refine zp_wp_call hq ?_
  rintro r2 τ2 ⟨rfl, ex, I2, J2, D2, rfl, h2, h3, h4⟩
  refine ss_iT rfl ?_
  refine ss_bret ?_
  exact ss_ret ⟨by rw [show Int32.ofNat (6 * c) + (6 : Int32) = Int32.ofNat (6 * (c + 1)) from zi_add (6 * c) 6], ex, I2, J2, D2, rfl, h2, h3, h4⟩
set_option maxRecDepth 20000 in
theorem jq_1 (X : sf_X) {L c : Nat} {xs : Nat → Int32} (hL : L ≤ 3072) (hc : 6 * c + 6 ≤ L) : JP c (jl_1 L xs (Int32.ofNat (6 * c)) (some 0) (some 112)) := by
  intro t I J D hI
  unfold jl_1
  refine ss_scr (m := 6 * c + 1) (zi_add (6 * c) 1) (by omega) hL ?_
  refine ss_scr (m := 6 * c + 2) (zi_add (6 * c) 2) (by omega) hL ?_
  refine ss_rc rfl ?_
  refine zp_wp_call (jq_call (CL_of _ _) ((ok_SF_of (some 0) _ _).1 X) hI) ?_
  rintro r1 τ ⟨ho, hq⟩
  refine ss_scr (m := 6 * c + 1) (zi_add (6 * c) 1) (by omega) hL ?_
  refine ss_scr (m := 6 * c + 2) (zi_add (6 * c) 2) (by omega) hL ?_
  refine jq_rc ho ?_
  refine zp_wp_call hq ?_
  rintro r2 τ2 ⟨rfl, ex, I2, J2, D2, rfl, h2, h3, h4⟩
  refine ss_iT rfl ?_
  refine ss_bret ?_
  exact ss_ret ⟨by rw [show Int32.ofNat (6 * c) + (6 : Int32) = Int32.ofNat (6 * (c + 1)) from zi_add (6 * c) 6], ex, I2, J2, D2, rfl, h2, h3, h4⟩
set_option maxRecDepth 20000 in
theorem jq_2 (X : sf_X) {L c : Nat} {xs : Nat → Int32} (hL : L ≤ 3072) (hc : 6 * c + 6 ≤ L) : JP c (jl_2 L xs (Int32.ofNat (6 * c)) (some 0) (some 112)) := by
  intro t I J D hI
  unfold jl_2
  refine ss_scr (m := 6 * c + 1) (zi_add (6 * c) 1) (by omega) hL ?_
  refine ss_scr (m := 6 * c + 2) (zi_add (6 * c) 2) (by omega) hL ?_
  refine ss_scr (m := 6 * c + 3) (zi_add (6 * c) 3) (by omega) hL ?_
  refine ss_rc rfl ?_
  refine zp_wp_call (jq_call (CL_price _ _ _) ((ok_SF_price (some 0) _ _ _).1 X) hI) ?_
  rintro r1 τ ⟨ho, hq⟩
  refine ss_scr (m := 6 * c + 1) (zi_add (6 * c) 1) (by omega) hL ?_
  refine ss_scr (m := 6 * c + 2) (zi_add (6 * c) 2) (by omega) hL ?_
  refine ss_scr (m := 6 * c + 3) (zi_add (6 * c) 3) (by omega) hL ?_
  refine jq_rc ho ?_
  refine zp_wp_call hq ?_
  rintro r2 τ2 ⟨rfl, ex, I2, J2, D2, rfl, h2, h3, h4⟩
  refine ss_iT rfl ?_
  refine ss_bret ?_
  exact ss_ret ⟨by rw [show Int32.ofNat (6 * c) + (6 : Int32) = Int32.ofNat (6 * (c + 1)) from zi_add (6 * c) 6], ex, I2, J2, D2, rfl, h2, h3, h4⟩
set_option maxRecDepth 20000 in
theorem jq_3 (X : sf_X) {L c : Nat} {xs : Nat → Int32} (hL : L ≤ 3072) (hc : 6 * c + 6 ≤ L) : JP c (jl_3 L xs (Int32.ofNat (6 * c)) (some 0) (some 112)) := by
  intro t I J D hI
  unfold jl_3
  refine ss_scr (m := 6 * c + 1) (zi_add (6 * c) 1) (by omega) hL ?_
  refine ss_scr (m := 6 * c + 2) (zi_add (6 * c) 2) (by omega) hL ?_
  refine ss_scr (m := 6 * c + 3) (zi_add (6 * c) 3) (by omega) hL ?_
  refine ss_scr (m := 6 * c + 4) (zi_add (6 * c) 4) (by omega) hL ?_
  refine ss_rc rfl ?_
  refine zp_wp_call (jq_call (CL_isBarred _ _ _ _) ((ok_SF_isBarred (some 0) _ _ _ _).1 X) hI) ?_
  rintro r1 τ ⟨ho, hq⟩
  refine ss_scr (m := 6 * c + 1) (zi_add (6 * c) 1) (by omega) hL ?_
  refine ss_scr (m := 6 * c + 2) (zi_add (6 * c) 2) (by omega) hL ?_
  refine ss_scr (m := 6 * c + 3) (zi_add (6 * c) 3) (by omega) hL ?_
  refine ss_scr (m := 6 * c + 4) (zi_add (6 * c) 4) (by omega) hL ?_
  refine jq_rc ho ?_
  refine zp_wp_call hq ?_
  rintro r2 τ2 ⟨rfl, ex, I2, J2, D2, rfl, h2, h3, h4⟩
  refine ss_iT rfl ?_
  refine ss_bret ?_
  exact ss_ret ⟨by rw [show Int32.ofNat (6 * c) + (6 : Int32) = Int32.ofNat (6 * (c + 1)) from zi_add (6 * c) 6], ex, I2, J2, D2, rfl, h2, h3, h4⟩
set_option maxRecDepth 20000 in
theorem jq_4 (X : sf_X) {L c : Nat} {xs : Nat → Int32} (hL : L ≤ 3072) (hc : 6 * c + 6 ≤ L) : JP c (jl_4 L xs (Int32.ofNat (6 * c)) (some 0) (some 112)) := by
  intro t I J D hI
  unfold jl_4
  refine ss_scr (m := 6 * c + 1) (zi_add (6 * c) 1) (by omega) hL ?_
  refine ss_scr (m := 6 * c + 2) (zi_add (6 * c) 2) (by omega) hL ?_
  refine ss_scr (m := 6 * c + 3) (zi_add (6 * c) 3) (by omega) hL ?_
  refine ss_rc rfl ?_
  refine zp_wp_call (jq_call (CL_held _ _ _) ((ok_SF_held (some 0) _ _ _).1 X) hI) ?_
  rintro r1 τ ⟨ho, hq⟩
  refine ss_scr (m := 6 * c + 1) (zi_add (6 * c) 1) (by omega) hL ?_
  refine ss_scr (m := 6 * c + 2) (zi_add (6 * c) 2) (by omega) hL ?_
  refine ss_scr (m := 6 * c + 3) (zi_add (6 * c) 3) (by omega) hL ?_
  refine jq_rc ho ?_
  refine zp_wp_call hq ?_
  rintro r2 τ2 ⟨rfl, ex, I2, J2, D2, rfl, h2, h3, h4⟩
  refine ss_iT rfl ?_
  refine ss_bret ?_
  exact ss_ret ⟨by rw [show Int32.ofNat (6 * c) + (6 : Int32) = Int32.ofNat (6 * (c + 1)) from zi_add (6 * c) 6], ex, I2, J2, D2, rfl, h2, h3, h4⟩
set_option maxRecDepth 20000 in
theorem jq_5 (X : sf_X) {L c : Nat} {xs : Nat → Int32} (hL : L ≤ 3072) (hc : 6 * c + 6 ≤ L) : JP c (jl_5 L xs (Int32.ofNat (6 * c)) (some 0) (some 112)) := by
  intro t I J D hI
  unfold jl_5
  refine ss_scr (m := 6 * c + 1) (zi_add (6 * c) 1) (by omega) hL ?_
  refine ss_scr (m := 6 * c + 2) (zi_add (6 * c) 2) (by omega) hL ?_
  refine ss_rc rfl ?_
  refine zp_wp_call (jq_call (CL_terms _ _) ((ok_SF_terms (some 0) _ _).1 X) hI) ?_
  rintro r1 τ ⟨ho, hq⟩
  refine ss_scr (m := 6 * c + 1) (zi_add (6 * c) 1) (by omega) hL ?_
  refine ss_scr (m := 6 * c + 2) (zi_add (6 * c) 2) (by omega) hL ?_
  refine jq_rc ho ?_
  refine zp_wp_call hq ?_
  rintro r2 τ2 ⟨rfl, ex, I2, J2, D2, rfl, h2, h3, h4⟩
  refine ss_iT rfl ?_
  refine ss_bret ?_
  exact ss_ret ⟨by rw [show Int32.ofNat (6 * c) + (6 : Int32) = Int32.ofNat (6 * (c + 1)) from zi_add (6 * c) 6], ex, I2, J2, D2, rfl, h2, h3, h4⟩
set_option maxRecDepth 20000 in
theorem jq_6 (X : sf_X) {L c : Nat} {xs : Nat → Int32} (hL : L ≤ 3072) (hc : 6 * c + 6 ≤ L) : JP c (jl_6 L xs (Int32.ofNat (6 * c)) (some 0) (some 112)) := by
  intro t I J D hI
  unfold jl_6
  refine ss_scr (m := 6 * c + 1) (zi_add (6 * c) 1) (by omega) hL ?_
  refine ss_scr (m := 6 * c + 2) (zi_add (6 * c) 2) (by omega) hL ?_
  refine ss_scr (m := 6 * c + 3) (zi_add (6 * c) 3) (by omega) hL ?_
  refine ss_scr (m := 6 * c + 4) (zi_add (6 * c) 4) (by omega) hL ?_
  refine ss_scr (m := 6 * c + 5) (zi_add (6 * c) 5) (by omega) hL ?_
  refine ss_rc rfl ?_
  refine zp_wp_call (jq_call (CL_feed _ _ _ _ _) ((ok_SF_feed (some 0) _ _ _ _ _).1 X) hI) ?_
  rintro r1 τ ⟨ho, hq⟩
  refine ss_scr (m := 6 * c + 1) (zi_add (6 * c) 1) (by omega) hL ?_
  refine ss_scr (m := 6 * c + 2) (zi_add (6 * c) 2) (by omega) hL ?_
  refine ss_scr (m := 6 * c + 3) (zi_add (6 * c) 3) (by omega) hL ?_
  refine ss_scr (m := 6 * c + 4) (zi_add (6 * c) 4) (by omega) hL ?_
  refine ss_scr (m := 6 * c + 5) (zi_add (6 * c) 5) (by omega) hL ?_
  refine jq_rc ho ?_
  refine zp_wp_call hq ?_
  rintro r2 τ2 ⟨rfl, ex, I2, J2, D2, rfl, h2, h3, h4⟩
  refine ss_iT rfl ?_
  refine ss_bret ?_
  exact ss_ret ⟨by rw [show Int32.ofNat (6 * c) + (6 : Int32) = Int32.ofNat (6 * (c + 1)) from zi_add (6 * c) 6], ex, I2, J2, D2, rfl, h2, h3, h4⟩
set_option maxRecDepth 20000 in
theorem jq_7 (X : sf_X) {L c : Nat} {xs : Nat → Int32} (hL : L ≤ 3072) (hc : 6 * c + 6 ≤ L) : JP c (jl_7 L xs (Int32.ofNat (6 * c)) (some 0) (some 112)) := by
  intro t I J D hI
  unfold jl_7
  refine ss_scr (m := 6 * c + 1) (zi_add (6 * c) 1) (by omega) hL ?_
  refine ss_rc rfl ?_
  refine zp_wp_call (jq_call (CL_end _) ((ok_SF_end (some 0) _).1 X) hI) ?_
  rintro r1 τ ⟨ho, hq⟩
  refine ss_scr (m := 6 * c + 1) (zi_add (6 * c) 1) (by omega) hL ?_
  refine jq_rc ho ?_
  refine zp_wp_call hq ?_
  rintro r2 τ2 ⟨rfl, ex, I2, J2, D2, rfl, h2, h3, h4⟩
  refine ss_iT rfl ?_
  refine ss_bret ?_
  exact ss_ret ⟨by rw [show Int32.ofNat (6 * c) + (6 : Int32) = Int32.ofNat (6 * (c + 1)) from zi_add (6 * c) 6], ex, I2, J2, D2, rfl, h2, h3, h4⟩
set_option maxRecDepth 20000 in
theorem jq_8 (X : sf_X) {L c : Nat} {xs : Nat → Int32} (hL : L ≤ 3072) (hc : 6 * c + 6 ≤ L) : JP c (jl_8 L xs (Int32.ofNat (6 * c)) (some 0) (some 112)) := by
  intro t I J D hI
  unfold jl_8
  refine ss_rc rfl ?_
  refine zp_wp_call (jq_call CL_row ((ok_SF_row (some 0)).1 X) hI) ?_
  rintro r1 τ ⟨ho, hq⟩
  refine jq_rc ho ?_
  refine zp_wp_call hq ?_
  rintro r2 τ2 ⟨rfl, ex, I2, J2, D2, rfl, h2, h3, h4⟩
  refine ss_iT rfl ?_
  refine ss_bret ?_
  exact ss_ret ⟨by rw [show Int32.ofNat (6 * c) + (6 : Int32) = Int32.ofNat (6 * (c + 1)) from zi_add (6 * c) 6], ex, I2, J2, D2, rfl, h2, h3, h4⟩
set_option maxRecDepth 20000 in
theorem jq_9 (X : sf_X) {L c : Nat} {xs : Nat → Int32} (hL : L ≤ 3072) (hc : 6 * c + 6 ≤ L) : JP c (jl_9 L xs (Int32.ofNat (6 * c)) (some 0) (some 112)) := by
  intro t I J D hI
  unfold jl_9
  refine ss_rc rfl ?_
  refine zp_wp_call (jq_call CL_delays ((ok_SF_delays (some 0)).1 X) hI) ?_
  rintro r1 τ ⟨ho, hq⟩
  refine jq_rc ho ?_
  refine zp_wp_call hq ?_
  rintro r2 τ2 ⟨rfl, ex, I2, J2, D2, rfl, h2, h3, h4⟩
  refine ss_iT rfl ?_
  refine ss_bret ?_
  exact ss_ret ⟨by rw [show Int32.ofNat (6 * c) + (6 : Int32) = Int32.ofNat (6 * (c + 1)) from zi_add (6 * c) 6], ex, I2, J2, D2, rfl, h2, h3, h4⟩
set_option maxRecDepth 20000 in
theorem jq_10 (X : sf_X) {L c : Nat} {xs : Nat → Int32} (hL : L ≤ 3072) (hc : 6 * c + 6 ≤ L) : JP c (jl_10 L xs (Int32.ofNat (6 * c)) (some 0) (some 112)) := by
  intro t I J D hI
  unfold jl_10
  refine ss_rc rfl ?_
  refine zp_wp_call (jq_call CL_law ((ok_SF_law (some 0)).1 X) hI) ?_
  rintro r1 τ ⟨ho, hq⟩
  refine jq_rc ho ?_
  refine zp_wp_call hq ?_
  rintro r2 τ2 ⟨rfl, ex, I2, J2, D2, rfl, h2, h3, h4⟩
  refine ss_iT rfl ?_
  refine ss_bret ?_
  exact ss_ret ⟨by rw [show Int32.ofNat (6 * c) + (6 : Int32) = Int32.ofNat (6 * (c + 1)) from zi_add (6 * c) 6], ex, I2, J2, D2, rfl, h2, h3, h4⟩
set_option maxRecDepth 20000 in
theorem jq_11 (X : sf_X) {L c : Nat} {xs : Nat → Int32} (hL : L ≤ 3072) (hc : 6 * c + 6 ≤ L) : JP c (jl_11 L xs (Int32.ofNat (6 * c)) (some 0) (some 112)) := by
  intro t I J D hI
  unfold jl_11
  refine ss_rc rfl ?_
  refine zp_wp_call (jq_call CL_orders ((ok_SF_orders (some 0)).1 X) hI) ?_
  rintro r1 τ ⟨ho, hq⟩
  refine jq_rc ho ?_
  refine zp_wp_call hq ?_
  rintro r2 τ2 ⟨rfl, ex, I2, J2, D2, rfl, h2, h3, h4⟩
  refine ss_iT rfl ?_
  refine ss_bret ?_
  exact ss_ret ⟨by rw [show Int32.ofNat (6 * c) + (6 : Int32) = Int32.ofNat (6 * (c + 1)) from zi_add (6 * c) 6], ex, I2, J2, D2, rfl, h2, h3, h4⟩
set_option maxRecDepth 20000 in
theorem jq_12 (X : sf_X) {L c : Nat} {xs : Nat → Int32} (hL : L ≤ 3072) (hc : 6 * c + 6 ≤ L) : JP c (jl_12 L xs (Int32.ofNat (6 * c)) (some 0) (some 112)) := by
  intro t I J D hI
  unfold jl_12
  refine ss_rc rfl ?_
  refine zp_wp_call (jq_call CL_fault ((ok_SF_fault (some 0)).1 X) hI) ?_
  rintro r1 τ ⟨ho, hq⟩
  refine jq_rc ho ?_
  refine zp_wp_call hq ?_
  rintro r2 τ2 ⟨rfl, ex, I2, J2, D2, rfl, h2, h3, h4⟩
  refine ss_iT rfl ?_
  refine ss_bret ?_
  exact ss_ret ⟨by rw [show Int32.ofNat (6 * c) + (6 : Int32) = Int32.ofNat (6 * (c + 1)) from zi_add (6 * c) 6], ex, I2, J2, D2, rfl, h2, h3, h4⟩
set_option maxRecDepth 20000 in
theorem jq_13 (X : sf_X) {L c : Nat} {xs : Nat → Int32} (hL : L ≤ 3072) (hc : 6 * c + 6 ≤ L) : JP c (jl_13 L xs (Int32.ofNat (6 * c)) (some 0) (some 112)) := by
  intro t I J D hI
  unfold jl_13
  refine ss_rc rfl ?_
  refine zp_wp_call (jq_call CL_stopped ((ok_SF_stopped (some 0)).1 X) hI) ?_
  rintro r1 τ ⟨ho, hq⟩
  refine jq_rc ho ?_
  refine zp_wp_call hq ?_
  rintro r2 τ2 ⟨rfl, ex, I2, J2, D2, rfl, h2, h3, h4⟩
  refine ss_iT rfl ?_
  refine ss_bret ?_
  exact ss_ret ⟨by rw [show Int32.ofNat (6 * c) + (6 : Int32) = Int32.ofNat (6 * (c + 1)) from zi_add (6 * c) 6], ex, I2, J2, D2, rfl, h2, h3, h4⟩
set_option maxRecDepth 20000 in
theorem jq_14 (X : sf_X) {L c : Nat} {xs : Nat → Int32} (hL : L ≤ 3072) (hc : 6 * c + 6 ≤ L) : JP c (jl_14 L xs (Int32.ofNat (6 * c)) (some 0) (some 112)) := by
  intro t I J D hI
  unfold jl_14
  refine ss_scr (m := 6 * c + 1) (zi_add (6 * c) 1) (by omega) hL ?_
  refine ss_rc rfl ?_
  refine zp_wp_call (jq_call (CL_force _) ((ok_SF_force (some 0) _).1 X) hI) ?_
  rintro r1 τ ⟨ho, hq⟩
  refine ss_scr (m := 6 * c + 1) (zi_add (6 * c) 1) (by omega) hL ?_
  refine jq_rc ho ?_
  refine zp_wp_call hq ?_
  rintro r2 τ2 ⟨rfl, ex, I2, J2, D2, rfl, h2, h3, h4⟩
  refine ss_iT rfl ?_
  refine ss_bret ?_
  exact ss_ret ⟨by rw [show Int32.ofNat (6 * c) + (6 : Int32) = Int32.ofNat (6 * (c + 1)) from zi_add (6 * c) 6], ex, I2, J2, D2, rfl, h2, h3, h4⟩
set_option maxRecDepth 20000 in
theorem jq_15 (X : sf_X) {L c : Nat} {xs : Nat → Int32} (hL : L ≤ 3072) (hc : 6 * c + 6 ≤ L) : JP c (jl_15 L xs (Int32.ofNat (6 * c)) (some 0) (some 112)) := by
  intro t I J D hI
  unfold jl_15
  refine ss_scr (m := 6 * c + 1) (zi_add (6 * c) 1) (by omega) hL ?_
  refine ss_scr (m := 6 * c + 2) (zi_add (6 * c) 2) (by omega) hL ?_
  refine ss_scr (m := 6 * c + 3) (zi_add (6 * c) 3) (by omega) hL ?_
  refine ss_rc rfl ?_
  refine zp_wp_call (jq_call (CL_buy _ _ _) ((ok_SF_buy (some 0) _ _ _).1 X) hI) ?_
  rintro r1 τ ⟨ho, hq⟩
  refine ss_scr (m := 6 * c + 1) (zi_add (6 * c) 1) (by omega) hL ?_
  refine ss_scr (m := 6 * c + 2) (zi_add (6 * c) 2) (by omega) hL ?_
  refine ss_scr (m := 6 * c + 3) (zi_add (6 * c) 3) (by omega) hL ?_
  refine jq_rc ho ?_
  refine zp_wp_call hq ?_
  rintro r2 τ2 ⟨rfl, ex, I2, J2, D2, rfl, h2, h3, h4⟩
  refine ss_iT rfl ?_
  refine ss_bret ?_
  exact ss_ret ⟨by rw [show Int32.ofNat (6 * c) + (6 : Int32) = Int32.ofNat (6 * (c + 1)) from zi_add (6 * c) 6], ex, I2, J2, D2, rfl, h2, h3, h4⟩
set_option maxRecDepth 20000 in
theorem jq_16 (X : sf_X) {L c : Nat} {xs : Nat → Int32} (hL : L ≤ 3072) (hc : 6 * c + 6 ≤ L) : JP c (jl_16 L xs (Int32.ofNat (6 * c)) (some 0) (some 112)) := by
  intro t I J D hI
  unfold jl_16
  refine ss_scr (m := 6 * c + 1) (zi_add (6 * c) 1) (by omega) hL ?_
  refine ss_scr (m := 6 * c + 2) (zi_add (6 * c) 2) (by omega) hL ?_
  refine ss_rc rfl ?_
  refine zp_wp_call (jq_call (CL_ride _ _) ((ok_SF_ride (some 0) _ _).1 X) hI) ?_
  rintro r1 τ ⟨ho, hq⟩
  refine ss_scr (m := 6 * c + 1) (zi_add (6 * c) 1) (by omega) hL ?_
  refine ss_scr (m := 6 * c + 2) (zi_add (6 * c) 2) (by omega) hL ?_
  refine jq_rc ho ?_
  refine zp_wp_call hq ?_
  rintro r2 τ2 ⟨rfl, ex, I2, J2, D2, rfl, h2, h3, h4⟩
  refine ss_iT rfl ?_
  refine ss_bret ?_
  exact ss_ret ⟨by rw [show Int32.ofNat (6 * c) + (6 : Int32) = Int32.ofNat (6 * (c + 1)) from zi_add (6 * c) 6], ex, I2, J2, D2, rfl, h2, h3, h4⟩
set_option maxRecDepth 20000 in
theorem jq_17 (X : sf_X) {L c : Nat} {xs : Nat → Int32} (hL : L ≤ 3072) (hc : 6 * c + 6 ≤ L) : JP c (jl_17 L xs (Int32.ofNat (6 * c)) (some 0) (some 112)) := by
  intro t I J D hI
  unfold jl_17
  refine ss_scr (m := 6 * c + 1) (zi_add (6 * c) 1) (by omega) hL ?_
  refine ss_rc rfl ?_
  refine zp_wp_call (jq_call (CL_save _) ((ok_SF_save (some 0) _).1 X) hI) ?_
  rintro r1 τ ⟨ho, hq⟩
  refine ss_scr (m := 6 * c + 1) (zi_add (6 * c) 1) (by omega) hL ?_
  refine jq_rc ho ?_
  refine zp_wp_call hq ?_
  rintro r2 τ2 ⟨rfl, ex, I2, J2, D2, rfl, h2, h3, h4⟩
  refine ss_iT rfl ?_
  refine ss_bret ?_
  exact ss_ret ⟨by rw [show Int32.ofNat (6 * c) + (6 : Int32) = Int32.ofNat (6 * (c + 1)) from zi_add (6 * c) 6], ex, I2, J2, D2, rfl, h2, h3, h4⟩
set_option maxRecDepth 20000 in
theorem jq_18 (X : sf_X) {L c : Nat} {xs : Nat → Int32} (hL : L ≤ 3072) (hc : 6 * c + 6 ≤ L) : JP c (jl_18 L xs (Int32.ofNat (6 * c)) (some 0) (some 112)) := by
  intro t I J D hI
  unfold jl_18
  refine ss_rc rfl ?_
  refine zp_wp_call (jq_call CL_pass ((ok_SF_pass (some 0)).1 X) hI) ?_
  rintro r1 τ ⟨ho, hq⟩
  refine jq_rc ho ?_
  refine zp_wp_call hq ?_
  rintro r2 τ2 ⟨rfl, ex, I2, J2, D2, rfl, h2, h3, h4⟩
  refine ss_iT rfl ?_
  refine ss_bret ?_
  exact ss_ret ⟨by rw [show Int32.ofNat (6 * c) + (6 : Int32) = Int32.ofNat (6 * (c + 1)) from zi_add (6 * c) 6], ex, I2, J2, D2, rfl, h2, h3, h4⟩
set_option maxRecDepth 20000 in
theorem jq_19 (X : sf_X) {L c : Nat} {xs : Nat → Int32} (hL : L ≤ 3072) (hc : 6 * c + 6 ≤ L) : JP c (jl_19 L xs (Int32.ofNat (6 * c)) (some 0) (some 112)) := by
  intro t I J D hI
  unfold jl_19
  refine ss_rc rfl ?_
  refine zp_wp_call (jq_call CL_undo ((ok_SF_undo (some 0)).1 X) hI) ?_
  rintro r1 τ ⟨ho, hq⟩
  refine jq_rc ho ?_
  refine zp_wp_call hq ?_
  rintro r2 τ2 ⟨rfl, ex, I2, J2, D2, rfl, h2, h3, h4⟩
  refine ss_iT rfl ?_
  refine ss_bret ?_
  exact ss_ret ⟨by rw [show Int32.ofNat (6 * c) + (6 : Int32) = Int32.ofNat (6 * (c + 1)) from zi_add (6 * c) 6], ex, I2, J2, D2, rfl, h2, h3, h4⟩
set_option maxRecDepth 20000 in
theorem jq_20 (X : sf_X) {L c : Nat} {xs : Nat → Int32} (hL : L ≤ 3072) (hc : 6 * c + 6 ≤ L) : JP c (jl_20 L xs (Int32.ofNat (6 * c)) (some 0) (some 112)) := by
  intro t I J D hI
  unfold jl_20
  refine ss_scr (m := 6 * c + 1) (zi_add (6 * c) 1) (by omega) hL ?_
  refine ss_scr (m := 6 * c + 2) (zi_add (6 * c) 2) (by omega) hL ?_
  refine ss_scr (m := 6 * c + 3) (zi_add (6 * c) 3) (by omega) hL ?_
  refine ss_scr (m := 6 * c + 4) (zi_add (6 * c) 4) (by omega) hL ?_
  refine ss_rc rfl ?_
  refine zp_wp_call (jq_call (CL_cheapest _ _ _ _) ((ok_SF_cheapest (some 0) _ _ _ _).1 X) hI) ?_
  rintro r1 τ ⟨ho, hq⟩
  refine ss_scr (m := 6 * c + 1) (zi_add (6 * c) 1) (by omega) hL ?_
  refine ss_scr (m := 6 * c + 2) (zi_add (6 * c) 2) (by omega) hL ?_
  refine ss_scr (m := 6 * c + 3) (zi_add (6 * c) 3) (by omega) hL ?_
  refine ss_scr (m := 6 * c + 4) (zi_add (6 * c) 4) (by omega) hL ?_
  refine jq_rc ho ?_
  refine zp_wp_call hq ?_
  rintro r2 τ2 ⟨rfl, ex, I2, J2, D2, rfl, h2, h3, h4⟩
  refine ss_iT rfl ?_
  refine ss_bret ?_
  exact ss_ret ⟨by rw [show Int32.ofNat (6 * c) + (6 : Int32) = Int32.ofNat (6 * (c + 1)) from zi_add (6 * c) 6], ex, I2, J2, D2, rfl, h2, h3, h4⟩
set_option maxRecDepth 20000 in
theorem jq_21 (X : sf_X) {L c : Nat} {xs : Nat → Int32} (hL : L ≤ 3072) (hc : 6 * c + 6 ≤ L) : JP c (jl_21 L xs (Int32.ofNat (6 * c)) (some 0) (some 112)) := by
  intro t I J D hI
  unfold jl_21
  refine ss_scr (m := 6 * c + 1) (zi_add (6 * c) 1) (by omega) hL ?_
  refine ss_scr (m := 6 * c + 2) (zi_add (6 * c) 2) (by omega) hL ?_
  refine ss_scr (m := 6 * c + 3) (zi_add (6 * c) 3) (by omega) hL ?_
  refine ss_scr (m := 6 * c + 4) (zi_add (6 * c) 4) (by omega) hL ?_
  refine ss_rc rfl ?_
  refine zp_wp_call (jq_call (CL_byAtMost _ _ _ _) ((ok_SF_byAtMost (some 0) _ _ _ _).1 X) hI) ?_
  rintro r1 τ ⟨ho, hq⟩
  refine ss_scr (m := 6 * c + 1) (zi_add (6 * c) 1) (by omega) hL ?_
  refine ss_scr (m := 6 * c + 2) (zi_add (6 * c) 2) (by omega) hL ?_
  refine ss_scr (m := 6 * c + 3) (zi_add (6 * c) 3) (by omega) hL ?_
  refine ss_scr (m := 6 * c + 4) (zi_add (6 * c) 4) (by omega) hL ?_
  refine jq_rc ho ?_
  refine zp_wp_call hq ?_
  rintro r2 τ2 ⟨rfl, ex, I2, J2, D2, rfl, h2, h3, h4⟩
  refine ss_iT rfl ?_
  refine ss_bret ?_
  exact ss_ret ⟨by rw [show Int32.ofNat (6 * c) + (6 : Int32) = Int32.ofNat (6 * (c + 1)) from zi_add (6 * c) 6], ex, I2, J2, D2, rfl, h2, h3, h4⟩
set_option maxRecDepth 20000 in
theorem jq_22 (X : sf_X) {L c : Nat} {xs : Nat → Int32} (hL : L ≤ 3072) (hc : 6 * c + 6 ≤ L) : JP c (jl_22 L xs (Int32.ofNat (6 * c)) (some 0) (some 112)) := by
  intro t I J D hI
  unfold jl_22
  refine ss_scr (m := 6 * c + 1) (zi_add (6 * c) 1) (by omega) hL ?_
  refine ss_scr (m := 6 * c + 2) (zi_add (6 * c) 2) (by omega) hL ?_
  refine ss_scr (m := 6 * c + 3) (zi_add (6 * c) 3) (by omega) hL ?_
  refine ss_rc rfl ?_
  refine zp_wp_call (jq_call (CL_fewest _ _ _) ((ok_SF_fewest (some 0) _ _ _).1 X) hI) ?_
  rintro r1 τ ⟨ho, hq⟩
  refine ss_scr (m := 6 * c + 1) (zi_add (6 * c) 1) (by omega) hL ?_
  refine ss_scr (m := 6 * c + 2) (zi_add (6 * c) 2) (by omega) hL ?_
  refine ss_scr (m := 6 * c + 3) (zi_add (6 * c) 3) (by omega) hL ?_
  refine jq_rc ho ?_
  refine zp_wp_call hq ?_
  rintro r2 τ2 ⟨rfl, ex, I2, J2, D2, rfl, h2, h3, h4⟩
  refine ss_iT rfl ?_
  refine ss_bret ?_
  exact ss_ret ⟨by rw [show Int32.ofNat (6 * c) + (6 : Int32) = Int32.ofNat (6 * (c + 1)) from zi_add (6 * c) 6], ex, I2, J2, D2, rfl, h2, h3, h4⟩
set_option maxRecDepth 20000 in
theorem jq_23 (X : sf_X) {L c : Nat} {xs : Nat → Int32} (hL : L ≤ 3072) (hc : 6 * c + 6 ≤ L) : JP c (jl_23 L xs (Int32.ofNat (6 * c)) (some 0) (some 112)) := by
  intro t I J D hI
  unfold jl_23
  refine ss_scr (m := 6 * c + 1) (zi_add (6 * c) 1) (by omega) hL ?_
  refine ss_scr (m := 6 * c + 2) (zi_add (6 * c) 2) (by omega) hL ?_
  refine ss_scr (m := 6 * c + 3) (zi_add (6 * c) 3) (by omega) hL ?_
  refine ss_rc rfl ?_
  refine zp_wp_call (jq_call (CL_ways _ _ _) ((ok_SF_ways (some 0) _ _ _).1 X) hI) ?_
  rintro r1 τ ⟨ho, hq⟩
  refine ss_scr (m := 6 * c + 1) (zi_add (6 * c) 1) (by omega) hL ?_
  refine ss_scr (m := 6 * c + 2) (zi_add (6 * c) 2) (by omega) hL ?_
  refine ss_scr (m := 6 * c + 3) (zi_add (6 * c) 3) (by omega) hL ?_
  refine jq_rc ho ?_
  refine zp_wp_call hq ?_
  rintro r2 τ2 ⟨rfl, ex, I2, J2, D2, rfl, h2, h3, h4⟩
  refine ss_iT rfl ?_
  refine ss_bret ?_
  exact ss_ret ⟨by rw [show Int32.ofNat (6 * c) + (6 : Int32) = Int32.ofNat (6 * (c + 1)) from zi_add (6 * c) 6], ex, I2, J2, D2, rfl, h2, h3, h4⟩
set_option maxRecDepth 20000 in
theorem jq_24 (X : sf_X) {L c : Nat} {xs : Nat → Int32} (hL : L ≤ 3072) (hc : 6 * c + 6 ≤ L) : JP c (jl_24 L xs (Int32.ofNat (6 * c)) (some 0) (some 112)) := by
  intro t I J D hI
  unfold jl_24
  refine ss_scr (m := 6 * c + 1) (zi_add (6 * c) 1) (by omega) hL ?_
  refine ss_scr (m := 6 * c + 2) (zi_add (6 * c) 2) (by omega) hL ?_
  refine ss_scr (m := 6 * c + 3) (zi_add (6 * c) 3) (by omega) hL ?_
  refine ss_scr (m := 6 * c + 4) (zi_add (6 * c) 4) (by omega) hL ?_
  refine ss_rc rfl ?_
  refine zp_wp_call (jq_call (CL_tab _ _ _ _) ((ok_SF_thereAndBack (some 0) _ _ _ _).1 X) hI) ?_
  rintro r1 τ ⟨ho, hq⟩
  refine ss_scr (m := 6 * c + 1) (zi_add (6 * c) 1) (by omega) hL ?_
  refine ss_scr (m := 6 * c + 2) (zi_add (6 * c) 2) (by omega) hL ?_
  refine ss_scr (m := 6 * c + 3) (zi_add (6 * c) 3) (by omega) hL ?_
  refine ss_scr (m := 6 * c + 4) (zi_add (6 * c) 4) (by omega) hL ?_
  refine jq_rc ho ?_
  refine zp_wp_call hq ?_
  rintro r2 τ2 ⟨rfl, ex, I2, J2, D2, rfl, h2, h3, h4⟩
  refine ss_iT rfl ?_
  refine ss_bret ?_
  exact ss_ret ⟨by rw [show Int32.ofNat (6 * c) + (6 : Int32) = Int32.ofNat (6 * (c + 1)) from zi_add (6 * c) 6], ex, I2, J2, D2, rfl, h2, h3, h4⟩
set_option maxRecDepth 20000 in
theorem jq_25 (X : sf_X) {L c : Nat} {xs : Nat → Int32} (hL : L ≤ 3072) (hc : 6 * c + 6 ≤ L) : JP c (jl_25 L xs (Int32.ofNat (6 * c)) (some 0) (some 112)) := by
  intro t I J D hI
  unfold jl_25
  refine ss_scr (m := 6 * c + 1) (zi_add (6 * c) 1) (by omega) hL ?_
  refine ss_scr (m := 6 * c + 2) (zi_add (6 * c) 2) (by omega) hL ?_
  refine ss_scr (m := 6 * c + 3) (zi_add (6 * c) 3) (by omega) hL ?_
  refine ss_rc rfl ?_
  refine zp_wp_call (jq_call (CL_saved _ _ _) ((ok_SF_saved (some 0) _ _ _).1 X) hI) ?_
  rintro r1 τ ⟨ho, hq⟩
  refine ss_scr (m := 6 * c + 1) (zi_add (6 * c) 1) (by omega) hL ?_
  refine ss_scr (m := 6 * c + 2) (zi_add (6 * c) 2) (by omega) hL ?_
  refine ss_scr (m := 6 * c + 3) (zi_add (6 * c) 3) (by omega) hL ?_
  refine jq_rc ho ?_
  refine zp_wp_call hq ?_
  rintro r2 τ2 ⟨rfl, ex, I2, J2, D2, rfl, h2, h3, h4⟩
  refine ss_iT rfl ?_
  refine ss_bret ?_
  exact ss_ret ⟨by rw [show Int32.ofNat (6 * c) + (6 : Int32) = Int32.ofNat (6 * (c + 1)) from zi_add (6 * c) 6], ex, I2, J2, D2, rfl, h2, h3, h4⟩
set_option maxRecDepth 20000 in
theorem jq_26 (X : sf_X) {L c : Nat} {xs : Nat → Int32} (hL : L ≤ 3072) (hc : 6 * c + 6 ≤ L) : JP c (jl_26 L xs (Int32.ofNat (6 * c)) (some 0) (some 112)) := by
  intro t I J D hI
  unfold jl_26
  refine ss_scr (m := 6 * c + 1) (zi_add (6 * c) 1) (by omega) hL ?_
  refine ss_scr (m := 6 * c + 2) (zi_add (6 * c) 2) (by omega) hL ?_
  refine ss_rc rfl ?_
  refine zp_wp_call (jq_call (CL_bestTrain _ _) ((ok_SF_bestTrain (some 0) _ _).1 X) hI) ?_
  rintro r1 τ ⟨ho, hq⟩
  refine ss_scr (m := 6 * c + 1) (zi_add (6 * c) 1) (by omega) hL ?_
  refine ss_scr (m := 6 * c + 2) (zi_add (6 * c) 2) (by omega) hL ?_
  refine jq_rc ho ?_
  refine zp_wp_call hq ?_
  rintro r2 τ2 ⟨rfl, ex, I2, J2, D2, rfl, h2, h3, h4⟩
  refine ss_iT rfl ?_
  refine ss_bret ?_
  exact ss_ret ⟨by rw [show Int32.ofNat (6 * c) + (6 : Int32) = Int32.ofNat (6 * (c + 1)) from zi_add (6 * c) 6], ex, I2, J2, D2, rfl, h2, h3, h4⟩
set_option maxRecDepth 20000 in
theorem jq_27 (X : sf_X) {L c : Nat} {xs : Nat → Int32} (hL : L ≤ 3072) (hc : 6 * c + 6 ≤ L) : JP c (jl_27 L xs (Int32.ofNat (6 * c)) (some 0) (some 112)) := by
  intro t I J D hI
  unfold jl_27
  refine ss_scr (m := 6 * c + 1) (zi_add (6 * c) 1) (by omega) hL ?_
  refine ss_scr (m := 6 * c + 2) (zi_add (6 * c) 2) (by omega) hL ?_
  refine ss_rc rfl ?_
  refine zp_wp_call (jq_call (CL_mostSaved _ _) ((ok_SF_mostSaved (some 0) _ _).1 X) hI) ?_
  rintro r1 τ ⟨ho, hq⟩
  refine ss_scr (m := 6 * c + 1) (zi_add (6 * c) 1) (by omega) hL ?_
  refine ss_scr (m := 6 * c + 2) (zi_add (6 * c) 2) (by omega) hL ?_
  refine jq_rc ho ?_
  refine zp_wp_call hq ?_
  rintro r2 τ2 ⟨rfl, ex, I2, J2, D2, rfl, h2, h3, h4⟩
  refine ss_iT rfl ?_
  refine ss_bret ?_
  exact ss_ret ⟨by rw [show Int32.ofNat (6 * c) + (6 : Int32) = Int32.ofNat (6 * (c + 1)) from zi_add (6 * c) 6], ex, I2, J2, D2, rfl, h2, h3, h4⟩
set_option maxRecDepth 20000 in
theorem jq_28 (X : sf_X) {L c : Nat} {xs : Nat → Int32} (hL : L ≤ 3072) (hc : 6 * c + 6 ≤ L) : JP c (jl_28 L xs (Int32.ofNat (6 * c)) (some 0) (some 112)) := by
  intro t I J D hI
  unfold jl_28
  refine ss_rc rfl ?_
  refine zp_wp_call (jq_call CL_purseEnd ((ok_SF_purseEnd (some 0)).1 X) hI) ?_
  rintro r1 τ ⟨ho, hq⟩
  refine jq_rc ho ?_
  refine zp_wp_call hq ?_
  rintro r2 τ2 ⟨rfl, ex, I2, J2, D2, rfl, h2, h3, h4⟩
  refine ss_iT rfl ?_
  refine ss_bret ?_
  exact ss_ret ⟨by rw [show Int32.ofNat (6 * c) + (6 : Int32) = Int32.ofNat (6 * (c + 1)) from zi_add (6 * c) 6], ex, I2, J2, D2, rfl, h2, h3, h4⟩
set_option maxRecDepth 20000 in
theorem jq_29 (X : sf_X) {L c : Nat} {xs : Nat → Int32} (hL : L ≤ 3072) (hc : 6 * c + 6 ≤ L) : JP c (jl_29 L xs (Int32.ofNat (6 * c)) (some 0) (some 112)) := by
  intro t I J D hI
  unfold jl_29
  refine ss_scr (m := 6 * c + 1) (zi_add (6 * c) 1) (by omega) hL ?_
  refine ss_scr (m := 6 * c + 2) (zi_add (6 * c) 2) (by omega) hL ?_
  refine ss_scr (m := 6 * c + 3) (zi_add (6 * c) 3) (by omega) hL ?_
  refine ss_rc rfl ?_
  refine zp_wp_call (jq_call (CL_used _ _ _) ((ok_SF_used (some 0) _ _ _).1 X) hI) ?_
  rintro r1 τ ⟨ho, hq⟩
  refine ss_scr (m := 6 * c + 1) (zi_add (6 * c) 1) (by omega) hL ?_
  refine ss_scr (m := 6 * c + 2) (zi_add (6 * c) 2) (by omega) hL ?_
  refine ss_scr (m := 6 * c + 3) (zi_add (6 * c) 3) (by omega) hL ?_
  refine jq_rc ho ?_
  refine zp_wp_call hq ?_
  rintro r2 τ2 ⟨rfl, ex, I2, J2, D2, rfl, h2, h3, h4⟩
  refine ss_iT rfl ?_
  refine ss_bret ?_
  exact ss_ret ⟨by rw [show Int32.ofNat (6 * c) + (6 : Int32) = Int32.ofNat (6 * (c + 1)) from zi_add (6 * c) 6], ex, I2, J2, D2, rfl, h2, h3, h4⟩
set_option maxRecDepth 20000 in
theorem jq_30 (X : sf_X) {L c : Nat} {xs : Nat → Int32} (hL : L ≤ 3072) (hc : 6 * c + 6 ≤ L) : JP c (jl_30 L xs (Int32.ofNat (6 * c)) (some 0) (some 112)) := by
  intro t I J D hI
  unfold jl_30
  refine ss_scr (m := 6 * c + 1) (zi_add (6 * c) 1) (by omega) hL ?_
  refine ss_scr (m := 6 * c + 2) (zi_add (6 * c) 2) (by omega) hL ?_
  refine ss_rc rfl ?_
  refine zp_wp_call (jq_call (CL_told _ _) ((ok_SF_told (some 0) _ _).1 X) hI) ?_
  rintro r1 τ ⟨ho, hq⟩
  refine ss_scr (m := 6 * c + 1) (zi_add (6 * c) 1) (by omega) hL ?_
  refine ss_scr (m := 6 * c + 2) (zi_add (6 * c) 2) (by omega) hL ?_
  refine jq_rc ho ?_
  refine zp_wp_call hq ?_
  rintro r2 τ2 ⟨rfl, ex, I2, J2, D2, rfl, h2, h3, h4⟩
  refine ss_iT rfl ?_
  refine ss_bret ?_
  exact ss_ret ⟨by rw [show Int32.ofNat (6 * c) + (6 : Int32) = Int32.ofNat (6 * (c + 1)) from zi_add (6 * c) 6], ex, I2, J2, D2, rfl, h2, h3, h4⟩
set_option maxRecDepth 20000 in
theorem jq_31 (X : sf_X) {L c : Nat} {xs : Nat → Int32} (hL : L ≤ 3072) (hc : 6 * c + 6 ≤ L) : JP c (jl_31 L xs (Int32.ofNat (6 * c)) (some 0) (some 112)) := by
  intro t I J D hI
  unfold jl_31
  refine ss_rc rfl ?_
  refine zp_wp_call (jq_call CL_forget ((ok_SF_forget (some 0)).1 X) hI) ?_
  rintro r1 τ ⟨ho, hq⟩
  refine jq_rc ho ?_
  refine zp_wp_call hq ?_
  rintro r2 τ2 ⟨rfl, ex, I2, J2, D2, rfl, h2, h3, h4⟩
  refine ss_iT rfl ?_
  refine ss_bret ?_
  exact ss_ret ⟨by rw [show Int32.ofNat (6 * c) + (6 : Int32) = Int32.ofNat (6 * (c + 1)) from zi_add (6 * c) 6], ex, I2, J2, D2, rfl, h2, h3, h4⟩
set_option maxRecDepth 20000 in
theorem jq_32 (X : sf_X) {L c : Nat} {xs : Nat → Int32} (hL : L ≤ 3072) (hc : 6 * c + 6 ≤ L) : JP c (jl_32 L xs (Int32.ofNat (6 * c)) (some 0) (some 112)) := by
  intro t I J D hI
  unfold jl_32
  refine ss_rc rfl ?_
  refine zp_wp_call (jq_call CL_canBe ((ok_SF_canBe (some 0)).1 X) hI) ?_
  rintro r1 τ ⟨ho, hq⟩
  refine jq_rc ho ?_
  refine zp_wp_call hq ?_
  rintro r2 τ2 ⟨rfl, ex, I2, J2, D2, rfl, h2, h3, h4⟩
  refine ss_iT rfl ?_
  refine ss_bret ?_
  exact ss_ret ⟨by rw [show Int32.ofNat (6 * c) + (6 : Int32) = Int32.ofNat (6 * (c + 1)) from zi_add (6 * c) 6], ex, I2, J2, D2, rfl, h2, h3, h4⟩
set_option maxRecDepth 20000 in
theorem jq_33 (X : sf_X) {L c : Nat} {xs : Nat → Int32} (hL : L ≤ 3072) (hc : 6 * c + 6 ≤ L) : JP c (jl_33 L xs (Int32.ofNat (6 * c)) (some 0) (some 112)) := by
  intro t I J D hI
  unfold jl_33
  refine ss_scr (m := 6 * c + 1) (zi_add (6 * c) 1) (by omega) hL ?_
  refine ss_rc rfl ?_
  refine zp_wp_call (jq_call (CL_ask _) ((ok_SF_ask (some 0) _).1 X) hI) ?_
  rintro r1 τ ⟨ho, hq⟩
  refine ss_scr (m := 6 * c + 1) (zi_add (6 * c) 1) (by omega) hL ?_
  refine jq_rc ho ?_
  refine zp_wp_call hq ?_
  rintro r2 τ2 ⟨rfl, ex, I2, J2, D2, rfl, h2, h3, h4⟩
  refine ss_iT rfl ?_
  refine ss_bret ?_
  exact ss_ret ⟨by rw [show Int32.ofNat (6 * c) + (6 : Int32) = Int32.ofNat (6 * (c + 1)) from zi_add (6 * c) 6], ex, I2, J2, D2, rfl, h2, h3, h4⟩
set_option maxRecDepth 20000 in
theorem jq_34 (X : sf_X) {L c : Nat} {xs : Nat → Int32} (hL : L ≤ 3072) (hc : 6 * c + 6 ≤ L) : JP c (jl_34 L xs (Int32.ofNat (6 * c)) (some 0) (some 112)) := by
  intro t I J D hI
  unfold jl_34
  refine ss_scr (m := 6 * c + 1) (zi_add (6 * c) 1) (by omega) hL ?_
  refine ss_scr (m := 6 * c + 2) (zi_add (6 * c) 2) (by omega) hL ?_
  refine ss_rc rfl ?_
  refine zp_wp_call (jq_call (CL_few _ _) ((ok_SF_few (some 0) _ _).1 X) hI) ?_
  rintro r1 τ ⟨ho, hq⟩
  refine ss_scr (m := 6 * c + 1) (zi_add (6 * c) 1) (by omega) hL ?_
  refine ss_scr (m := 6 * c + 2) (zi_add (6 * c) 2) (by omega) hL ?_
  refine jq_rc ho ?_
  refine zp_wp_call hq ?_
  rintro r2 τ2 ⟨rfl, ex, I2, J2, D2, rfl, h2, h3, h4⟩
  refine ss_iT (by rw [lg_c4]) ?_
  refine ss_bret ?_
  exact ss_ret ⟨by rw [show Int32.ofNat (6 * c) + (6 : Int32) = Int32.ofNat (6 * (c + 1)) from zi_add (6 * c) 6], ex, I2, J2, D2, rfl, h2, h3, h4⟩
set_option maxRecDepth 20000 in
theorem jq_35 (X : sf_X) {L c : Nat} {xs : Nat → Int32} (hL : L ≤ 3072) (hc : 6 * c + 6 ≤ L) : JP c (jl_35 L xs (Int32.ofNat (6 * c)) (some 0) (some 112)) := by
  intro t I J D hI
  unfold jl_35
  refine ss_scr (m := 6 * c + 1) (zi_add (6 * c) 1) (by omega) hL ?_
  refine ss_scr (m := 6 * c + 2) (zi_add (6 * c) 2) (by omega) hL ?_
  refine ss_scr (m := 6 * c + 3) (zi_add (6 * c) 3) (by omega) hL ?_
  refine ss_rc rfl ?_
  refine zp_wp_call (jq_call (CL_compare _ _ _) ((ok_SF_compare (some 0) _ _ _).1 X) hI) ?_
  rintro r1 τ ⟨ho, hq⟩
  refine ss_scr (m := 6 * c + 1) (zi_add (6 * c) 1) (by omega) hL ?_
  refine ss_scr (m := 6 * c + 2) (zi_add (6 * c) 2) (by omega) hL ?_
  refine ss_scr (m := 6 * c + 3) (zi_add (6 * c) 3) (by omega) hL ?_
  refine jq_rc ho ?_
  refine zp_wp_call hq ?_
  rintro r2 τ2 ⟨rfl, ex, I2, J2, D2, rfl, h2, h3, h4⟩
  refine ss_iT rfl ?_
  refine ss_bret ?_
  exact ss_ret ⟨by rw [show Int32.ofNat (6 * c) + (6 : Int32) = Int32.ofNat (6 * (c + 1)) from zi_add (6 * c) 6], ex, I2, J2, D2, rfl, h2, h3, h4⟩
set_option maxRecDepth 20000 in
theorem jq_36 (X : sf_X) {L c : Nat} {xs : Nat → Int32} (hL : L ≤ 3072) (hc : 6 * c + 6 ≤ L) : JP c (jl_36 L xs (Int32.ofNat (6 * c)) (some 0) (some 112)) := by
  intro t I J D hI
  unfold jl_36
  refine ss_scr (m := 6 * c + 1) (zi_add (6 * c) 1) (by omega) hL ?_
  refine ss_scr (m := 6 * c + 2) (zi_add (6 * c) 2) (by omega) hL ?_
  refine ss_rc rfl ?_
  refine zp_wp_call (jq_call (CL_months _ _) ((ok_SF_months (some 0) _ _).1 X) hI) ?_
  rintro r1 τ ⟨ho, hq⟩
  refine ss_scr (m := 6 * c + 1) (zi_add (6 * c) 1) (by omega) hL ?_
  refine ss_scr (m := 6 * c + 2) (zi_add (6 * c) 2) (by omega) hL ?_
  refine jq_rc ho ?_
  refine zp_wp_call hq ?_
  rintro r2 τ2 ⟨rfl, ex, I2, J2, D2, rfl, h2, h3, h4⟩
  refine ss_iT rfl ?_
  refine ss_bret ?_
  exact ss_ret ⟨by rw [show Int32.ofNat (6 * c) + (6 : Int32) = Int32.ofNat (6 * (c + 1)) from zi_add (6 * c) 6], ex, I2, J2, D2, rfl, h2, h3, h4⟩
set_option maxRecDepth 20000 in
theorem jq_37 (X : sf_X) {L c : Nat} {xs : Nat → Int32} (hL : L ≤ 3072) (hc : 6 * c + 6 ≤ L) : JP c (jl_37 L xs (Int32.ofNat (6 * c)) (some 0) (some 112)) := by
  intro t I J D hI
  unfold jl_37
  refine ss_scr (m := 6 * c + 1) (zi_add (6 * c) 1) (by omega) hL ?_
  refine ss_rc rfl ?_
  refine zp_wp_call (jq_call (CL_drawn _) ((ok_SF_drawn (some 0) _).1 X) hI) ?_
  rintro r1 τ ⟨ho, hq⟩
  refine ss_scr (m := 6 * c + 1) (zi_add (6 * c) 1) (by omega) hL ?_
  refine jq_rc ho ?_
  refine zp_wp_call hq ?_
  rintro r2 τ2 ⟨rfl, ex, I2, J2, D2, rfl, h2, h3, h4⟩
  refine ss_iT rfl ?_
  refine ss_bret ?_
  exact ss_ret ⟨by rw [show Int32.ofNat (6 * c) + (6 : Int32) = Int32.ofNat (6 * (c + 1)) from zi_add (6 * c) 6], ex, I2, J2, D2, rfl, h2, h3, h4⟩
set_option maxRecDepth 20000 in
theorem jq_38 (X : sf_X) {L c : Nat} {xs : Nat → Int32} (hL : L ≤ 3072) (hc : 6 * c + 6 ≤ L) : JP c (jl_38 L xs (Int32.ofNat (6 * c)) (some 0) (some 112)) := by
  intro t I J D hI
  unfold jl_38
  refine ss_scr (m := 6 * c + 1) (zi_add (6 * c) 1) (by omega) hL ?_
  refine ss_rc rfl ?_
  refine zp_wp_call (jq_call (CL_image _) ((ok_SF_image (some 0) _).1 X) hI) ?_
  rintro r1 τ ⟨ho, hq⟩
  refine ss_scr (m := 6 * c + 1) (zi_add (6 * c) 1) (by omega) hL ?_
  refine jq_rc ho ?_
  refine zp_wp_call hq ?_
  rintro r2 τ2 ⟨rfl, ex, I2, J2, D2, rfl, h2, h3, h4⟩
  refine ss_iT rfl ?_
  refine ss_bret ?_
  exact ss_ret ⟨by rw [show Int32.ofNat (6 * c) + (6 : Int32) = Int32.ofNat (6 * (c + 1)) from zi_add (6 * c) 6], ex, I2, J2, D2, rfl, h2, h3, h4⟩
set_option maxRecDepth 20000 in
theorem jq_39 (X : sf_X) {L c : Nat} {xs : Nat → Int32} (hL : L ≤ 3072) (hc : 6 * c + 6 ≤ L) : JP c (jl_39 L xs (Int32.ofNat (6 * c)) (some 0) (some 112)) := by
  intro t I J D hI
  unfold jl_39
  refine ss_scr (m := 6 * c + 1) (zi_add (6 * c) 1) (by omega) hL ?_
  refine ss_rc rfl ?_
  refine zp_wp_call (jq_call (CL_back _) ((ok_SF_back (some 0) _).1 X) hI) ?_
  rintro r1 τ ⟨ho, hq⟩
  refine ss_scr (m := 6 * c + 1) (zi_add (6 * c) 1) (by omega) hL ?_
  refine jq_rc ho ?_
  refine zp_wp_call hq ?_
  rintro r2 τ2 ⟨rfl, ex, I2, J2, D2, rfl, h2, h3, h4⟩
  refine ss_iT rfl ?_
  refine ss_bret ?_
  exact ss_ret ⟨by rw [show Int32.ofNat (6 * c) + (6 : Int32) = Int32.ofNat (6 * (c + 1)) from zi_add (6 * c) 6], ex, I2, J2, D2, rfl, h2, h3, h4⟩
set_option maxRecDepth 20000 in
theorem jq_40 (X : sf_X) {L c : Nat} {xs : Nat → Int32} (hL : L ≤ 3072) (hc : 6 * c + 6 ≤ L) : JP c (jl_40 L xs (Int32.ofNat (6 * c)) (some 0) (some 112)) := by
  intro t I J D hI
  unfold jl_40
  refine ss_scr (m := 6 * c + 1) (zi_add (6 * c) 1) (by omega) hL ?_
  refine ss_rc rfl ?_
  refine zp_wp_call (jq_call (CL_count _) ((ok_SF_count (some 0) _).1 X) hI) ?_
  rintro r1 τ ⟨ho, hq⟩
  refine ss_scr (m := 6 * c + 1) (zi_add (6 * c) 1) (by omega) hL ?_
  refine jq_rc ho ?_
  refine zp_wp_call hq ?_
  rintro r2 τ2 ⟨rfl, ex, I2, J2, D2, rfl, h2, h3, h4⟩
  refine ss_iT rfl ?_
  refine ss_bret ?_
  exact ss_ret ⟨by rw [show Int32.ofNat (6 * c) + (6 : Int32) = Int32.ofNat (6 * (c + 1)) from zi_add (6 * c) 6], ex, I2, J2, D2, rfl, h2, h3, h4⟩
set_option maxRecDepth 20000 in
theorem jq_41 (X : sf_X) {L c : Nat} {xs : Nat → Int32} (hL : L ≤ 3072) (hc : 6 * c + 6 ≤ L) : JP c (jl_41 L xs (Int32.ofNat (6 * c)) (some 0) (some 112)) := by
  intro t I J D hI
  unfold jl_41
  refine ss_rc rfl ?_
  refine zp_wp_call (jq_call CL_status ((ok_SF_status (some 0)).1 X) hI) ?_
  rintro r1 τ ⟨ho, hq⟩
  refine jq_rc ho ?_
  refine zp_wp_call hq ?_
  rintro r2 τ2 ⟨rfl, ex, I2, J2, D2, rfl, h2, h3, h4⟩
  refine ss_iT rfl ?_
  refine ss_bret ?_
  exact ss_ret ⟨by rw [show Int32.ofNat (6 * c) + (6 : Int32) = Int32.ofNat (6 * (c + 1)) from zi_add (6 * c) 6], ex, I2, J2, D2, rfl, h2, h3, h4⟩
set_option maxRecDepth 20000 in
theorem law_cond {L c : Nat} (hL : L ≤ 3072) (hc : c ≤ L / 6) : ((Int32.ofNat L - (6 : Int32)) < Int32.ofNat (6 * c)) = (c = L / 6) := by
  have e : Int32.ofNat L - (6 : Int32) = Int32.ofInt ((L : Int) - 6) := by rw [Int32.ofInt_sub, ofInt_nat]; rfl
  have t1 : (Int32.ofInt ((L : Int) - 6)).toInt = (L : Int) - 6 := Int32.toInt_ofInt_of_le (by omega) (by omega)
  have t2 : (Int32.ofNat (6 * c)).toInt = ((6 * c : Nat) : Int) := zi_ofNat (by omega)
  rw [e, Int32.lt_iff_toInt_lt, t1, t2]
  apply propext
  constructor <;> intro h <;> omega
set_option maxRecDepth 20000 in
theorem law_loop (X : sf_X) {L : Nat} (xs : Nat → Int32) (hL : L ≤ 3072) : zp_wp (jl_law L xs) (fun r τ => r = 1 ∧ sf_cn τ ≤ 600000 ∧ sf_sn τ ≤ 7302250) (IS 0 [] []) := by
  unfold jl_law
  refine init_all (kk := fun x1 x3 => _) ?_
  rw [init_Z]
  refine ss_or ?_
  refine zp_loop_b (fun n b σ => ∃ c t I J D, c ≤ L / 6 ∧ n = L / 6 - c ∧ b = Int32.ofNat (6 * c) ∧ σ = zp_Z t I J D ∧ INV t I D ∧ t.length ≤ 12 * c ∧ (t.map (fun q => q.2)).sum ≤ 877 * c) (L / 6) (by unfold sf_fuel; omega) ⟨0, [], _, _, _, by omega, by omega, rfl, rfl, init_INV, by decide, by decide⟩ ?_
  rintro n b σ ⟨c, t, I, J, D, hc, rfl, rfl, rfl, hI, ht1, ht2⟩
  by_cases hend : c = L / 6
  · refine ss_iT (by rw [law_cond hL hc]; exact hend) ?_
    refine ss_ret ?_
    refine ss_cr ?_
    refine ss_ret ⟨rfl, ?_, ?_⟩
    · show (zp_sh0 ++ t).length ≤ _
      rw [List.length_append, show zp_sh0.length = 139 from rfl]
      omega
    · show ((zp_sh0 ++ t).map (fun q => q.2)).sum ≤ _
      rw [List.map_append, List.sum_append]
      have : (zp_sh0.map (fun q => q.2)).sum ≤ 100000 := by decide +kernel
      omega
  · have hc6 : 6 * c + 6 ≤ L := by omega
    refine ss_iF (by rw [law_cond hL hc]; exact hend) ?_
    refine ss_scr (m := 6 * c) rfl (by omega) hL ?_
    have fin : ∀ body, JP c body → ∀ Q : (Int32 ⊕ (Int32 ⊕ Unit)) → sf_St → Prop, (∀ ex I2 J2 D2, INV (t ++ ex) I2 D2 → ex.length ≤ 12 → (ex.map (fun q => q.2)).sum ≤ 877 → Q (.inl (Int32.ofNat (6 * (c + 1)))) (zp_Z (t ++ ex) I2 J2 D2)) → zp_wp body Q (zp_Z t I J D) := by
      intro body hb Q hQ
      refine zp_wp_mono (hb t I J D hI) ?_
      rintro r τ ⟨rfl, ex, I2, J2, D2, rfl, h2, h3, h4⟩
      exact hQ ex I2 J2 D2 h2 h3 h4
    have last : ∀ ex I2 J2 D2, INV (t ++ ex) I2 D2 → ex.length ≤ 12 → (ex.map (fun q => q.2)).sum ≤ 877 → ∃ m, m < L / 6 - c ∧ ∃ c' t' I' J' D', c' ≤ L / 6 ∧ m = L / 6 - c' ∧ Int32.ofNat (6 * (c + 1)) = Int32.ofNat (6 * c') ∧ zp_Z (t ++ ex) I2 J2 D2 = zp_Z t' I' J' D' ∧ INV t' I' D' ∧ t'.length ≤ 12 * c' ∧ (t'.map (fun q => q.2)).sum ≤ 877 * c' := by
      intro ex I2 J2 D2 h2 h3 h4
      refine ⟨L / 6 - (c + 1), by omega, c + 1, t ++ ex, I2, J2, D2, by omega, rfl, rfl, rfl, h2, ?_, ?_⟩
      · rw [List.length_append]; omega
      · rw [List.map_append, List.sum_append]; omega
    refine ss_i (fun _ => fin _ (jq_0 X hL hc6) _ last) (fun _ => ?_)
    refine ss_i (fun _ => fin _ (jq_1 X hL hc6) _ last) (fun _ => ?_)
    refine ss_i (fun _ => fin _ (jq_2 X hL hc6) _ last) (fun _ => ?_)
    refine ss_i (fun _ => fin _ (jq_3 X hL hc6) _ last) (fun _ => ?_)
    refine ss_i (fun _ => fin _ (jq_4 X hL hc6) _ last) (fun _ => ?_)
    refine ss_i (fun _ => fin _ (jq_5 X hL hc6) _ last) (fun _ => ?_)
    refine ss_i (fun _ => fin _ (jq_6 X hL hc6) _ last) (fun _ => ?_)
    refine ss_i (fun _ => fin _ (jq_7 X hL hc6) _ last) (fun _ => ?_)
    refine ss_i (fun _ => fin _ (jq_8 X hL hc6) _ last) (fun _ => ?_)
    refine ss_i (fun _ => fin _ (jq_9 X hL hc6) _ last) (fun _ => ?_)
    refine ss_i (fun _ => fin _ (jq_10 X hL hc6) _ last) (fun _ => ?_)
    refine ss_i (fun _ => fin _ (jq_11 X hL hc6) _ last) (fun _ => ?_)
    refine ss_i (fun _ => fin _ (jq_12 X hL hc6) _ last) (fun _ => ?_)
    refine ss_i (fun _ => fin _ (jq_13 X hL hc6) _ last) (fun _ => ?_)
    refine ss_i (fun _ => fin _ (jq_14 X hL hc6) _ last) (fun _ => ?_)
    refine ss_i (fun _ => fin _ (jq_15 X hL hc6) _ last) (fun _ => ?_)
    refine ss_i (fun _ => fin _ (jq_16 X hL hc6) _ last) (fun _ => ?_)
    refine ss_i (fun _ => fin _ (jq_17 X hL hc6) _ last) (fun _ => ?_)
    refine ss_i (fun _ => fin _ (jq_18 X hL hc6) _ last) (fun _ => ?_)
    refine ss_i (fun _ => fin _ (jq_19 X hL hc6) _ last) (fun _ => ?_)
    refine ss_i (fun _ => fin _ (jq_20 X hL hc6) _ last) (fun _ => ?_)
    refine ss_i (fun _ => fin _ (jq_21 X hL hc6) _ last) (fun _ => ?_)
    refine ss_i (fun _ => fin _ (jq_22 X hL hc6) _ last) (fun _ => ?_)
    refine ss_i (fun _ => fin _ (jq_23 X hL hc6) _ last) (fun _ => ?_)
    refine ss_i (fun _ => fin _ (jq_24 X hL hc6) _ last) (fun _ => ?_)
    refine ss_i (fun _ => fin _ (jq_25 X hL hc6) _ last) (fun _ => ?_)
    refine ss_i (fun _ => fin _ (jq_26 X hL hc6) _ last) (fun _ => ?_)
    refine ss_i (fun _ => fin _ (jq_27 X hL hc6) _ last) (fun _ => ?_)
    refine ss_i (fun _ => fin _ (jq_28 X hL hc6) _ last) (fun _ => ?_)
    refine ss_i (fun _ => fin _ (jq_29 X hL hc6) _ last) (fun _ => ?_)
    refine ss_i (fun _ => fin _ (jq_30 X hL hc6) _ last) (fun _ => ?_)
    refine ss_i (fun _ => fin _ (jq_31 X hL hc6) _ last) (fun _ => ?_)
    refine ss_i (fun _ => fin _ (jq_32 X hL hc6) _ last) (fun _ => ?_)
    refine ss_i (fun _ => fin _ (jq_33 X hL hc6) _ last) (fun _ => ?_)
    refine ss_i (fun _ => fin _ (jq_34 X hL hc6) _ last) (fun _ => ?_)
    refine ss_i (fun _ => fin _ (jq_35 X hL hc6) _ last) (fun _ => ?_)
    refine ss_i (fun _ => fin _ (jq_36 X hL hc6) _ last) (fun _ => ?_)
    refine ss_i (fun _ => fin _ (jq_37 X hL hc6) _ last) (fun _ => ?_)
    refine ss_i (fun _ => fin _ (jq_38 X hL hc6) _ last) (fun _ => ?_)
    refine ss_i (fun _ => fin _ (jq_39 X hL hc6) _ last) (fun _ => ?_)
    refine ss_i (fun _ => fin _ (jq_40 X hL hc6) _ last) (fun _ => ?_)
    refine ss_i (fun _ => fin _ (jq_41 X hL hc6) _ last) (fun _ => ?_)
    refine fin _ ?_ _ last
    intro t I J D hI
    refine ss_bret ?_
    exact ss_ret ⟨by rw [show Int32.ofNat (6 * c) + (6 : Int32) = Int32.ofNat (6 * (c + 1)) from zi_add (6 * c) 6], [], I, J, D, by rw [List.append_nil], by rw [List.append_nil]; exact hI, by decide, by decide⟩
