/-! Both answer the questions alike. -/
section
variable {t : List (Nat × Nat)} {I : Nat → Nat → Int32} {J : Nat → Nat → Int64} {D : Nat → Nat → Option Nat} {K : Nat → Int32}
set_option maxRecDepth 20000 in
theorem CL.askE {α : Type} {f g : sf_M α} (s : (Nat → Int32) → α) (hx : ∀ t I J D K, zr_cl t I D K → f (zp_Z t I J D) = some (s K, zp_Z t I J D)) (hm : ∀ t I J D K, I 114 = K → zr_ml K → g (zp_Z t I J D) = some (s K, zp_Z t I J D)) : CL f g := by
  intro t I J D h
  refine ⟨_, _, hx t I J D (I 114) h.1, _, _, hm t I J D (I 114) rfl (zr_cl_ml h.1), CL.fin h rfl⟩
set_option maxRecDepth 20000 in
theorem zk_sx (a k : Nat) (h : (zk_x1 a k || zk_x2 a k || zk_x3 a k || zk_an a k) = true) : zk_sc a k = true := by
  simp only [zk_x1, zk_x2, zk_x3, zk_an, Bool.or_eq_true, beq_iff_eq] at h
  simp [zk_sc]; omega
set_option maxRecDepth 20000 in
theorem zk_sm (a k : Nat) (h : (zk_m1 a k || zk_m2 a k || zk_m3 a k || zk_m4 a k || zk_m5 a k || zk_by a k) = true) : zk_sc a k = true := by
  simp only [zk_m1, zk_m2, zk_m3, zk_m4, zk_m5, zk_by, Bool.or_eq_true, Bool.and_eq_true, beq_iff_eq] at h
  simp [zk_sc]; omega
set_option maxRecDepth 20000 in
theorem zk_sx1 (a k : Nat) (h : zk_x1 a k = true) : zk_sc a k = true := zk_sx a k (by rw [h]; rfl)
set_option maxRecDepth 20000 in
theorem zk_sx2 (a k : Nat) (h : zk_x2 a k = true) : zk_sc a k = true := zk_sx a k (by simp [h])
set_option maxRecDepth 20000 in
theorem zk_sx3 (a k : Nat) (h : zk_x3 a k = true) : zk_sc a k = true := zk_sx a k (by simp [h])
set_option maxRecDepth 20000 in
theorem zk_sxa (a k : Nat) (h : zk_an a k = true) : zk_sc a k = true := zk_sx a k (by simp [h])
set_option maxRecDepth 20000 in
theorem zk_sm1 (a k : Nat) (h : zk_m1 a k = true) : zk_sc a k = true := zk_sm a k (by simp [h])
set_option maxRecDepth 20000 in
theorem zk_sm2 (a k : Nat) (h : zk_m2 a k = true) : zk_sc a k = true := zk_sm a k (by simp [h])
set_option maxRecDepth 20000 in
theorem zk_sm3 (a k : Nat) (h : zk_m3 a k = true) : zk_sc a k = true := zk_sm a k (by simp [h])
set_option maxRecDepth 20000 in
theorem zk_sm4 (a k : Nat) (h : zk_m4 a k = true) : zk_sc a k = true := zk_sm a k (by simp [h])
set_option maxRecDepth 20000 in
theorem zk_sm5 (a k : Nat) (h : zk_m5 a k = true) : zk_sc a k = true := zk_sm a k (by simp [h])
set_option maxRecDepth 20000 in
theorem zk_smb (a k : Nat) (h : (zk_m2 a k || zk_by a k) = true) : zk_sc a k = true := zk_sm a k (by simp only [Bool.or_eq_true] at h ⊢; rcases h with h | h <;> simp [h])
set_option maxRecDepth 20000 in
/-- case 1 -/
theorem CL_of (x w : Int32) : CL (jx_SF_of (some 0) x w) (jx_Mo_of (some 112) x w) := CL.askE (fun K => sp_of K x w) (fun _ _ _ _ _ h => cx_of h x w) (fun _ _ _ _ _ h1 h2 => mx_of h1 h2.1 x w)
set_option maxRecDepth 20000 in
/-- case 2 -/
theorem CL_price (s p q : Int32) : CL (jx_SF_price (some 0) s p q) (jx_Mo_price (some 112) s p q) := CL.ask (fun K => sp_price K s p q) (fun _ _ _ _ _ h => cx_price h s p q) (fun _ _ _ _ _ h1 h2 => mx_price h1 h2 s p q) zk_sx1 zk_sm1
set_option maxRecDepth 20000 in
/-- case 3 -/
theorem CL_isBarred (x s p q : Int32) : CL (jx_SF_isBarred (some 0) x s p q) (jx_Mo_isBarred (some 112) x s p q) := CL.ask (fun K => sp_isb K x s p q) (fun _ _ _ _ _ h => cx_isBarred h x s p q) (fun _ _ _ _ _ h1 h2 => mx_isBarred h1 h2 x s p q) zk_sx1 zk_sm1
set_option maxRecDepth 20000 in
/-- case 4 -/
theorem CL_held (s p q : Int32) : CL (jx_SF_held (some 0) s p q) (jx_Mo_held (some 112) s p q) := CL.askE (fun K => sp_held K s p q) (fun _ _ _ _ _ h => cx_held h.1 s p q) (fun _ _ _ _ _ h1 _ => mx_held h1 s p q)
set_option maxRecDepth 20000 in
/-- case 20 -/
theorem CL_cheapest (x p q i : Int32) : CL (jx_SF_cheapest (some 0) x p q i) (jx_Mo_cheapest (some 112) x p q i) := CL.ask (fun K => sp_cheap K x p q i) (fun _ _ _ _ _ h => cx_cheapest h x p q i) (fun _ _ _ _ _ h1 h2 => mx_cheapest h1 h2 x p q i) zk_sx2 zk_sm2
set_option maxRecDepth 20000 in
/-- case 21 -/
theorem CL_byAtMost (x p q k : Int32) : CL (jx_SF_byAtMost (some 0) x p q k) (jx_Mo_byAtMost (some 112) x p q k) := CL.ask (fun K => sp_atm K x p q k) (fun _ _ _ _ _ h => cx_byAtMost h x p q k) (fun _ _ _ _ _ h1 h2 => mx_byAtMost h1 h2 x p q k) zk_sx2 zk_smb
set_option maxRecDepth 20000 in
/-- case 22 -/
theorem CL_fewest (x p q : Int32) : CL (jx_SF_fewest (some 0) x p q) (jx_Mo_fewest (some 112) x p q) := CL.ask (fun K => sp_few K x p q) (fun _ _ _ _ _ h => cx_fewest h x p q) (fun _ _ _ _ _ h1 h2 => mx_fewest h1 h2 x p q) zk_sx2 zk_sm3
set_option maxRecDepth 20000 in
/-- case 23 -/
theorem CL_ways (x p q : Int32) : CL (jx_SF_ways (some 0) x p q) (jx_Mo_ways (some 112) x p q) := CL.ask (fun K => sp_ways K x p q) (fun _ _ _ _ _ h => cx_ways h x p q) (fun _ _ _ _ _ h1 h2 => mx_ways h1 h2 x p q) zk_sx2 zk_sm4
set_option maxRecDepth 20000 in
/-- case 25 -/
theorem CL_saved (x p q : Int32) : CL (jx_SF_saved (some 0) x p q) (jx_Mo_saved (some 112) x p q) := CL.ask (fun K => sp_saved K x p q) (fun _ _ _ _ _ h => cx_saved h x p q) (fun _ _ _ _ _ h1 h2 => mx_saved h1 h2 x p q) zk_sx2 zk_sm2
set_option maxRecDepth 20000 in
/-- case 26 -/
theorem CL_bestTrain (p q : Int32) : CL (jx_SF_bestTrain (some 0) p q) (jx_Mo_bestTrain (some 112) p q) := CL.ask (fun K => sp_best K p q) (fun _ _ _ _ _ h => cx_bestTrain h p q) (fun _ _ _ _ _ h1 h2 => mx_bestTrain h1 h2 p q) zk_sx2 zk_sm2
set_option maxRecDepth 20000 in
/-- case 27 -/
theorem CL_mostSaved (x w : Int32) : CL (jx_SF_mostSaved (some 0) x w) (jx_Mo_mostSaved (some 112) x w) := CL.ask (fun K => sp_most K x w) (fun _ _ _ _ _ h => cx_mostSaved h x w) (fun _ _ _ _ _ h1 h2 => mx_mostSaved h1 h2 x w) zk_sx2 zk_sm2
set_option maxRecDepth 20000 in
/-- case 28 -/
theorem CL_purseEnd : CL (jx_SF_purseEnd (some 0)) (jx_Mo_purseEnd (some 112)) := CL.ask (fun K => sp_pe K (8 * sf_ix (K 227))) (fun _ _ _ _ _ h => cx_purseEnd h) (fun _ _ _ _ _ h1 h2 => mx_purseEnd h1 h2) zk_sxa zk_sm5
set_option maxRecDepth 20000 in
/-- case 29 -/
theorem CL_used (x q i : Int32) : CL (jx_SF_used (some 0) x q i) (jx_Mo_used (some 112) x q i) := CL.ask (fun K => sp_used K x q i) (fun _ _ _ _ _ h => cx_used h x q i) (fun _ _ _ _ _ h1 h2 => mx_used h1 h2 x q i) zk_sx3 zk_sm2
set_option maxRecDepth 20000 in
theorem cx_canBe (hC : zr_cl t I D K) : zp_wp (jx_SF_canBe (some 0)) (fun r τ => ∃ I', τ = zp_Z t I' J D ∧ zf zk_an I I' ∧ r = sp_fit K) (zp_Z t I J D) := by
  unfold jx_SF_canBe
  refine ss_rc rfl ?_
  refine zp_wp_call (cx_fillAnswers hC) ?_
  rintro _ τ ⟨I1, rfl, f1, r1⟩
  have h := cx_trainsThatFit (J := J) (zr_cl_fr2 (I' := I1) (fun a ha => zf_row f1 (fun k => by simp [zk_an]; omega)) hC) r1
  refine ss_rc rfl ?_
  refine ss_call h ?_
  exact ⟨_, _, rfl, I1, rfl, f1, rfl⟩
set_option maxRecDepth 20000 in
/-- case 32 -/
theorem CL_canBe : CL (jx_SF_canBe (some 0)) (jx_Mo_canBe (some 112)) := CL.ask (fun K => sp_fit K) (fun _ _ _ _ _ h => cx_canBe h) (fun _ _ _ _ _ h1 h2 => zp_wp_mono (mx_canBe h1 h2) (fun _ _ ⟨I', e1, e2, e3, _⟩ => ⟨I', e1, e2, e3⟩)) zk_sxa zk_sm5
set_option maxRecDepth 20000 in
/-- case 33 -/
theorem CL_ask (w : Int32) : CL (jx_SF_ask (some 0) w) (jx_Mo_ask (some 112) w) := CL.ask (fun K => sp_askv K w) (fun _ _ _ _ _ h => cx_ask h w) (fun _ _ _ _ _ h1 h2 => mx_ask h1 h2 w) zk_sxa zk_sm5
set_option maxRecDepth 20000 in
/-- case 34 -/
theorem CL_few (k n : Int32) : CL (jx_SF_few (some 0) k n) (jx_Mo_few (some 112) k n) := by
  intro t I J D h
  refine zp_wp_mono (cx_few h.1 k n) ?_
  rintro r τ ⟨J1, rfl, rfl⟩
  refine zp_wp_mono (mx_few rfl h.1.2.1 k n) ?_
  rintro r τ ⟨J2, rfl, rfl⟩
  exact CL.fin h rfl
set_option maxRecDepth 20000 in
/-- case 35 -/
theorem CL_compare (f p q : Int32) : CL (jx_SF_compare (some 0) f p q) (jx_Mo_compare (some 112) f p q) := CL.ask (fun K => sp_cmp K f p q) (fun _ _ _ _ _ h => cx_compare h f p q) (fun _ _ _ _ _ h1 h2 => mx_compare h1 h2 f p q) zk_sx1 zk_sm1
end
