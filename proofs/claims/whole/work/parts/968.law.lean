/-! law: both. -/
set_option maxRecDepth 20000 in
theorem zk_rt_sc (a k : Nat) (h : zk_rt a k = true) : 95 < a ∧ a < 107 := by
  simp only [zk_rt, zk_hd, zk_tk, Bool.or_eq_true, Bool.and_eq_true, beq_iff_eq] at h
  rcases h with (((h | h) | h) | h) | h
  · unfold zk_rd at h
    simp only [Bool.or_eq_true, Bool.and_eq_true, beq_iff_eq] at h
    omega
  all_goals omega
set_option maxRecDepth 20000 in
theorem zk_rt_95 : ∀ k, zk_rt 96 k = false := fun k => by
  cases h : zk_rt 96 k with
  | false => rfl
  | true =>
    exfalso
    simp only [zk_rt, zk_hd, zk_tk, zk_rd, Bool.or_eq_true, Bool.and_eq_true, beq_iff_eq] at h
    omega
set_option maxRecDepth 20000 in
theorem zk_ra_sc (a k : Nat) (h : zk_ra a k = true) : (120 < a ∧ a < 124) ∨ (a = 112 ∧ (k = 8 ∨ k = 9 ∨ k = 10 ∨ k = 13 ∨ k = 14 ∨ k = 18 ∨ k = 19 ∨ k = 20 ∨ k = 21)) := by
  simp only [zk_ra, zk_rs, Bool.or_eq_true, Bool.and_eq_true, beq_iff_eq] at h
  omega
set_option maxRecDepth 20000 in
theorem kL_ks {K C V : Nat → Int32} {n m c : Nat} {o : Bool} (hn : n ≤ 6) (hm : m < 6) (hne : m ≠ n) (hc : c ≤ 400) (h4 : kz K m ≤ 400) : ks (kL K n c C V) m o = ks K m o := by
  have e1 : kL K n c C V (231 + m) = K (231 + m) := by
    unfold kL; rw [if_neg (by omega), if_neg (by omega), if_neg (by omega)]
  have ez : kz (kL K n c C V) m = kz K m := by unfold kz; rw [e1]
  have ec : kc (kL K n c C V) m = kc K m := by
    funext k
    unfold kc
    rw [ez]
    by_cases hk : k < kz K m
    · rw [if_pos hk, if_pos hk]
      unfold kL
      rw [if_neg (by omega), if_neg (by omega), if_neg (by omega)]
    · rw [if_neg hk, if_neg hk]
  have ev : kv (kL K n c C V) m = kv K m := by
    funext k
    unfold kv
    rw [ez]
    by_cases hk : k < kz K m
    · rw [if_pos hk, if_pos hk]
      unfold kL
      rw [if_neg (by omega), if_neg (by omega), if_neg (by omega)]
    · rw [if_neg hk, if_neg hk]
  unfold ks; rw [ec, ev, ez]
section
variable {t : List (Nat × Nat)} {I : Nat → Nat → Int32} {J : Nat → Nat → Int64} {D : Nat → Nat → Option Nat} {K : Nat → Int32}
set_option maxRecDepth 20000 in
/-- what the class does when a law is read: the office behind it -/
theorem zr_cl_kN {I' : Nat → Nat → Int32} {D' : Nat → Nat → Option Nat} {ex : List (Nat × Nat)} {n l a : Nat} {T : Nat → Int32} {cs : List tx_C} (hC : zr_cl t I D K) (h9 : K 229 = Int32.ofNat n) (hn : n < 6) (hl : l ≤ 400)
    (ht : tx_text (tkC T l) (tkV T l) false (tk_n T l) 12 0 0 = .inr cs) (ha : 138 < a) (hpp : zr_pp (t ++ ex) D' a) (hpr : zr_prog I' a cs)
    (hI : ∀ x, (2 < x ∧ x ≤ 10) ∨ (138 < x ∧ x < 139 + t.length) → I' x = I x) (h2 : ∀ k, k ≠ 5 → I' 2 k = I 2 k) (h25 : I' 2 5 = Int32.ofNat (n + 1))
    (hD : ∀ x k, 138 < x → x < 139 + t.length → D' x k = D x k) (hD8 : ∀ k, k ≠ n → D' 8 k = D 8 k) (hD8n : D' 8 n = some a) (hlt : ∀ m p, m < n → D 8 m = some p → p + 3 < 139 + t.length) : zr_cl (t ++ ex) I' D' (kN K n (tk_n T l) T l) := by
  obtain ⟨hO, hv, hL⟩ := hC
  obtain ⟨e1, e2⟩ := kN_txt (K := K) hn hl ht
  refine ⟨?_, zv_kN hv h9 hn, fun m hm => ?_⟩
  · obtain ⟨q1, q2, q3, q4, q5, q6, q7, q8, q9, q10, q11, q12, q13, q14, q15⟩ := hO
    refine ⟨fun i hi => ?_, ?_, ?_, ?_, fun i hi => ?_, fun i hi => ?_, fun i hi => ?_, fun i hi => ?_, fun i hi => ?_, ?_, ?_, ?_, ?_, ?_, ?_⟩
    · rw [kN_lo (by omega) (by omega), hI _ (by omega)]; exact q1 i hi
    · rw [kN_lo (by omega) (by omega), hI _ (by omega)]; exact q2
    · rw [kN_lo (by omega) (by omega), hI _ (by omega)]; exact q3
    · rw [kN_lo (by omega) (by omega), hI _ (by omega)]; exact q4
    · rw [kN_lo (by omega) (by omega), hI _ (by omega)]; exact q5 i hi
    · rw [kN_lo (by omega) (by omega), hI _ (by omega)]; exact q6 i hi
    · rw [kN_lo (by omega) (by omega), hI _ (by omega)]; exact q7 i hi
    · rw [kN_lo (by omega) (by omega), hI _ (by omega)]; exact q8 i hi
    · rw [kN_lo (by omega) (by omega), hI _ (by omega)]; exact q9 i hi
    · rw [kN_lo (by omega) (by omega), h2 _ (by omega)]; exact q10
    · rw [kN_lo (by omega) (by omega), h2 _ (by omega)]; exact q11
    · rw [kN_lo (by omega) (by omega), h2 _ (by omega)]; exact q12
    · rw [kN_lo (by omega) (by omega), h2 _ (by omega)]; exact q13
    · rw [h25]; exact kS_e.symm
    · rw [kN_lo (by omega) (by omega), h2 _ (by omega)]; exact q15
  · have hm' : m < n + 1 := by
      have e : kN K n (tk_n T l) T l 229 = Int32.ofNat (n + 1) := kS_e
      rw [e, zi_ixn (by omega)] at hm; exact hm
    by_cases hmn : m = n
    · subst hmn
      exact ⟨a, hD8n, hpp, ha, e2, by rw [e1]; exact hpr⟩
    · obtain ⟨p, p1, p2, p3, p4, p5⟩ := hL m (by rw [h9, zi_ixn (by omega)]; omega)
      have hp3 := hlt m p (by omega) p1
      refine ⟨p, by rw [hD8 m hmn]; exact p1, ?_, p3, kN_other hn (by omega) hmn hl p4, ?_⟩
      · obtain ⟨z1, z2, z3, z4, z5, z6, z7⟩ := p2
        have sh : ∀ x, x < 139 + t.length → (zp_sh0 ++ (t ++ ex)).getD x (999, 0) = (zp_sh0 ++ t).getD x (999, 0) := fun x hx => by
          have hl0 : (zp_sh0 ++ t).length = 139 + t.length := by rw [List.length_append]; rfl
          rw [← List.append_assoc, List.getD_eq_getElem?_getD, List.getD_eq_getElem?_getD, List.getElem?_append_left (by omega)]
        refine ⟨by rw [sh _ (by omega)]; exact z1, by rw [sh _ (by omega)]; exact z2, by rw [sh _ (by omega)]; exact z3, by rw [sh _ (by omega)]; exact z4, ?_, ?_, ?_⟩
        · rw [rfs_hi (by omega), hD p 0 (by omega) (by omega), ← rfs_hi (D := D) (show 139 ≤ p by omega)]; exact z5
        · rw [rfs_hi (by omega), hD p 1 (by omega) (by omega), ← rfs_hi (D := D) (show 139 ≤ p by omega)]; exact z6
        · rw [rfs_hi (by omega), hD p 2 (by omega) (by omega), ← rfs_hi (D := D) (show 139 ≤ p by omega)]; exact z7
      · have es : ks (kN K n (tk_n T l) T l) m false = ks K m false := by
          have h4 : tk_n T l ≤ 400 := by have := tk_n_le (T := T) l; omega
          have w : ∀ k, 231 ≤ k → kN K n (tk_n T l) T l k = kL K n (tk_n T l) (tkC T l) (tkV T l) k := fun k hk => kN_hi hk
          rw [ks_w w]
          exact kL_ks (by omega) (by omega) hmn h4 p4.2.1
        rw [es]
        unfold zr_prog zr_cls at p5 ⊢
        rw [hI p (by omega), hI (p + 1) (by omega), hI (p + 2) (by omega), hI (p + 3) (by omega)]
        exact p5
end
