/-! What steps answer; a LAW's clauses; what the class's Office asks of a LAW. -/
theorem tx_ev_nil (w : Nat → Int32) : tx_ev w [] = 1 := rfl
def tx_dn (w : Nat → Int32) : tx_L → Option Int32
  | [] => some 1
  | x :: xs => tx_den w (x :: xs)
def tx_po (ord : Bool) (xs : tx_L) : Prop := tx_ag ord xs ∧ (xs = [] ∨ ∃ n, n ≤ 64 ∧ tx_Sem xs n)
theorem tx_evp {ord : Bool} {xs : tx_L} (h : tx_po ord xs) (w : Nat → Int32) : tx_ev w xs = match tx_dn w xs with
    | none => -2000000000
    | some r => r := by
  obtain ⟨-, h⟩ := h
  rcases h with rfl | ⟨n, hn, hs⟩
  · rfl
  · cases xs with
    | nil => rfl
    | cons x xs =>
      have := hs w [] [] (by simpa using hn)
      rw [List.append_nil] at this
      show tx_ev w (x :: xs) = match tx_den w (x :: xs) with
        | none => -2000000000
        | some r => r
      unfold tx_ev
      rw [this]
      cases tx_den w (x :: xs) with
      | none => rfl
      | some r => rfl
theorem tl_lo {j : Int64} (h1 : ¬ 1000000000 < j) (h2 : ¬ j < -1000000000) : j.toInt32.toInt = j.toInt ∧ j.toInt32.toInt64 = j := by
  rw [Int64.not_lt] at h1 h2
  rw [Int64.le_iff_toInt_le] at h1 h2
  have e : j.toInt32.toInt = j.toInt := by
    rw [Int64.toInt_toInt32, zi_bm]
    have a1 : (1000000000 : Int64).toInt = 1000000000 := by decide
    have a2 : (-1000000000 : Int64).toInt = -1000000000 := by decide
    omega
  refine ⟨e, ?_⟩
  rw [← Int64.toInt_inj, Int32.toInt_toInt64, e]
theorem tx_join_nb {o a b z : Int32} (h : tx_join o a b = some z) : z ≠ -2000000000 := by
  rw [tx_join_eq] at h
  split at h
  · cases h
  · split at h
    · cases h
    · rename_i h1 h2
      cases h
      have := (tl_lo h1 h2).1
      intro e
      rw [e] at this
      rw [Int64.not_lt, Int64.le_iff_toInt_le] at h2
      have a2 : (-1000000000 : Int64).toInt = -1000000000 := by decide
      have a3 : (-2000000000 : Int32).toInt = -2000000000 := by decide
      omega
theorem tx_run_nb {ord : Bool} {w : Nat → Int32} (hw : ∀ k, w k ≠ -2000000000) : ∀ (xs : tx_L) (k : Nat) (st st' : List Int32), tx_ag ord xs → (∀ x, x ∈ st → x ≠ -2000000000) → tx_run w xs k st = some st' → ∀ x, x ∈ st' → x ≠ -2000000000 := by
  intro xs
  induction xs with
  | nil => intro k st st' _ hs h; simp only [tx_run, Option.some.injEq] at h; subst h; exact hs
  | cons y ys ih =>
    intro k st st' hg hs h
    have hg' : tx_ag ord ys := fun x hx => hg x (List.mem_cons_of_mem _ hx)
    cases k with
    | succ k => exact ih k st st' hg' hs h
    | zero =>
      obtain ⟨o, a⟩ := y
      rw [tx_run_c] at h
      split at h
      · split at h
        · refine ih 0 _ st' hg' (fun x hx => ?_) h
          rcases List.mem_cons.mp hx with rfl | hx
          · split
            · rename_i h0
              have := (hg _ List.mem_cons_self).1 h0
              rw [zs_inT] at this
              intro e; rw [show a = -2000000000 from e] at this; exact absurd this.1 (show ¬ (0 : Int32) ≤ -2000000000 by decide)
            · exact hw _
          · exact hs x hx
        · cases h
      · cases st with
        | nil => cases h
        | cons x st2 =>
          simp only at h
          split at h
          · refine ih 0 _ st' hg' (fun z hz => ?_) h
            rcases List.mem_cons.mp hz with rfl | hz
            · split <;> decide
            · exact hs z (List.mem_cons_of_mem _ hz)
          · split at h
            · split at h
              · exact ih _ _ st' hg' hs h
              · exact ih _ _ st' hg' (fun z hz => hs z (List.mem_cons_of_mem _ hz)) h
            · cases st2 with
              | nil => cases h
              | cons y2 st3 =>
                simp only at h
                cases hj : tx_join o y2 x with
                | none => rw [hj] at h; cases h
                | some z =>
                  rw [hj] at h
                  refine ih 0 _ st' hg' (fun q hq => ?_) h
                  rcases List.mem_cons.mp hq with rfl | hq
                  · exact tx_join_nb hj
                  · exact hs q (List.mem_cons_of_mem _ (List.mem_cons_of_mem _ hq))
theorem tx_dn_nb {ord : Bool} {w : Nat → Int32} (hw : ∀ k, w k ≠ -2000000000) {xs : tx_L} (hg : tx_ag ord xs) {r : Int32} (h : tx_dn w xs = some r) : r ≠ -2000000000 := by
  cases xs with
  | nil => cases h; decide
  | cons x xs =>
    have h2 : tx_den w (x :: xs) = some r := h
    unfold tx_den at h2
    cases hr : tx_run w (x :: xs) 0 [] with
    | none => rw [hr] at h2; cases h2
    | some st =>
      rw [hr] at h2
      cases st with
      | nil => cases h2
      | cons y st => cases h2; exact tx_run_nb hw _ _ _ _ hg (fun _ h => absurd h List.not_mem_nil) hr _ List.mem_cons_self
-- clauses in a Program's rows
def tx_body (cl : tx_C) : tx_L := cl.2.2.1 ++ (cl.2.2.2.1 ++ cl.2.2.2.2)
def tx_flat (cs : List tx_C) : tx_L := cs.flatMap tx_body
def zr_cls (I : Nat → Nat → Int32) (p i : Nat) (cl : tx_C) (a : Nat) : Prop :=
  I (p + 3) (i * 6) = cl.1 ∧ I (p + 3) (i * 6 + 1) = cl.2.1 ∧ I (p + 3) (i * 6 + 2) = Int32.ofNat a ∧ I (p + 3) (i * 6 + 3) = Int32.ofNat (a + cl.2.2.1.length) ∧
  I (p + 3) (i * 6 + 4) = Int32.ofNat (a + cl.2.2.1.length + cl.2.2.2.1.length) ∧ I (p + 3) (i * 6 + 5) = Int32.ofNat (a + cl.2.2.1.length + cl.2.2.2.1.length + cl.2.2.2.2.length)
def zr_prog (I : Nat → Nat → Int32) (p : Nat) (cs : List tx_C) : Prop :=
  I p 4 = Int32.ofNat cs.length ∧ cs.length ≤ 12 ∧ I p 3 = Int32.ofNat (tx_flat cs).length ∧ (tx_flat cs).length ≤ 400 ∧
  (∀ k x, (tx_flat cs)[k]? = some x → I (p + 1) k = x.1 ∧ I (p + 2) k = x.2) ∧ ∀ i cl, cs[i]? = some cl → zr_cls I p i cl (tx_flat (cs.take i)).length
def tx_cok (ord : Bool) (cl : tx_C) : Prop := tx_po ord cl.2.2.1 ∧ tx_po ord cl.2.2.2.1 ∧ tx_po ord cl.2.2.2.2
theorem tx_flat_at {cs : List tx_C} {i : Nat} {cl : tx_C} (h : cs[i]? = some cl) : tx_flat cs = tx_flat (cs.take i) ++ (tx_body cl ++ tx_flat (cs.drop (i + 1))) := by
  have hl : i < cs.length := by
    rcases Nat.lt_or_ge i cs.length with h1 | h1
    · exact h1
    · rw [List.getElem?_eq_none h1] at h; cases h
  have : cs = cs.take i ++ (cl :: cs.drop (i + 1)) := by
    rw [List.getElem?_eq_getElem hl] at h
    rw [← Option.some.inj h, ← List.drop_eq_getElem_cons hl, List.take_append_drop]
  conv => lhs; rw [this]
  simp [tx_flat, List.flatMap_append, List.flatMap_cons]
section
variable {t : List (Nat × Nat)} {I : Nat → Nat → Int32} {J : Nat → Nat → Int64} {D : Nat → Nat → Option Nat} {p : Nat}
theorem pr_slice {xs a b c : tx_L} {f g : Nat → Int32} (h : xs = a ++ (b ++ c)) (hx : ∀ k x, xs[k]? = some x → f k = x.1 ∧ g k = x.2) {n : Nat} (hn : n = a.length) : ∀ k x, b[k]? = some x → f (n + k) = x.1 ∧ g (n + k) = x.2 := by
  intro k x hk
  have hl : k < b.length := by
    rcases Nat.lt_or_ge k b.length with h1 | h1
    · exact h1
    · rw [List.getElem?_eq_none h1] at hk; cases hk
  refine hx (n + k) x ?_
  rw [h, hn, List.getElem?_append_right (by omega), Nat.add_sub_cancel_left, List.getElem?_append_left hl]
  exact hk
/-- a clause's three parts, asked of the machine at 11 -/
theorem pr_eval11 (h : zr_pp t D p) (hp : 94 < p) {ord : Bool} {cs : List tx_C} (hc : zr_prog I p cs) {i : Nat} {cl : tx_C} (hi : cs[i]? = some cl) (hok : tx_cok ord cl) (w : Nat → Int32) {what : Int32} {xs : tx_L}
    (hw : (what = 2 ∧ xs = cl.2.2.1) ∨ (what = 3 ∧ xs = cl.2.2.2.1) ∨ (what = 4 ∧ xs = cl.2.2.2.2)) (hwd : ∀ x, x ∈ xs → x.1 = 1 → I 12 (sf_ix x.2) = w (sf_ix x.2)) :
    zp_wp (jx_Machine_evaluate (some 11) (some p) (Int32.ofNat i) what) (fun r τ => r = (match tx_dn w xs with
      | none => -2000000000
      | some r => r) ∧ ∃ I', τ = zp_Z t I' J D ∧ zf (fun a _ => a == 13) I I') (zp_Z t I J D) := by
  obtain ⟨h1, h2, h3, h4, h5, h6⟩ := hc
  have hil : i < cs.length := by
    rcases Nat.lt_or_ge i cs.length with q | q
    · exact q
    · rw [List.getElem?_eq_none q] at hi; cases hi
  obtain ⟨c0, c1, c2, c3, c4, c5⟩ := h6 i cl hi
  have hfl := tx_flat_at hi
  have hlen : (tx_flat cs).length = (tx_flat (cs.take i)).length + (cl.2.2.1.length + (cl.2.2.2.1.length + cl.2.2.2.2.length) + (tx_flat (cs.drop (i + 1))).length) := by
    rw [hfl]; simp only [List.length_append, tx_body]
  obtain ⟨o1, o2, o3⟩ := hok
  have hix : ∀ (n : Nat) (m : Int32), m = Int32.ofNat n → Int32.ofNat i * 6 + m = Int32.ofNat (i * 6 + n) := fun n m e => by rw [e]; exact zn_add (zn_mul rfl (zi_lit 6)) rfl
  have hxp : tx_po ord xs := by rcases hw with ⟨-, rfl⟩ | ⟨-, rfl⟩ | ⟨-, rfl⟩ <;> assumption
  rw [← tx_evp hxp w]
  rcases hw with ⟨rfl, rfl⟩ | ⟨rfl, rfl⟩ | ⟨rfl, rfl⟩
  · exact ez_eval11 h hp (hix 2 _ rfl) (hix 3 _ rfl) (by omega) h3 h4 c2 c3 (by omega) (pr_slice (a := tx_flat (cs.take i)) (c := cl.2.2.2.1 ++ cl.2.2.2.2 ++ tx_flat (cs.drop (i + 1))) (by rw [hfl]; simp [tx_body]) h5 rfl) hxp.1 w hwd
  · exact ez_eval11 h hp (hix 3 _ rfl) (hix 4 _ rfl) (by omega) h3 h4 c3 c4 (by omega) (pr_slice (a := tx_flat (cs.take i) ++ cl.2.2.1) (c := cl.2.2.2.2 ++ tx_flat (cs.drop (i + 1))) (by rw [hfl]; simp [tx_body]) h5 (by simp)) hxp.1 w hwd
  · exact ez_eval11 h hp (hix 4 _ rfl) (hix 5 _ rfl) (by omega) h3 h4 c4 c5 (by omega) (pr_slice (a := tx_flat (cs.take i) ++ cl.2.2.1 ++ cl.2.2.2.1) (c := tx_flat (cs.drop (i + 1))) (by rw [hfl]; simp [tx_body]) h5 (by simp; omega)) hxp.1 w hwd
/-- a clause's three parts, asked of the machine at 92 -/
theorem pr_eval92 (h : zr_pp t D p) (hp : 94 < p) {ord : Bool} {cs : List tx_C} (hc : zr_prog I p cs) {i : Nat} {cl : tx_C} (hi : cs[i]? = some cl) (hok : tx_cok ord cl) (w : Nat → Int32) {what : Int32} {xs : tx_L}
    (hw : (what = 2 ∧ xs = cl.2.2.1) ∨ (what = 3 ∧ xs = cl.2.2.2.1) ∨ (what = 4 ∧ xs = cl.2.2.2.2)) (hwd : ∀ x, x ∈ xs → x.1 = 1 → I 93 (sf_ix x.2) = w (sf_ix x.2)) :
    zp_wp (jx_Machine_evaluate (some 92) (some p) (Int32.ofNat i) what) (fun r τ => r = (match tx_dn w xs with
      | none => -2000000000
      | some r => r) ∧ ∃ I', τ = zp_Z t I' J D ∧ zf (fun a _ => a == 94) I I') (zp_Z t I J D) := by
  obtain ⟨h1, h2, h3, h4, h5, h6⟩ := hc
  have hil : i < cs.length := by
    rcases Nat.lt_or_ge i cs.length with q | q
    · exact q
    · rw [List.getElem?_eq_none q] at hi; cases hi
  obtain ⟨c0, c1, c2, c3, c4, c5⟩ := h6 i cl hi
  have hfl := tx_flat_at hi
  have hlen : (tx_flat cs).length = (tx_flat (cs.take i)).length + (cl.2.2.1.length + (cl.2.2.2.1.length + cl.2.2.2.2.length) + (tx_flat (cs.drop (i + 1))).length) := by
    rw [hfl]; simp only [List.length_append, tx_body]
  obtain ⟨o1, o2, o3⟩ := hok
  have hix : ∀ (n : Nat) (m : Int32), m = Int32.ofNat n → Int32.ofNat i * 6 + m = Int32.ofNat (i * 6 + n) := fun n m e => by rw [e]; exact zn_add (zn_mul rfl (zi_lit 6)) rfl
  have hxp : tx_po ord xs := by rcases hw with ⟨-, rfl⟩ | ⟨-, rfl⟩ | ⟨-, rfl⟩ <;> assumption
  rw [← tx_evp hxp w]
  rcases hw with ⟨rfl, rfl⟩ | ⟨rfl, rfl⟩ | ⟨rfl, rfl⟩
  · exact ez_eval92 h hp (hix 2 _ rfl) (hix 3 _ rfl) (by omega) h3 h4 c2 c3 (by omega) (pr_slice (a := tx_flat (cs.take i)) (c := cl.2.2.2.1 ++ cl.2.2.2.2 ++ tx_flat (cs.drop (i + 1))) (by rw [hfl]; simp [tx_body]) h5 rfl) hxp.1 w hwd
  · exact ez_eval92 h hp (hix 3 _ rfl) (hix 4 _ rfl) (by omega) h3 h4 c3 c4 (by omega) (pr_slice (a := tx_flat (cs.take i) ++ cl.2.2.1) (c := cl.2.2.2.2 ++ tx_flat (cs.drop (i + 1))) (by rw [hfl]; simp [tx_body]) h5 (by simp)) hxp.1 w hwd
  · exact ez_eval92 h hp (hix 4 _ rfl) (hix 5 _ rfl) (by omega) h3 h4 c4 c5 (by omega) (pr_slice (a := tx_flat (cs.take i) ++ cl.2.2.1 ++ cl.2.2.2.1) (c := tx_flat (cs.drop (i + 1))) (by rw [hfl]; simp [tx_body]) h5 (by simp; omega)) hxp.1 w hwd
end
