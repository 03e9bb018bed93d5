/-! Switches. -/
theorem sf_pick_tab (x : Int32) (t0 : Nat) : ∀ (ts : List Nat) (lo : Int), -2147483648 ≤ lo → lo + ts.length ≤ 2147483648 → sf_pick (sf_tab lo ts) t0 x = if lo ≤ x.toInt ∧ x.toInt < lo + ts.length then ts.getD (x.toInt - lo).toNat 0 else t0
  | [], lo, _, _ => by
    rw [if_neg (by simp only [List.length_nil]; omega)]
    rfl
  | t :: l, lo, h1, h2 => by
    have h2' : lo + (l.length + 1 : Nat) ≤ 2147483648 := by simpa using h2
    have e : (Int32.ofInt lo).toInt = lo := by
      rw [Int32.toInt_ofInt, show Int32.size = 4294967296 from rfl, Int.bmod_eq_of_le] <;> omega
    show (if x = Int32.ofInt lo then t else sf_pick (sf_tab (lo + 1) l) t0 x) = _
    rw [sf_pick_tab x t0 l (lo + 1) (by omega) (by omega)]
    by_cases hx : x = Int32.ofInt lo
    · rw [if_pos hx, hx, e, if_pos (by simp only [List.length_cons]; omega)]
      simp
    · have hne : x.toInt ≠ lo := fun q => hx (Int32.toInt_inj.mp (by rw [e]; exact q))
      rw [if_neg hx]
      by_cases hi : lo + 1 ≤ x.toInt ∧ x.toInt < lo + 1 + l.length
      · rw [if_pos hi, if_pos (by simp only [List.length_cons]; omega)]
        have e2 : (x.toInt - lo).toNat = (x.toInt - (lo + 1)).toNat + 1 := by omega
        rw [e2, List.getD_cons_succ]
      · rw [if_neg hi, if_neg (by simp only [List.length_cons]; omega)]
def sf_offs (pc : Nat) (offs : List Int) (ts : List Nat) : Prop := ∀ j : Nat, j < ts.length → ∃ o, offs[j]? = some o ∧ (pc : Int) + o = (ts.getD j 0 : Nat)
def sf_offsB (pc : Nat) : List Int → List Nat → Bool
  | o :: os, t :: ts => ((pc : Int) + o == (t : Int)) && sf_offsB pc os ts
  | [], [] => true
  | _, _ => false
theorem sf_offsB_ok (pc : Nat) : ∀ (offs : List Int) (ts : List Nat), sf_offsB pc offs ts = true → sf_offs pc offs ts
  | [], [], _ => fun j hj => by simp at hj
  | o :: os, t :: ts, h => by
    simp only [sf_offsB, Bool.and_eq_true, beq_iff_eq] at h
    intro j hj
    cases j with
    | zero => exact ⟨o, rfl, h.1⟩
    | succ j =>
      obtain ⟨o', h1, h2⟩ := sf_offsB_ok pc os ts h.2 j (by simpa using hj)
      exact ⟨o', by simpa using h1, by simpa using h2⟩
  | [], _ :: _, h => by cases h
  | _ :: _, [], h => by cases h
theorem sf_lk (pc : Nat) (x : Int32) (t0 : Nat) (dflt : Int) (h0 : (pc : Int) + dflt = (t0 : Nat)) : ∀ (cs : List (Int32 × Nat)), (pc : Int) + Op.lookupswitch.offset (cs.map (fun q => (q.1.toInt, (q.2 : Int) - pc))) dflt x.toInt = (sf_pick cs t0 x : Nat)
  | [] => by
    first | exact h0 | (simp [Op.lookupswitch.offset, sf_pick]; exact h0)
  | q :: l => by
    show (pc : Int) + Op.lookupswitch.offset ((q.1.toInt, (q.2 : Int) - pc) :: l.map (fun q => (q.1.toInt, (q.2 : Int) - pc))) dflt x.toInt = ((if x = q.1 then q.2 else sf_pick l t0 x : Nat) : Int)
    rw [Op.lookupswitch.offset_cons]
    by_cases hx : x = q.1
    · rw [if_pos (by rw [hx]), if_pos hx]
      omega
    · rw [if_neg (fun z => hx (Int32.toInt_inj.mp (by first | exact z | exact z.symm))), if_neg hx]
      exact sf_lk pc x t0 dflt h0 l
section SW
variable {X : sf_X} {Z : sf_Z} {σ : sf_St} {env : List (Option Value)} {stk : List Value} {pc : Nat}
theorem at_tsw (C : sf_Cx X Z) {dflt lo hi : Int} {offs : Array Int} {len : Nat} {x : Int32} {ts : List Nat} {t0 : Nat} {cs : List (Int32 × Nat)} (hd : decode Z.2.1 pc = .ok (.tableswitch dflt lo hi offs, len)) (h : (decide (-2147483648 ≤ lo) && (decide (lo + ts.length ≤ 2147483648) && (decide (hi = lo + ts.length - 1) && (decide ((pc : Int) + dflt = (t0 : Nat)) && sf_offsB pc offs.toList ts)))) = true) (hc : sf_tab lo ts = cs) (k : sf_At X σ env stk (sf_pick cs t0 x)) : sf_At X σ env (.int x :: stk) pc := fun H locs ls hH hl => by
  simp only [Bool.and_eq_true, decide_eq_true_eq] at h
  obtain ⟨h1, h2, h3, h4, h5⟩ := h
  have hk := k H locs ls hH hl
  rw [← hc, sf_pick_tab x t0 ts lo h1 h2] at hk
  by_cases hi' : lo ≤ x.toInt ∧ x.toInt < lo + ts.length
  · rw [if_pos hi'] at hk
    obtain ⟨o, g1, g2⟩ := sf_offsB_ok pc _ _ h5 (x.toInt - lo).toNat (by omega)
    exact lv_tableIn C.1 C.2.1 hd (by omega) (by omega) (off := o) (by simpa using g1) g2 hk
  · rw [if_neg hi'] at hk
    exact lv_tableOut C.1 C.2.1 hd (by omega) h4 hk
theorem at_lsw (C : sf_Cx X Z) {dflt : Int} {ps : Array (Int × Int)} {len : Nat} {x : Int32} {t0 : Nat} {cs : List (Int32 × Nat)} (hd : decode Z.2.1 pc = .ok (.lookupswitch dflt ps, len)) (hp : (ps.toList.zip (ps.toList.drop 1)).all (fun (a, next) => a.1 < next.1) = true) (h0 : (pc : Int) + dflt = (t0 : Nat)) (hc : ps.toList = cs.map (fun q => (q.1.toInt, (q.2 : Int) - pc))) (k : sf_At X σ env stk (sf_pick cs t0 x)) : sf_At X σ env (.int x :: stk) pc := fun H locs ls hH hl =>
  lv_lookup C.1 C.2.1 hd hp (off := Op.lookupswitch.offset ps.toList dflt x.toInt) rfl (by rw [hc]; exact sf_lk pc x t0 dflt h0 cs) (k H locs ls hH hl)
end SW
