/-! byAtMost, fewest: the model. -/
section
variable {m : Nat} {ln : Nat → Nat}
set_option maxRecDepth 20000 in
/-- the ways of k + 1 legs at most from a station of the line, by its next ones -/
theorem wy_lineK {L : Nat → Nat → Option Nat} {stop : Nat → Bool} {p q : Nat} (hd : zl_dir L stop p q) (hne : p ≠ q) (hok : zl_ok stop p q (zd p q + 1) m ln) {i : Nat} (hi : i < m) (h8 : ∀ j, j < m → ln j < 8) (hiq : ln i ≠ q) (k c : Nat) : (∃ j a b, i < j ∧ j < m ∧ L (ln i) (ln j) = some a ∧ wy L q k (ln j) b ∧ c = a + b) ↔ wy L q (k + 1) (ln i) c := by
  constructor
  · rintro ⟨j, a, b, h1, h2, h3, h4, h5⟩
    exact Or.inr ⟨ln j, a, b, h8 j h2, h3, h4, h5⟩
  · intro h
    obtain ⟨n, a, b, h1, h2, h3, h4⟩ := (wy_ne hiq k c).mp h
    obtain ⟨j, j1, j2, rfl⟩ := wy_line hd hne hok hi h2 h3
    exact ⟨j, a, b, j1, j2, h2, h3, h4⟩
/-- what the row k of ways by at most k legs holds -/
def zr_byK (I : Nat → Nat → Int32) (L : Nat → Nat → Option Nat) (q m : Nat) (ln : Nat → Nat) (k : Nat) (G : Nat → Nat) : Prop := ∀ i, i < m → I 128 (8 * k + i) = Int32.ofNat (G i) ∧ G i ≤ 100000000 ∧ zy_min (wy L q k (ln i)) (dec (G i))
def zk_by (a _k : Nat) : Bool := a == 128
set_option maxRecDepth 20000 in
theorem zr_laid_by {I I' : Nat → Nat → Int32} {L : Nat → Nat → Option Nat} {stop : Nat → Bool} {p q : Nat} {F : Nat → Nat} (hf : zf zk_by I I') (h : zr_laid I L stop p q m ln F) : zr_laid I' L stop p q m ln F := by
  obtain ⟨h1, h2, h3, h4, h5, h6, h7⟩ := h
  exact ⟨⟨(hf 112 30 rfl).trans h1.1, h1.2.1, fun i hi => ⟨(hf 125 i rfl).trans (h1.2.2 i hi).1, (h1.2.2 i hi).2⟩⟩, h2, h3, h4, h5, fun i j h8 h9 => (hf 126 _ rfl).trans (h6 i j h8 h9), fun i hi => ⟨(hf 127 i rfl).trans (h7 i hi).1, (h7 i hi).2⟩⟩
set_option maxRecDepth 20000 in
/-- row 0: at the end only -/
theorem wy_row0 {L : Nat → Nat → Option Nat} {q s : Nat} : zy_min (wy L q 0 s) (dec (if s = q then 0 else 100000000)) := by
  by_cases h : s = q
  · subst h; rw [if_pos rfl]; exact wy_to 0
  · rw [if_neg h]
    exact ⟨fun c hc => absurd hc.1 h, fun v hv => by unfold dec at hv; rw [if_neg (by omega)] at hv; cases hv⟩
end
