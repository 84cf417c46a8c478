/-! the line and the program in the world -/
/-- the line at p: its characters' codes -/
def zln (E : zE) (M : zM) (p : Nat) (cs : List Nat) : Prop := ∃ f : Nat → Int32, M p = some (.inr (2, [.ref (p + 1), .int (nI cs.length)])) ∧ M (p + 1) = some (.inl (E.2.1 1, 32, .inl f)) ∧ cs.length ≤ 32 ∧ (∀ i c, cs[i]? = some c → f i = nI c) ∧ ∀ c ∈ cs, c < 128
theorem zln_oR {E : zE} {M M' : zM} {lo hi p : Nat} {cs : List Nat} (ho : zoutR M M' lo hi) (h : zln E M p cs) (hne : p + 2 ≤ lo ∨ hi ≤ p) : zln E M' p cs := by
  obtain ⟨f, h0, h1, h⟩ := h
  exact ⟨f, (ho p (by omega)).trans h0, (ho (p + 1) (by omega)).trans h1, h⟩
/-- the program at g: its steps, its target -/
def zpg (E : zE) (M : zM) (g : Nat) (ps : List (Int32 × Int32)) (t : Int32) : Prop := ∃ kf df : Nat → Int32, M g = some (.inr (4, [.ref (g + 1), .ref (g + 2), .int (nI ps.length), .int t])) ∧ M (g + 1) = some (.inl (E.2.1 0, 32, .inl kf)) ∧ M (g + 2) = some (.inl (E.2.1 0, 32, .inl df)) ∧ ps.length ≤ 32 ∧ ∀ i x, ps[i]? = some x → kf i = x.1 ∧ df i = x.2
theorem zpg_oR {E : zE} {M M' : zM} {lo hi g : Nat} {ps : List (Int32 × Int32)} {t : Int32} (ho : zoutR M M' lo hi) (h : zpg E M g ps t) (hne : g + 3 ≤ lo ∨ hi ≤ g) : zpg E M' g ps t := by
  obtain ⟨kf, df, h0, h1, h2, h⟩ := h
  exact ⟨kf, df, (ho g (by omega)).trans h0, (ho (g + 1) (by omega)).trans h1, (ho (g + 2) (by omega)).trans h2, h⟩
theorem ap_get {α : Type} {l : List α} {a x : α} {i : Nat} (h : (l ++ [a])[i]? = some x) : l[i]? = some x ∧ i < l.length ∨ i = l.length ∧ a = x := by
  rcases Nat.lt_or_ge i l.length with q | q
  · rw [List.getElem?_append_left q] at h
    exact Or.inl ⟨h, q⟩
  · rw [List.getElem?_append_right q] at h
    have hz : i - l.length < 1 := (List.getElem?_eq_some_iff.mp h).1
    rw [show i - l.length = 0 by omega] at h
    exact Or.inr ⟨by omega, Option.some.inj h⟩
