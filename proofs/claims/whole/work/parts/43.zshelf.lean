/-! the shelf in the world: the labels' FORMs, their shape numbers, the names -/
def zsf (E : zE) (M : zM) (h : Nat) (fs : List (PS × PS)) (ss : List Nat) (nb : Nat → Nat) (sc : Nat) : Prop :=
  ∃ (ff : Nat → Option Nat) (sf nf : Nat → Int32), M h = some (.inr (6, [.ref (h + 1), .ref (h + 2), .ref (h + 3), .int (nI fs.length), .int (nI sc)])) ∧ M (h + 1) = some (.inl (E.2.1 3, 40, .inr (.inr (.inr (.inr ff))))) ∧ M (h + 2) = some (.inl (E.2.1 0, 40, .inl sf)) ∧ M (h + 3) = some (.inl (E.2.1 0, 3, .inl nf)) ∧
    (fs.length ≤ 40 ∧ ss.length = fs.length ∧ sc ≤ fs.length) ∧ (∀ i, i < 40 → ff i = some (h + 4 + 5 * i)) ∧ (∀ (i : Nat) s, ss[i]? = some s → sf i = nI s ∧ s ≤ sc) ∧ (∀ i, i < 3 → nf i = nI (nb i) ∧ nb i ≤ fs.length) ∧ (∀ (i : Nat) x, fs[i]? = some x → ∃ kn kd, zf E M (h + 4 + 5 * i) kn kd x.1 x.2) ∧ ∀ i, i < 40 → ∃ kn kd N D, zf E M (h + 4 + 5 * i) kn kd N D
theorem zsf_oR {E : zE} {M M' : zM} {lo hi h : Nat} {fs : List (PS × PS)} {ss : List Nat} {nb : Nat → Nat} {sc : Nat} (ho : zoutR M M' lo hi) (H : zsf E M h fs ss nb sc) (hne : h + 204 ≤ lo ∨ hi ≤ h) : zsf E M' h fs ss nb sc := by
  obtain ⟨ff, sf, nf, h0, h1, h2, h3, hl, hff, hsf, hnf, hfm, hal⟩ := H
  refine ⟨ff, sf, nf, (ho h (by omega)).trans h0, (ho (h + 1) (by omega)).trans h1, (ho (h + 2) (by omega)).trans h2, (ho (h + 3) (by omega)).trans h3, hl, hff, hsf, hnf, fun i x hx => ?_, fun i hi => ?_⟩
  · obtain ⟨kn, kd, hz⟩ := hfm i x hx
    have := (List.getElem?_eq_some_iff.mp hx).1
    exact ⟨kn, kd, zf_oR ho hz (by omega)⟩
  · obtain ⟨kn, kd, N, D, hz⟩ := hal i hi
    exact ⟨kn, kd, N, D, zf_oR ho hz (by omega)⟩
/-- which label's FORM it is, and the shape number that it has -/
def shN (fs : List (PS × PS)) (ss : List Nat) (sc : Nat) (x : PS × PS) (v sc' : Nat) : Prop := (∃ i : Nat, fs[i]? = some x ∧ (∀ j : Nat, j < i → fs[j]? ≠ some x) ∧ ss[i]? = some v ∧ sc' = sc) ∨ ((∀ j : Nat, fs[j]? ≠ some x) ∧ v = sc + 1 ∧ sc' = sc + 1)
