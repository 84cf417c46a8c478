/-! the worker in the world: its stack of FORMs -/
def zwk (E : zE) (M : zM) (k : Nat) (xs : List (PS × PS)) : Prop :=
  ∃ ff : Nat → Option Nat, M k = some (.inr (8, [.ref (k + 1), .ref (k + 16), .int (nI xs.length)])) ∧ M (k + 16) = some (.inl (E.2.1 3, 16, .inr (.inr (.inr (.inr ff))))) ∧ xs.length ≤ 16 ∧ (∀ i, i < 16 → ff i = some (k + 17 + 5 * i)) ∧ (∃ a b A B, zsh E M (k + 1) a b A B) ∧ (∀ (i : Nat) x, xs[i]? = some x → ∃ kn kd, zf E M (k + 17 + 5 * i) kn kd x.1 x.2) ∧ ∀ i, i < 16 → ∃ kn kd N D, zf E M (k + 17 + 5 * i) kn kd N D
theorem zwk_oR {E : zE} {M M' : zM} {lo hi k : Nat} {xs : List (PS × PS)} (ho : zoutR M M' lo hi) (H : zwk E M k xs) (hne : k + 97 ≤ lo ∨ hi ≤ k) : zwk E M' k xs := by
  obtain ⟨ff, h0, h1, hl, hff, ⟨a, b, A, B, hs⟩, hfm, hal⟩ := H
  refine ⟨ff, (ho k (by omega)).trans h0, (ho (k + 16) (by omega)).trans h1, hl, hff, ⟨a, b, A, B, zsh_oR ho hs (by omega)⟩, fun i x hx => ?_, fun i hi => ?_⟩
  · obtain ⟨kn, kd, hz⟩ := hfm i x hx
    have := (List.getElem?_eq_some_iff.mp hx).1
    exact ⟨kn, kd, zf_oR ho hz (by omega)⟩
  · obtain ⟨kn, kd, N, D, hz⟩ := hal i hi
    exact ⟨kn, kd, N, D, zf_oR ho hz (by omega)⟩
/-- a new top -/
theorem zwk_mk {E : zE} {M M' : zM} {k kn kd : Nat} {N D : PS} {xs ys : List (PS × PS)} (H : zwk E M k xs) (hy : ∀ i : Nat, i < ys.length → xs[i]? = ys[i]?) (hl : ys.length < 16) (hz : zf E M' (k + 17 + 5 * ys.length) kn kd N D) (hs : ∃ a b A B, zsh E M' (k + 1) a b A B) (h0 : M' k = some (.inr (8, [.ref (k + 1), .ref (k + 16), .int (nI (ys.length + 1))]))) (ho : ∀ x, x ≠ k → (x < k + 1 ∨ k + 16 ≤ x) → (x < k + 17 + 5 * ys.length + 1 ∨ k + 17 + 5 * ys.length + 5 ≤ x) → M' x = M x) : zwk E M' k (ys ++ [(N, D)]) := by
  obtain ⟨ff, g0, g1, gl, hff, gs, hfm, hal⟩ := H
  have kf : ∀ i : Nat, i < 16 → i ≠ ys.length → ∀ {a b : Nat} {A B : PS}, zf E M (k + 17 + 5 * i) a b A B → zf E M' (k + 17 + 5 * i) a b A B := fun i hi hne a b A B q => ⟨(ho _ (by omega) (by omega) (by omega)).trans q.1, zp_kept q.2.1 (ho _ (by omega) (by omega) (by omega)) (ho _ (by omega) (by omega) (by omega)), zp_kept q.2.2 (ho _ (by omega) (by omega) (by omega)) (ho _ (by omega) (by omega) (by omega))⟩
  refine ⟨ff, by rw [List.length_append]; exact h0, (ho _ (by omega) (by omega) (by omega)).trans g1, by simp; omega, hff, hs, fun i x hx => ?_, fun i hi => ?_⟩
  · rcases ap_get hx with ⟨q1, q2⟩ | ⟨q1, q2⟩
    · obtain ⟨a1, a2, a3⟩ := hfm i x (by rw [hy i q2]; exact q1)
      exact ⟨a1, a2, kf i (by omega) (by omega) a3⟩
    · rw [q1, ← q2]; exact ⟨_, _, hz⟩
  · by_cases q : i = ys.length
    · rw [q]; exact ⟨_, _, _, _, hz⟩
    · obtain ⟨a1, a2, a3, a4, a5⟩ := hal i hi
      exact ⟨a1, a2, a3, a4, kf i hi q a5⟩
theorem zp_pos {E : zE} {M : zM} {a n k i : Nat} {P : PS} (h : zp E M a n k P) (hi : P i ≠ 0) : 1 ≤ k := by
  rcases Nat.eq_zero_or_pos k with q | q
  · exact absurd ((zp_pol h).1 i (by omega)) hi
  · exact q
theorem nI_modf {v : Nat} (h : v < 2 ^ 31) : nI v - nI v / 10007 * 10007 = fI (Fin.ofNat 10007 v) := nI_mod h
