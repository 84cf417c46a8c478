/-! what an operation of the worker comes to -/
def bigF (x : PS × PS) : Prop := (∃ i, 12 < i ∧ x.1 i ≠ 0) ∨ ∃ i, 12 < i ∧ x.2 i ≠ 0
theorem zf_small {E : zE} {M : zM} {q kn kd : Nat} {N D : PS} (h : zf E M q kn kd N D) : ¬ bigF (N, D) := by
  have h1 := zp_lt h.2.1
  have h2 := zp_lt h.2.2
  rintro (⟨i, hi, e⟩ | ⟨i, hi, e⟩)
  · exact e ((zp_pol h.2.1).1 i (by omega))
  · exact e ((zp_pol h.2.2).1 i (by omega))
theorem isf_ne {n d : PS} (h : isform n d) : ∃ i, d i ≠ 0 := by
  obtain ⟨-, -, -, i, hi, -⟩ := h
  exact ⟨i, hi.1⟩
theorem mul_ne {a b : PS} (pa : pol a) (pb : pol b) (ha : ∃ i, a i ≠ 0) (hb : ∃ i, b i ≠ 0) : ∃ i, ps_mul a b i ≠ 0 := by
  obtain ⟨i, hi⟩ := ha
  obtain ⟨j, hj⟩ := hb
  rcases pol_dg pa with z | ⟨x, hx⟩
  · exact absurd (z i) hi
  · rcases pol_dg pb with z | ⟨y, hy⟩
    · exact absurd (z j) hj
    · exact ⟨_, (dg_mul hx hy).1.1⟩
theorem pow_ne {a : PS} (pa : pol a) (ha : ∃ i, a i ≠ 0) : ∀ n, ∃ i, ps_pow a n i ≠ 0 := by
  intro n
  induction n with
  | zero => exact ⟨0, by simp [ps_pow, ps_C]⟩
  | succ n ih => exact mul_ne (pol_pow pa n) pa ih ha
/-- the FORM of N / D, unless it is BIG -/
def setlR (E : zE) (M' : zM) (k : Nat) (v : Option Value) (ys : List (PS × PS)) (N D : PS) : Prop := ∃ x : PS × PS, formof N D x.1 x.2 ∧ ((bigF x ∧ some (.int (-6)) = v ∧ ∃ xs', zwk E M' k xs') ∨ (¬ bigF x ∧ some (.int 0) = v ∧ zwk E M' k (ys ++ [x])))
/-- the height of a FORM -/
def hts (x : PS × PS) (a : Nat) : Prop := (∀ i, a < i → x.1 i = 0) ∧ (∀ i, a < i → x.2 i = 0) ∧ (x.1 a ≠ 0 ∨ x.2 a ≠ 0)
theorem zf_hts {E : zE} {M : zM} {q kn kd : Nat} {x : PS × PS} (h : zf E M q kn kd x.1 x.2) (hd : 1 ≤ kd) : hts x (max kn kd - 1) := by
  refine ⟨fun i hi => (zp_pol h.2.1).1 i (by omega), fun i hi => (zp_pol h.2.2).1 i (by omega), ?_⟩
  rcases Nat.lt_or_ge kn kd with q | q
  · exact Or.inr ((zp_pol h.2.2).2 _ (by omega))
  · exact Or.inl ((zp_pol h.2.1).2 _ (by omega))
theorem zp_zero {E : zE} {M : zM} {a n k : Nat} {P : PS} (h : zp E M a n k P) (hk : k = 0) : ∀ i, P i = 0 := fun i => (zp_pol h).1 i (by omega)
theorem zp_nz {E : zE} {M : zM} {a n k : Nat} {P : PS} (h : zp E M a n k P) (hk : k ≠ 0) : ∃ i, P i ≠ 0 := ⟨k - 1, (zp_pol h).2 _ (by omega)⟩
