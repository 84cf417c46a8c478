/-- one step of a division by a polynomial whose highest coefficient is 1 -/
theorem dv_step {A B Q R : PS} {lo t : Nat} (hB : ∀ j, lo < j → B j = 0) (hB1 : B lo = 1) (hA : A = ps_add (ps_mul Q B) R) (hR : ∀ j, t + 1 + lo ≤ j → R j = 0) :
    A = ps_add (ps_mul (ps_add Q (mono (R (t + lo)) t)) B) (ps_sub R (ps_mul (mono (R (t + lo)) t) B)) ∧ (∀ j, t + lo ≤ j → ps_sub R (ps_mul (mono (R (t + lo)) t) B) j = 0) ∧ ∀ j, ps_sub R (ps_mul (mono (R (t + lo)) t) B) j = if t ≤ j ∧ j < t + (lo + 1) then R j - R (t + lo) * B (j - t) else R j := by
  refine ⟨?_, fun j hj => ?_, fun j => ?_⟩
  · rw [hA]
    generalize mono _ t = x
    letI := ps_ring
    show Q * B + R = (Q + x) * B + (R - x * B)
    grind
  · simp only [ps_sub]
    rw [mono_mul, if_neg (by omega)]
    rcases Nat.lt_or_ge (t + lo) j with q | q
    · rw [hR j (by omega), hB (j - t) (by omega)]; grind
    · rw [show j = t + lo by omega, show t + lo - t = lo by omega, hB1]; grind
  · simp only [ps_sub]
    rw [mono_mul]
    by_cases h : j < t
    · rw [if_pos h, if_neg (by omega)]; grind
    · rw [if_neg h]
      by_cases h2 : j < t + (lo + 1)
      · rw [if_pos ⟨by omega, h2⟩]
      · rw [if_neg (by omega), hB (j - t) (by omega)]; grind
theorem dv_top {A B Q R : PS} {lo k : Nat} (hlo : lo < k) (hB : ∀ j, lo < j → B j = 0) (hB1 : B lo = 1) (hA : A = ps_add (ps_mul Q B) R) (hR : ∀ j, lo ≤ j → R j = 0) (hQ : ∀ s, k - lo ≤ s → Q s = 0) (hk : A (k - 1) ≠ 0) : Q (k - lo - 1) ≠ 0 := by
  intro q
  apply hk
  have tp := (ps_top (m := lo) (g := B) hB (n := k - lo - 1) (f := Q) (fun j hj => hQ j (by omega))).1
  rw [show k - lo - 1 + lo = k - 1 by omega, q] at tp
  rw [hA]
  show ps_m (k - 1) Q B + R (k - 1) = 0
  rw [tp, hR (k - 1) (by omega)]
  grind
