/-- a division that goes up without a rest -/
theorem dv_exact {N o G Q R : PS} {lo : Nat} (po : pol o) (pq : pol Q) (hG : ∀ j, lo < j → G j = 0) (hG1 : G lo = 1) (h1 : N = ps_mul o G) (h2 : N = ps_add (ps_mul Q G) R) (hR : ∀ j, lo ≤ j → R j = 0) : Q = o ∧ ∀ j, R j = 0 := by
  have e : ps_mul (ps_sub o Q) G = R := by
    rw [h1] at h2
    letI := ps_ring
    have h2' : o * G = Q * G + R := h2
    show (o - Q) * G = R
    grind
  have hd : dg G lo := ⟨by rw [hG1]; decide, hG⟩
  rcases pol_dg (pol_sub po pq) with z | ⟨j, hj⟩
  · refine ⟨?_, fun j => ?_⟩
    · funext i
      have := z i
      simp only [ps_sub] at this
      grind
    · rw [← e]
      exact ps_m0 z
  · exfalso
    have t := (dg_mul hj hd).1.1
    rw [e] at t
    exact t (hR _ (by omega))
theorem tI_len {n m : Nat} (hn : n < 2 ^ 30) (hm : m < 2 ^ 30) : tI n ≤ nI m ↔ n ≤ m + 1 := by
  rw [Int32.le_iff_toInt_le, tI_int hn, nI_toInt (by omega)]; omega
theorem ps_mul1 (f : PS) : f = ps_mul f (ps_C 1) := by
  letI := ps_ring
  show f = f * 1
  grind
theorem formof_0 {N D : PS} (h : ∀ i, N i = 0) : formof N D (ps_C 0) (ps_C 1) := by
  have z : ps_C 0 = ps_0 := by
    funext i
    simp [ps_C, ps_0]
  refine ⟨⟨pol_C 0, pol_C 1, ⟨ps_C 0, ps_C 1, pol_C 0, pol_C 1, ?_⟩, 0, ⟨by decide, fun i hi => by simp [ps_C, show i ≠ 0 by omega]⟩, rfl⟩, ?_⟩
  · letI := ps_ring
    show (0 : PS) * 0 + 1 * 1 = 1
    grind
  · have e : N = ps_0 := by
      funext i
      exact h i
    rw [z, e, ps_mul0l, ps_mul0l]
