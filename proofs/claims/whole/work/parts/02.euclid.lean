/-! division with a rest, Euclid's way, FORMs of products, powers and quotients -/
def ps_0 : PS := fun _ => 0
/-- t x^i -/
def mono (t : FF) (i : Nat) : PS := fun n => if n = i then t else 0
theorem pol_mono (t : FF) (i : Nat) : pol (mono t i) := ⟨i + 1, fun n hn => by simp [mono, show n ≠ i by omega]⟩
theorem mono_mul {t : FF} {B : PS} : ∀ {i n : Nat}, ps_mul (mono t i) B n = if n < i then 0 else t * B (n - i) := by
  intro i
  induction i with
  | zero =>
    intro n
    rw [show mono t 0 = ps_C t from rfl]
    simp only [ps_mul, ps_mC, Nat.not_lt_zero, if_false, Nat.sub_zero]
  | succ i ih =>
    intro n
    cases n with
    | zero =>
      simp only [ps_mul, ps_m, mono, Nat.zero_lt_succ, if_true]
      rw [if_neg (by omega)]
      grind
    | succ n =>
      have e : ps_sh (mono t (i + 1)) = mono t i := by
        funext k
        simp only [ps_sh, mono, Nat.add_right_cancel_iff]
      have h1 := ih (n := n)
      simp only [ps_mul] at h1
      simp only [ps_mul, ps_m, e, h1]
      rw [show mono t (i + 1) 0 = 0 by simp [mono]]
      by_cases h : n < i
      · rw [if_pos h, if_pos (by omega)]; grind
      · rw [if_neg h, if_neg (by omega), show n + 1 - (i + 1) = n - i by omega]; grind
theorem ps_eq_add_sub {A B : PS} : A = ps_add B (ps_sub A B) := by
  letI := ps_ring
  show A = B + (A - B)
  grind
/-- what a pair and another pair span is the same -/
def span (a b c d : PS) : Prop := ∃ u v u' v' : PS, pol u ∧ pol v ∧ pol u' ∧ pol v' ∧ a = ps_add (ps_mul u c) (ps_mul v d) ∧ b = ps_add (ps_mul u' c) (ps_mul v' d)
theorem span_rf (a b : PS) : span a b a b := by
  refine ⟨ps_C 1, ps_C 0, ps_C 0, ps_C 1, pol_C 1, pol_C 0, pol_C 0, pol_C 1, ?_, ?_⟩
  · letI := ps_ring
    show a = 1 * a + 0 * b
    grind
  · letI := ps_ring
    show b = 0 * a + 1 * b
    grind
theorem span_tr {a b c d e f : PS} (h1 : span a b c d) (h2 : span c d e f) : span a b e f := by
  obtain ⟨u, v, u', v', pu, pv, pu', pv', e1, e2⟩ := h1
  obtain ⟨x, y, x', y', px, py, px', py', e3, e4⟩ := h2
  refine ⟨ps_add (ps_mul u x) (ps_mul v x'), ps_add (ps_mul u y) (ps_mul v y'), ps_add (ps_mul u' x) (ps_mul v' x'), ps_add (ps_mul u' y) (ps_mul v' y'), pol_add (pol_mul pu px) (pol_mul pv px'), pol_add (pol_mul pu py) (pol_mul pv py'), pol_add (pol_mul pu' px) (pol_mul pv' px'), pol_add (pol_mul pu' py) (pol_mul pv' py'), ?_, ?_⟩
  · rw [e1, e3, e4]
    letI := ps_ring
    show u * (x * e + y * f) + v * (x' * e + y' * f) = (u * x + v * x') * e + (u * y + v * y') * f
    grind
  · rw [e2, e3, e4]
    letI := ps_ring
    show u' * (x * e + y * f) + v' * (x' * e + y' * f) = (u' * x + v' * x') * e + (u' * y + v' * y') * f
    grind
theorem span_sw (a b : PS) : span a b b a := by
  refine ⟨ps_C 0, ps_C 1, ps_C 1, ps_C 0, pol_C 0, pol_C 1, pol_C 1, pol_C 0, ?_, ?_⟩
  · letI := ps_ring
    show a = 0 * b + 1 * a
    grind
  · letI := ps_ring
    show b = 1 * b + 0 * a
    grind
/-- the second times a number that isn't 0 -/
theorem span_sc (a b : PS) {c c' : FF} (h : c * c' = 1) : span a (ps_mul (ps_C c) b) a b ∧ span a b a (ps_mul (ps_C c) b) := by
  have e : ps_mul (ps_C c') (ps_C c) = ps_C 1 := by
    funext n
    simp only [ps_mul, ps_mC]
    by_cases h0 : n = 0
    · simp only [ps_C, h0, if_true]; grind
    · simp only [ps_C, h0, if_false]; grind
  refine ⟨⟨ps_C 1, ps_C 0, ps_C 0, ps_C c, pol_C 1, pol_C 0, pol_C 0, pol_C c, ?_, ?_⟩, ⟨ps_C 1, ps_C 0, ps_C 0, ps_C c', pol_C 1, pol_C 0, pol_C 0, pol_C c', ?_, ?_⟩⟩
  · letI := ps_ring
    show a = 1 * a + 0 * b
    grind
  · letI := ps_ring
    show ps_C c * b = 0 * a + ps_C c * b
    grind
  · letI := ps_ring
    show a = 1 * a + 0 * (ps_C c * b)
    grind
  · letI := ps_ring
    have e' : ps_C c' * ps_C c = (1 : PS) := e
    show b = 0 * a + ps_C c' * (ps_C c * b)
    grind
/-- the rest in the first's place -/
theorem span_md {a b q r : PS} (hq : pol q) (h : a = ps_add (ps_mul q b) r) : span r b a b ∧ span a b r b := by
  refine ⟨⟨ps_C 1, ps_neg q, ps_C 0, ps_C 1, pol_C 1, pol_neg hq, pol_C 0, pol_C 1, ?_, ?_⟩, ⟨ps_C 1, q, ps_C 0, ps_C 1, pol_C 1, hq, pol_C 0, pol_C 1, ?_, ?_⟩⟩
  · rw [h]
    letI := ps_ring
    show r = 1 * (q * b + r) + (-q) * b
    grind
  · letI := ps_ring
    show b = 0 * a + 1 * b
    grind
  · rw [h]
    letI := ps_ring
    show q * b + r = 1 * r + q * b
    grind
  · letI := ps_ring
    show b = 0 * r + 1 * b
    grind
/-- the end with a number: no common divisor -/
theorem span_cop {l o u : PS} {c c' : FF} (hc : c * c' = 1) (h : span l (ps_C c) o u) : cop o u := by
  obtain ⟨x, y, x', y', -, -, px', py', -, e2⟩ := h
  have e : ps_mul (ps_C c') (ps_C c) = ps_C 1 := by
    funext n
    simp only [ps_mul, ps_mC]
    by_cases h0 : n = 0
    · simp only [ps_C, h0, if_true]; grind
    · simp only [ps_C, h0, if_false]; grind
  refine ⟨ps_mul (ps_C c') x', ps_mul (ps_C c') y', pol_mul (pol_C c') px', pol_mul (pol_C c') py', ?_⟩
  rw [← e]
  letI := ps_ring
  have e2' : ps_C c = x' * o + y' * u := e2
  show ps_C c' * x' * o + ps_C c' * y' * u = ps_C c' * ps_C c
  grind
/-- the end with 0: a common divisor, and what is left has none -/
theorem span_gcd {l o u : PS} {k : Nat} (hl : l k ≠ 0) (h1 : span l ps_0 o u) (h2 : span o u l ps_0) : ∃ o' u' : PS, pol o' ∧ pol u' ∧ o = ps_mul o' l ∧ u = ps_mul u' l ∧ cop o' u' := by
  obtain ⟨x, y, -, -, px, py, -, -, e1, -⟩ := h1
  obtain ⟨a, b, a', b', pa, pb, pa', pb', e3, e4⟩ := h2
  have z : ∀ f : PS, ps_mul f ps_0 = ps_0 := fun f => by funext n; exact (ps_m_cm (f := f)).trans (ps_m0 (fun _ => rfl))
  have z2 : ∀ f : PS, ps_add f ps_0 = f := fun f => by funext n; simp only [ps_add, ps_0]; grind
  rw [z, z2] at e3 e4
  refine ⟨a, a', pa, pa', e3, e4, x, y, px, py, ps_can hl ?_⟩
  letI := ps_ring
  have e1' : l = x * o + y * u := e1
  have e3' : o = a * l := e3
  have e4' : u = a' * l := e4
  show l * (x * a + y * a') = l * 1
  grind
/-- a quotient's FORM out of what is left behind the common divisor; the highest coefficient made 1 -/
theorem formof_sc {N D l o u : PS} {c c' : FF} {k : Nat} (hc : c * c' = 1) (hN : N = ps_mul o l) (hD : D = ps_mul u l) (po : pol o) (pu : pol u) (h : cop o u) (hk : dg u k) (hk1 : u k = c') : formof N D (ps_mul (ps_C c) o) (ps_mul (ps_C c) u) := by
  have hcc : c ≠ 0 := fun q => by rw [q] at hc; exact absurd hc (by grind)
  refine ⟨⟨pol_mul (pol_C c) po, pol_mul (pol_C c) pu, ?_, k, ⟨?_, ?_⟩, ?_⟩, ?_⟩
  · obtain ⟨x, y, px, py, e⟩ := h
    refine ⟨ps_mul (ps_C c') x, ps_mul (ps_C c') y, pol_mul (pol_C c') px, pol_mul (pol_C c') py, ?_⟩
    have e9 : ps_mul (ps_C c') (ps_C c) = ps_C 1 := by
      funext n
      simp only [ps_mul, ps_mC]
      by_cases h0 : n = 0
      · simp only [ps_C, h0, if_true]; grind
      · simp only [ps_C, h0, if_false]; grind
    letI := ps_ring
    have e' : x * o + y * u = 1 := e
    have e9' : ps_C c' * ps_C c = (1 : PS) := e9
    show ps_C c' * x * (ps_C c * o) + ps_C c' * y * (ps_C c * u) = 1
    grind
  · simp only [ps_mul, ps_mC]; exact ff_mul_ne hcc hk.1
  · intro i hi; simp only [ps_mul, ps_mC, hk.2 i hi]; grind
  · simp only [ps_mul, ps_mC, hk1]; exact hc
  · rw [hN, hD]
    letI := ps_ring
    show o * l * (ps_C c * u) = ps_C c * o * (u * l)
    grind
