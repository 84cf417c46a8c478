/-! one FORM put into another: nothing cancels, the heights multiply -/
/-- f_0 q^h + f_1 p q^(h-1) + .. + f_h p^h -/
def hom : Nat → PS → PS → PS → PS
  | 0, f, _, _ => ps_C (f 0)
  | h + 1, f, p, q => ps_add (ps_mul (ps_C (f 0)) (ps_pow q (h + 1))) (ps_mul p (hom h (ps_sh f) p q))
theorem hom_pol {p q : PS} (hp : pol p) (hq : pol q) : ∀ (h : Nat) (f : PS), pol (hom h f p q) := by
  intro h
  induction h with
  | zero => intro f; exact pol_C _
  | succ h ih => intro f; exact pol_add (pol_mul (pol_C _) (pol_pow hq (h + 1))) (pol_mul hp (ih _))
theorem hom_add {p q : PS} : ∀ (h : Nat) (f g : PS), hom h (ps_add f g) p q = ps_add (hom h f p q) (hom h g p q) := by
  intro h
  induction h with
  | zero => intro f g; exact ps_C_add _ _
  | succ h ih =>
    intro f g
    simp only [hom]
    rw [show ps_sh (ps_add f g) = ps_add (ps_sh f) (ps_sh g) from rfl, ih, show ps_add f g 0 = f 0 + g 0 from rfl, ps_C_add]
    generalize ps_C (f 0) = a
    generalize ps_C (g 0) = b
    generalize ps_pow q (h + 1) = c
    generalize hom h (ps_sh f) p q = d
    generalize hom h (ps_sh g) p q = e
    letI := ps_ring
    show (a + b) * c + p * (d + e) = a * c + p * d + (b * c + p * e)
    grind
theorem ps_C_mul (a b : FF) : ps_C (a * b) = ps_mul (ps_C a) (ps_C b) := by
  funext n
  simp only [ps_mul, ps_mC]
  by_cases h : n = 0
  · simp [ps_C, h]
  · simp [ps_C, h] <;> grind
theorem hom_sc {p q : PS} {c : FF} : ∀ (h : Nat) (f : PS), hom h (fun i => c * f i) p q = ps_mul (ps_C c) (hom h f p q) := by
  intro h
  induction h with
  | zero => intro f; exact ps_C_mul _ _
  | succ h ih =>
    intro f
    simp only [hom]
    rw [show ps_sh (fun i => c * f i) = (fun i => c * ps_sh f i) from rfl, ih, ps_C_mul]
    generalize ps_C (f 0) = a
    generalize ps_C c = b
    generalize ps_pow q (h + 1) = x
    generalize hom h (ps_sh f) p q = d
    letI := ps_ring
    show b * a * x + p * (b * d) = b * (a * x + p * d)
    grind
theorem hom_up {p q : PS} : ∀ (h : Nat) (f : PS), f (h + 1) = 0 → hom (h + 1) f p q = ps_mul q (hom h f p q) := by
  intro h
  induction h with
  | zero =>
    intro f hf
    simp only [hom, ps_pow]
    rw [show ps_sh f 0 = 0 from hf]
    generalize ps_C (f 0) = a
    letI := ps_ring
    show a * (1 * q) + p * 0 = q * a
    grind
  | succ h ih =>
    intro f hf
    rw [hom, ih (ps_sh f) hf]
    rw [show hom (h + 1) f p q = ps_add (ps_mul (ps_C (f 0)) (ps_pow q (h + 1))) (ps_mul p (hom h (ps_sh f) p q)) from rfl]
    rw [show ps_pow q (h + 1 + 1) = ps_mul (ps_pow q (h + 1)) q from rfl]
    generalize ps_C (f 0) = a
    generalize ps_pow q (h + 1) = c
    generalize hom h (ps_sh f) p q = d
    letI := ps_ring
    show a * (c * q) + p * (q * d) = q * (a * c + p * d)
    grind
theorem hom_ups {p q : PS} {h : Nat} {f : PS} (hf : ∀ i, h < i → f i = 0) : ∀ m : Nat, hom (h + m) f p q = ps_mul (ps_pow q m) (hom h f p q) := by
  intro m
  induction m with
  | zero =>
    rw [Nat.add_zero]
    generalize hom h f p q = a
    letI := ps_ring
    show a = 1 * a
    grind
  | succ m ih =>
    rw [show h + (m + 1) = (h + m) + 1 by omega, hom_up _ _ (hf _ (by omega)), ih, show ps_pow q (m + 1) = ps_mul (ps_pow q m) q from rfl]
    generalize hom h f p q = a
    generalize ps_pow q m = b
    letI := ps_ring
    show q * (b * a) = b * q * a
    grind
theorem hom_one {p q : PS} (h : Nat) : hom h (ps_C 1) p q = ps_pow q h := by
  have e := hom_ups (p := p) (q := q) (h := 0) (f := ps_C 1) (fun i hi => by simp [ps_C, show i ≠ 0 by omega]) h
  rw [Nat.zero_add] at e
  rw [e]
  simp only [hom]
  rw [show ps_C 1 0 = 1 from rfl]
  generalize ps_pow q h = b
  letI := ps_ring
  show b * 1 = b
  grind
/-- the same of a product -/
theorem hom_mul {p q g : PS} {k : Nat} (hg : ∀ i, k < i → g i = 0) : ∀ (h : Nat) (f : PS), (∀ i, h < i → f i = 0) → hom (h + k) (ps_mul f g) p q = ps_mul (hom h f p q) (hom k g p q) := by
  intro h
  induction h with
  | zero =>
    intro f hf
    have e : ps_mul f g = fun i => f 0 * g i := by
      have e0 : f = ps_C (f 0) := by
        funext i
        by_cases h : i = 0
        · subst h; simp [ps_C]
        · rw [hf i (by omega)]; simp [ps_C, h]
      funext i
      show ps_m i f g = _
      rw [e0, ps_mC]
      simp [ps_C]
    rw [e, hom_sc, Nat.zero_add]
    rfl
  | succ h ih =>
    intro f hf
    have ih1 := ih (ps_sh f) (fun i hi => hf (i + 1) (by omega))
    have s1 : hom (h + 1 + k) (ps_mul f g) p q = ps_add (hom (h + 1 + k) (fun i => f 0 * g i) p q) (ps_mul p (hom (h + k) (ps_mul (ps_sh f) g) p q)) := by
      rw [show h + 1 + k = (h + k) + 1 by omega]
      simp only [hom]
      rw [ps_sh_mul, hom_add]
      rw [show ps_mul f g 0 = f 0 * g 0 from rfl, show ps_sh (fun i => f 0 * g i) = (fun i => f 0 * ps_sh g i) from rfl]
      generalize ps_mul (ps_C (f 0 * g 0)) (ps_pow q (h + k + 1)) = a
      generalize hom (h + k) (fun i => f 0 * ps_sh g i) p q = b
      generalize hom (h + k) (ps_mul (ps_sh f) g) p q = c
      letI := ps_ring
      show a + p * (b + c) = a + p * b + p * c
      grind
    rw [s1, ih1, hom_sc, show h + 1 + k = k + (h + 1) by omega, hom_ups hg (h + 1)]
    rw [show hom (h + 1) f p q = ps_add (ps_mul (ps_C (f 0)) (ps_pow q (h + 1))) (ps_mul p (hom h (ps_sh f) p q)) from rfl]
    generalize ps_C (f 0) = a
    generalize ps_pow q (h + 1) = b
    generalize hom k g p q = c
    generalize hom h (ps_sh f) p q = d
    letI := ps_ring
    show a * (b * c) + p * (d * c) = (a * b + p * d) * c
    grind
/-- modulo q only the highest part is left -/
theorem hom_mod {p q : PS} (hp : pol p) (hq : pol q) : ∀ (h : Nat) (f : PS), ∃ s : PS, pol s ∧ hom h f p q = ps_add (ps_mul (ps_C (f h)) (ps_pow p h)) (ps_mul q s) := by
  intro h
  induction h with
  | zero =>
    intro f
    refine ⟨ps_C 0, pol_C 0, ?_⟩
    simp only [hom, ps_pow]
    generalize ps_C (f 0) = a
    letI := ps_ring
    show a = a * 1 + q * 0
    grind
  | succ h ih =>
    intro f
    obtain ⟨s, ps, e⟩ := ih (ps_sh f)
    refine ⟨ps_add (ps_mul (ps_C (f 0)) (ps_pow q h)) (ps_mul p s), pol_add (pol_mul (pol_C _) (pol_pow hq h)) (pol_mul hp ps), ?_⟩
    simp only [hom, e, ps_pow]
    rw [show ps_sh f h = f (h + 1) from rfl]
    generalize ps_C (f 0) = a
    generalize ps_C (f (h + 1)) = b
    generalize ps_pow q h = c
    generalize ps_pow p h = d
    letI := ps_ring
    show a * (c * q) + p * (b * d + q * s) = b * (d * p) + q * (a * c + p * s)
    grind
theorem cop_sc {a b : PS} {c : FF} (hc : c ≠ 0) (h : cop a b) : cop a (ps_mul (ps_C c) b) := by
  obtain ⟨u, v, hu, hv, e⟩ := h
  refine ⟨u, ps_mul (ps_C (ff_inv c)) v, hu, pol_mul (pol_C _) hv, ?_⟩
  have e9 : ps_mul (ps_C (ff_inv c)) (ps_C c) = ps_C 1 := by
    rw [← ps_C_mul]
    congr 1
    have := ff_inv_mul hc
    grind
  letI := ps_ring
  have e' : u * a + v * b = 1 := e
  have e9' : ps_C (ff_inv c) * ps_C c = (1 : PS) := e9
  show u * a + ps_C (ff_inv c) * v * (ps_C c * b) = 1
  grind
theorem cop_ad {a b s : PS} (hs : pol s) (h : cop a b) : cop a (ps_add b (ps_mul a s)) := by
  obtain ⟨u, v, hu, hv, e⟩ := h
  refine ⟨ps_sub u (ps_mul v s), v, pol_sub hu (pol_mul hv hs), hv, ?_⟩
  letI := ps_ring
  have e' : u * a + v * b = 1 := e
  show (u - v * s) * a + v * (b + a * s) = 1
  grind
/-- if a power of q is spanned, and the first has nothing in common with q -/
theorem cop_via {q a b x y : PS} {m : Nat} (ha : pol a) (px : pol x) (py : pol y) (h : cop q a) (hq : pol q) (e : ps_pow q m = ps_add (ps_mul x a) (ps_mul y b)) : cop a b := by
  obtain ⟨u, v, hu, hv, e1⟩ := cop_sy (cop_pow ha hq (cop_sy h) m)
  refine ⟨ps_add (ps_mul u x) v, ps_mul u y, pol_add (pol_mul hu px) hv, pol_mul hu py, ?_⟩
  letI := ps_ring
  have e1' : u * ps_pow q m + v * a = 1 := e1
  have e' : ps_pow q m = x * a + y * b := e
  show (u * x + v) * a + u * y * b = 1
  grind
/-- NOTHING CANCELS -/
theorem hom_cop {n d p q : PS} {h : Nat} (pn : pol n) (pd : pol d) (hn : ∀ i, h < i → n i = 0) (hd : ∀ i, h < i → d i = 0) (hh : n h ≠ 0 ∨ d h ≠ 0) (c1 : cop n d) (pp : pol p) (pq : pol q) (c2 : cop p q) : cop (hom h n p q) (hom h d p q) := by
  obtain ⟨u, v, ⟨mu, hu⟩, ⟨mv, hv⟩, e⟩ := c1
  have e1 : ps_pow q (mu + mv + h) = ps_add (ps_mul (hom (mu + mv) u p q) (hom h n p q)) (ps_mul (hom (mu + mv) v p q) (hom h d p q)) := by
    rw [← hom_mul hn (mu + mv) u (fun i hi => hu i (by omega)), ← hom_mul hd (mu + mv) v (fun i hi => hv i (by omega)), ← hom_add, e, hom_one]
  rcases hh with hh | hh
  · obtain ⟨s, ps, es⟩ := hom_mod pp pq h n
    refine cop_via (q := q) (hom_pol pp pq h n) (hom_pol pp pq _ u) (hom_pol pp pq _ v) ?_ pq e1
    rw [es]
    exact cop_ad ps (cop_sc hh (cop_pow pq pp (cop_sy c2) h))
  · obtain ⟨s, ps, es⟩ := hom_mod pp pq h d
    refine cop_sy (cop_via (q := q) (hom_pol pp pq h d) (hom_pol pp pq (mu + mv) v) (hom_pol pp pq (mu + mv) u) ?_ pq (m := mu + mv + h) ?_)
    · rw [es]
      exact cop_ad ps (cop_sc hh (cop_pow pq pp (cop_sy c2) h))
    · rw [e1]
      generalize ps_mul (hom (mu + mv) u p q) (hom h n p q) = a
      generalize ps_mul (hom (mu + mv) v p q) (hom h d p q) = b
      letI := ps_ring
      show a + b = b + a
      grind
/-- the highest coefficient of a power -/
theorem pow_top {q : PS} {k : Nat} (hq : ∀ i, k < i → q i = 0) : ∀ h : Nat, (∀ i, h * k < i → ps_pow q h i = 0) ∧ ps_C (ps_pow q h (h * k)) = ps_pow (ps_C (q k)) h := by
  intro h
  induction h with
  | zero =>
    refine ⟨fun i hi => ?_, ?_⟩
    · simp [ps_pow, ps_C, show i ≠ 0 by omega]
    · rw [Nat.zero_mul]; rfl
  | succ h ih =>
    obtain ⟨t1, t2⟩ := ps_top (m := k) (g := q) hq (n := h * k) (f := ps_pow q h) ih.1
    rw [show (h + 1) * k = h * k + k from Nat.succ_mul h k]
    refine ⟨fun i hi => t2 i hi, ?_⟩
    show ps_C (ps_m (h * k + k) (ps_pow q h) q) = ps_mul (ps_pow (ps_C (q k)) h) (ps_C (q k))
    rw [t1, ps_C_mul, ih.2]
theorem hom_top {p q : PS} {k : Nat} (hp : ∀ i, k < i → p i = 0) (hq : ∀ i, k < i → q i = 0) : ∀ (h : Nat) (f : PS), (∀ i, h * k < i → hom h f p q i = 0) ∧ ps_C (hom h f p q (h * k)) = hom h f (ps_C (p k)) (ps_C (q k)) := by
  intro h
  induction h with
  | zero =>
    intro f
    refine ⟨fun i hi => ?_, ?_⟩
    · simp [hom, ps_C, show i ≠ 0 by omega]
    · rw [Nat.zero_mul]; rfl
  | succ h ih =>
    intro f
    obtain ⟨i1, i2⟩ := ih (ps_sh f)
    obtain ⟨t1, t2⟩ := ps_top (m := h * k) (g := hom h (ps_sh f) p q) i1 (n := k) (f := p) hp
    obtain ⟨w1, w2⟩ := pow_top hq (h + 1)
    have hk : (h + 1) * k = k + h * k := by rw [Nat.succ_mul, Nat.add_comm]
    refine ⟨fun i hi => ?_, ?_⟩
    · show ps_m i (ps_C (f 0)) (ps_pow q (h + 1)) + ps_m i p (hom h (ps_sh f) p q) = 0
      rw [ps_mC, w1 i hi, t2 i (by omega)]
      grind
    · show ps_C (ps_m ((h + 1) * k) (ps_C (f 0)) (ps_pow q (h + 1)) + ps_m ((h + 1) * k) p (hom h (ps_sh f) p q)) = _
      rw [ps_mC, ps_C_add, ps_C_mul, w2, hk, t1, ps_C_mul, i2]
      rfl
/-- THE HEIGHTS MULTIPLY -/
theorem hom_height {n d p q : PS} {h k : Nat} (pn : pol n) (pd : pol d) (hn : ∀ i, h < i → n i = 0) (hd : ∀ i, h < i → d i = 0) (hh : n h ≠ 0 ∨ d h ≠ 0) (c1 : cop n d) (hp : ∀ i, k < i → p i = 0) (hq : ∀ i, k < i → q i = 0) (hk : p k ≠ 0 ∨ q k ≠ 0) : hom h n p q (h * k) ≠ 0 ∨ hom h d p q (h * k) ≠ 0 := by
  have c2 : cop (ps_C (p k)) (ps_C (q k)) := by
    rcases hk with hk | hk
    · refine ⟨ps_C (ff_inv (p k)), ps_C 0, pol_C _, pol_C _, ?_⟩
      rw [← ps_C_mul, ← ps_C_mul, ← ps_C_add]
      congr 1
      have := ff_inv_mul hk
      grind
    · refine ⟨ps_C 0, ps_C (ff_inv (q k)), pol_C _, pol_C _, ?_⟩
      rw [← ps_C_mul, ← ps_C_mul, ← ps_C_add]
      congr 1
      have := ff_inv_mul hk
      grind
  obtain ⟨u, v, -, -, e⟩ := hom_cop pn pd hn hd hh c1 (pol_C _) (pol_C _) c2
  rw [← (hom_top hp hq h n).2, ← (hom_top hp hq h d).2] at e
  by_cases h1 : hom h n p q (h * k) = 0
  · by_cases h2 : hom h d p q (h * k) = 0
    · exfalso
      rw [h1, h2] at e
      have e0 := congrFun e 0
      have z : ∀ f : PS, ps_mul f (ps_C 0) 0 = 0 := fun f => (ps_m_cm (f := f)).trans (ps_m0 (fun i => by simp [ps_C]))
      rw [show ps_add (ps_mul u (ps_C 0)) (ps_mul v (ps_C 0)) 0 = ps_mul u (ps_C 0) 0 + ps_mul v (ps_C 0) 0 from rfl, z, z] at e0
      revert e0
      decide +kernel
    · exact Or.inr h2
  · exact Or.inl h1
