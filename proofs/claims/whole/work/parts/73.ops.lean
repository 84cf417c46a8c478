/-! the operations as the reference works them out -/
theorem hts_ex {x : PS × PS} (h : isform x.1 x.2) : ∃ a, hts x a := by
  obtain ⟨pn, -, -, k, hk, -⟩ := h
  rcases pol_dg pn with z | ⟨j, hj⟩
  · exact ⟨k, fun i _ => z i, hk.2, Or.inr hk.1⟩
  · rcases Nat.lt_or_ge k j with q | q
    · exact ⟨j, hj.2, fun i hi => hk.2 i (by omega), Or.inl hj.1⟩
    · exact ⟨k, fun i hi => hj.2 i (by omega), hk.2, Or.inr hk.1⟩
theorem hts_big {x : PS × PS} {a : Nat} (h : hts x a) : bigF x ↔ 12 < a := by
  constructor
  · rintro (⟨i, hi, e⟩ | ⟨i, hi, e⟩)
    · rcases Nat.lt_or_ge a i with q | q
      · exact absurd (h.1 i q) e
      · omega
    · rcases Nat.lt_or_ge a i with q | q
      · exact absurd (h.2.1 i q) e
      · omega
  · intro ha
    rcases h.2.2 with e | e
    · exact Or.inl ⟨a, ha, e⟩
    · exact Or.inr ⟨a, ha, e⟩
theorem setl_at {N D : PS} {x : PS × PS} {i : Nat} (hD : D i ≠ 0) (h : formof N D x.1 x.2) : setl N D = pif (bigF x) (.inl (-6)) (.inr x) := by
  unfold setl
  rw [fOf_eq hD h]
theorem setl_form {x : PS × PS} (h : isform x.1 x.2) : setl x.1 x.2 = pif (bigF x) (.inl (-6)) (.inr x) := by
  obtain ⟨i, hi⟩ := isf_ne h
  exact setl_at hi ⟨h, rfl⟩
theorem setl_cg {N D N' D' : PS} {i j : Nat} (pN : pol N) (pD : pol D) (hD : D i ≠ 0) (hD' : D' j ≠ 0) (e : ps_mul N D' = ps_mul N' D) : setl N D = setl N' D' := by
  obtain ⟨n, d, hf⟩ := form_ex pN pD hD
  have hf' : formof N' D' n d := by
    refine ⟨hf.1, ps_can (a := D) hD ?_⟩
    have h2 := hf.2
    letI := ps_ring
    have e' : N * D' = N' * D := e
    have h2' : N * d = n * D := h2
    show D * (N' * d) = D * (n * D')
    grind
  rw [setl_at (x := (n, d)) hD hf, setl_at (x := (n, d)) hD' hf']
theorem pif_c {α : Type} {c c' : Prop} {a b : α} (h : c ↔ c') : pif c a b = pif c' a b := by rw [propext h]
theorem pow_mono {d : PS} {k : Nat} (h : dg d k) (h1 : d k = 1) : ∀ t : Nat, dg (ps_pow d t) (t * k) ∧ ps_pow d t (t * k) = 1 := by
  intro t
  induction t with
  | zero =>
    rw [Nat.zero_mul]
    exact ⟨⟨show (1 : FF) ≠ 0 by decide, fun i hi => by simp [ps_pow, ps_C, show i ≠ 0 by omega]⟩, rfl⟩
  | succ t ih =>
    obtain ⟨a, b⟩ := dg_mul ih.1 h
    rw [show (t + 1) * k = t * k + k from Nat.succ_mul t k]
    refine ⟨a, ?_⟩
    show ps_mul (ps_pow d t) d (t * k + k) = 1
    rw [b, ih.2, h1]; decide
theorem pow_form {n d : PS} (h : isform n d) (t : Nat) : isform (ps_pow n t) (ps_pow d t) := by
  obtain ⟨pn, pd, hc, k, hk, hk1⟩ := h
  exact ⟨pol_pow pn t, pol_pow pd t, cop_pow2 pn pd hc t t, t * k, (pow_mono hk hk1 t).1, (pow_mono hk hk1 t).2⟩
theorem pow_hts {n d : PS} {a : Nat} (h : hts (n, d) a) (t : Nat) : hts (ps_pow n t, ps_pow d t) (t * a) := by
  obtain ⟨h1, h2, h3⟩ := h
  obtain ⟨a1, a2⟩ := pow_top h1 t
  obtain ⟨b1, b2⟩ := pow_top h2 t
  have key : ∀ (x : PS), x a ≠ 0 → ps_C (ps_pow x t (t * a)) = ps_pow (ps_C (x a)) t → ps_pow x t (t * a) ≠ 0 := by
    intro x hx e q
    obtain ⟨i, hi⟩ := pow_ne (pol_C (x a)) ⟨0, by simpa [ps_C] using hx⟩ t
    rw [← e, q] at hi
    exact hi (by simp [ps_C])
  refine ⟨a1, b1, ?_⟩
  rcases h3 with h3 | h3
  · exact Or.inl (key _ h3 a2)
  · exact Or.inr (key _ h3 b2)
theorem mul_pow (a b : PS) : ∀ t : Nat, ps_pow (ps_mul a b) t = ps_mul (ps_pow a t) (ps_pow b t) := by
  intro t
  induction t with
  | zero =>
    letI := ps_ring
    show (1 : PS) = 1 * 1
    grind
  | succ t ih =>
    show ps_mul (ps_pow (ps_mul a b) t) (ps_mul a b) = ps_mul (ps_mul (ps_pow a t) a) (ps_mul (ps_pow b t) b)
    rw [ih]
    generalize ps_pow a t = x
    generalize ps_pow b t = y
    letI := ps_ring
    show (x * y) * (a * b) = (x * a) * (y * b)
    grind
theorem pow_add (a : PS) (s : Nat) : ∀ t : Nat, ps_pow a (s + t) = ps_mul (ps_pow a s) (ps_pow a t) := by
  intro t
  induction t with
  | zero => exact ps_mul1 _
  | succ t ih =>
    show ps_mul (ps_pow a (s + t)) a = ps_mul (ps_pow a s) (ps_mul (ps_pow a t) a)
    rw [ih]
    generalize ps_pow a s = x
    generalize ps_pow a t = y
    letI := ps_ring
    show (x * y) * a = x * (y * a)
    grind
/-- a power by products -/
noncomputable def pwI (op : PS × PS → Res) : Nat → Res
  | 0 => .inr (ps_C 1, ps_C 1)
  | k + 1 => match pwI op k with
    | .inl t => .inl t
    | .inr x => op x
theorem pwI_g {op : PS × PS → Res} {y : PS × PS} {a : Nat} (hy : isform y.1 y.2) (hh : hts y a) (hop : ∀ i, op (ps_pow y.1 i, ps_pow y.2 i) = setl (ps_pow y.1 (i + 1)) (ps_pow y.2 (i + 1))) : ∀ k, pwI op k = pif (12 < k * a) (.inl (-6)) (.inr (ps_pow y.1 k, ps_pow y.2 k)) := by
  intro k
  induction k with
  | zero => rw [pif_f (by omega)]; rfl
  | succ k ih =>
    simp only [pwI]
    rw [ih]
    have hk : (k + 1) * a = k * a + a := Nat.succ_mul k a
    by_cases h : 12 < k * a
    · rw [pif_t h, pif_t (by omega)]
    · rw [pif_f h]
      simp only
      rw [hop k, setl_form (x := (ps_pow y.1 (k + 1), ps_pow y.2 (k + 1))) (pow_form hy (k + 1))]
      exact pif_c (hts_big (pow_hts (n := y.1) (d := y.2) hh (k + 1)))
theorem pwI_P {l : PS × PS} (hl : isform l.1 l.2) (k : Nat) : pwI (fun x => oMul x l) k = oPowP k l := by
  obtain ⟨a, ha⟩ := hts_ex hl
  rw [pwI_g hl ha (fun i => rfl) k]
  unfold oPowP
  rw [hgt_eq ha]
  by_cases h : 12 < k * a
  · rw [pif_t h, pif_t h]
  · rw [pif_f h, pif_f h, setl_form (x := (ps_pow l.1 k, ps_pow l.2 k)) (pow_form hl k), pif_f (fun q => h ((hts_big (pow_hts (n := l.1) (d := l.2) ha k)).mp q))]
theorem pwI_N {l : PS × PS} (hl : isform l.1 l.2) (h0 : ¬ ∀ i, l.1 i = 0) (k : Nat) : pwI (fun x => oDiv x l) k = oPowN k l := by
  obtain ⟨a, ha⟩ := hts_ex hl
  obtain ⟨pn, pd, hc, m, hm, hm1⟩ := id hl
  obtain ⟨j, hj⟩ : ∃ j, dg l.1 j := by
    rcases pol_dg pn with z | h
    · exact absurd z h0
    · exact h
  have hi := ff_inv_mul hj.1
  have hcc : ff_inv (l.1 j) * l.1 j = 1 := by rw [ff_cm]; exact hi
  have hcn : ff_inv (l.1 j) ≠ 0 := fun q => by rw [q] at hcc; exact absurd hcc (by grind)
  have f1 : formof l.2 l.1 (ps_mul (ps_C (ff_inv (l.1 j))) l.2) (ps_mul (ps_C (ff_inv (l.1 j))) l.1) := formof_sc (l := ps_C 1) hcc (ps_mul1 _) (ps_mul1 _) pd pn (cop_sy hc) hj rfl
  have hy : hts (ps_mul (ps_C (ff_inv (l.1 j))) l.2, ps_mul (ps_C (ff_inv (l.1 j))) l.1) a := by
    obtain ⟨a1, a2, a3⟩ := ha
    have e : ∀ (f : PS) i, ps_mul (ps_C (ff_inv (l.1 j))) f i = ff_inv (l.1 j) * f i := fun f i => ps_mC
    refine ⟨fun i hi => ?_, fun i hi => ?_, ?_⟩
    · show ps_mul _ l.2 i = 0
      rw [e, a2 i hi]; grind
    · show ps_mul _ l.1 i = 0
      rw [e, a1 i hi]; grind
    · show ps_mul _ l.2 a ≠ 0 ∨ ps_mul _ l.1 a ≠ 0
      rw [e, e]
      rcases a3 with q | q
      · exact Or.inr (ff_mul_ne hcn q)
      · exact Or.inl (ff_mul_ne hcn q)
  revert f1 hy
  generalize hc0 : ps_C (ff_inv (l.1 j)) = c
  intro f1 hy
  have hy1 : isform (ps_mul c l.2) (ps_mul c l.1) := f1.1
  obtain ⟨i1, hi1⟩ := isf_ne hy1
  rw [pwI_g (y := (ps_mul c l.2, ps_mul c l.1)) hy1 hy (fun i => ?_) k]
  · unfold oPowN
    rw [pif_f h0, hgt_eq ha]
    by_cases h : 12 < k * a
    · rw [pif_t h, pif_t h]
    · rw [pif_f h, pif_f h]
      obtain ⟨i2, hi2⟩ := pow_ne pn ⟨j, hj.1⟩ k
      rw [setl_at (x := (ps_pow (ps_mul c l.2) k, ps_pow (ps_mul c l.1) k)) hi2 ⟨pow_form hy1 k, ?_⟩, pif_f (fun q => h ((hts_big (pow_hts hy k)).mp q))]
      show ps_mul (ps_pow l.2 k) (ps_pow (ps_mul c l.1) k) = ps_mul (ps_pow (ps_mul c l.2) k) (ps_pow l.1 k)
      rw [mul_pow, mul_pow]
      generalize ps_pow l.2 k = x
      generalize ps_pow l.1 k = y
      generalize ps_pow c k = z
      letI := ps_ring
      show x * (z * y) = (z * x) * y
      grind
  · show oDiv (ps_pow (ps_mul c l.2) i, ps_pow (ps_mul c l.1) i) l = setl (ps_pow (ps_mul c l.2) (i + 1)) (ps_pow (ps_mul c l.1) (i + 1))
    unfold oDiv
    rw [pif_f h0]
    obtain ⟨i2, hi2⟩ := mul_ne (pol_pow hy1.2.1 i) pn (pow_ne hy1.2.1 ⟨i1, hi1⟩ i) ⟨j, hj.1⟩
    obtain ⟨i3, hi3⟩ := pow_ne hy1.2.1 ⟨i1, hi1⟩ (i + 1)
    refine setl_cg (pol_mul (pol_pow hy1.1 i) pd) (pol_mul (pol_pow hy1.2.1 i) pn) hi2 hi3 ?_
    show ps_mul (ps_mul (ps_pow (ps_mul c l.2) i) l.2) (ps_mul (ps_pow (ps_mul c l.1) i) (ps_mul c l.1)) = ps_mul (ps_mul (ps_pow (ps_mul c l.2) i) (ps_mul c l.2)) (ps_mul (ps_pow (ps_mul c l.1) i) l.1)
    generalize ps_pow (ps_mul c l.2) i = x
    generalize ps_pow (ps_mul c l.1) i = y
    generalize l.2 = u
    generalize l.1 = v
    letI := ps_ring
    show (x * u) * (y * (c * v)) = (x * (c * u)) * (y * v)
    grind
theorem neg_form {l : PS × PS} (hl : isform l.1 l.2) (hb : ¬ bigF l) : isform (ps_mul (ps_C 10006) l.1) l.2 ∧ oNeg l = .inr (ps_mul (ps_C 10006) l.1, l.2) := by
  have h1 : isform (ps_mul (ps_C 10006) l.1) l.2 := by
    obtain ⟨pn, pd, hc, hk⟩ := hl
    exact ⟨pol_mul (pol_C _) pn, pd, cop_sy (cop_sc (by decide) (cop_sy hc)), hk⟩
  refine ⟨h1, ?_⟩
  unfold oNeg
  have h2 := setl_form (x := (ps_mul (ps_C 10006) l.1, l.2)) h1
  simp only at h2
  rw [h2, pif_f]
  rintro (⟨i, hi, e⟩ | ⟨i, hi, e⟩)
  · refine e ?_
    show ps_m i (ps_C 10006) l.1 = 0
    have z : l.1 i = 0 := Classical.byContradiction (fun q => hb (Or.inl ⟨i, hi, q⟩))
    rw [ps_mC, z]; grind
  · exact hb (Or.inr ⟨i, hi, e⟩)
/-! Horner's way with FORMs -/
theorem cop_hom {p q F : PS} {k : Nat} (hg : isform p q) (hF : F k ≠ 0) : cop q (hom k F p q) := by
  obtain ⟨pp, pq, hc, -⟩ := hg
  obtain ⟨s, hs, e⟩ := hom_mod pp pq k F
  rw [e]
  exact cop_ad hs (cop_sc hF (cop_pow pq pp (cop_sy hc) k))
theorem hn_mul {p q F : PS} {k b : Nat} (hg : isform p q) (hF : F k ≠ 0) (hp : ∀ i, b < i → p i = 0) (hq : ∀ i, b < i → q i = 0) (hb : (k + 1) * b ≤ 12) : isform (ps_mul (hom k F p q) p) (ps_pow q (k + 1)) ∧ oMul (hom k F p q, ps_pow q k) (p, q) = .inr (ps_mul (hom k F p q) p, ps_pow q (k + 1)) := by
  obtain ⟨pp, pq, hc, m, hm, hm1⟩ := id hg
  have h1 : isform (ps_mul (hom k F p q) p) (ps_pow q (k + 1)) := ⟨pol_mul (hom_pol pp pq k F) pp, pol_pow pq _, cop_pow (pol_mul (hom_pol pp pq k F) pp) pq (cop_sy (cop_mul pq (hom_pol pp pq k F) pp (cop_hom hg hF) (cop_sy hc))) (k + 1), _, (pow_mono hm hm1 (k + 1)).1, (pow_mono hm hm1 (k + 1)).2⟩
  refine ⟨h1, ?_⟩
  have h2 := setl_form (x := (ps_mul (hom k F p q) p, ps_pow q (k + 1))) h1
  show setl (ps_mul (hom k F p q) p) (ps_pow q (k + 1)) = _
  simp only at h2
  have hk : (k + 1) * b = k * b + b := Nat.succ_mul k b
  rw [h2, pif_f]
  rintro (⟨i, hi, e⟩ | ⟨i, hi, e⟩)
  · exact e ((ps_top (m := b) (g := p) hp (n := k * b) (f := hom k F p q) (hom_top hp hq k F).1).2 i (by omega))
  · exact e ((pow_top hq (k + 1)).1 i (by omega))
theorem hn_add {p q F : PS} {k b : Nat} {c : FF} (hg : isform p q) (hF : F (k + 1) ≠ 0) (hp : ∀ i, b < i → p i = 0) (hq : ∀ i, b < i → q i = 0) (hb : (k + 1) * b ≤ 12) (hc : F 0 = c) : isform (hom (k + 1) F p q) (ps_pow q (k + 1)) ∧ oAdd 1 (ps_mul (hom k (ps_sh F) p q) p, ps_pow q (k + 1)) (ps_C c, ps_C 1) = .inr (hom (k + 1) F p q, ps_pow q (k + 1)) := by
  obtain ⟨pp, pq, -, m, hm, hm1⟩ := id hg
  have h1 : isform (hom (k + 1) F p q) (ps_pow q (k + 1)) := ⟨hom_pol pp pq _ F, pol_pow pq _, cop_pow (hom_pol pp pq _ F) pq (cop_sy (cop_hom hg hF)) (k + 1), _, (pow_mono hm hm1 (k + 1)).1, (pow_mono hm hm1 (k + 1)).2⟩
  refine ⟨h1, ?_⟩
  have h2 := setl_form (x := (hom (k + 1) F p q, ps_pow q (k + 1))) h1
  simp only at h2
  have e1 : ps_add (ps_mul (ps_mul (hom k (ps_sh F) p q) p) (ps_C 1)) (ps_mul (ps_C 1) (ps_mul (ps_C c) (ps_pow q (k + 1)))) = hom (k + 1) F p q := by
    rw [hom, hc]
    generalize hom k (ps_sh F) p q = x
    generalize ps_pow q (k + 1) = y
    generalize ps_C c = z
    letI := ps_ring
    show (x * p) * 1 + 1 * (z * y) = z * y + p * x
    grind
  show setl (ps_add (ps_mul (ps_mul (hom k (ps_sh F) p q) p) (ps_C 1)) (ps_mul (ps_C 1) (ps_mul (ps_C c) (ps_pow q (k + 1))))) (ps_mul (ps_pow q (k + 1)) (ps_C 1)) = _
  rw [e1, ← ps_mul1, h2, pif_f]
  rintro (⟨i, hi, e⟩ | ⟨i, hi, e⟩)
  · exact e ((hom_top hp hq (k + 1) F).1 i (by omega))
  · exact e ((pow_top hq (k + 1)).1 i (by omega))
theorem C_small (c : FF) : ¬ bigF (ps_C c, ps_C 1) := by
  rintro (⟨i, hi, e⟩ | ⟨i, hi, e⟩)
  · exact e (by simp [ps_C, show i ≠ 0 by omega])
  · exact e (by simp [ps_C, show i ≠ 0 by omega])
theorem setl_0 {N D : PS} {i : Nat} (hD : D i ≠ 0) (h : ∀ i, N i = 0) : setl N D = .inr (ps_C 0, ps_C 1) := setl_ok (x := (ps_C 0, ps_C 1)) hD (formof_0 h) (C_small 0)
theorem hn_mul0 {g : PS × PS} (hg : isform g.1 g.2) : oMul (ps_C 0, ps_C 1) g = .inr (ps_C 0, ps_C 1) := by
  obtain ⟨i, hi⟩ := isf_ne hg
  refine setl_0 (i := i) ?_ (fun j => ?_)
  · show ps_m i (ps_C 1) g.2 ≠ 0
    rw [ps_mC]
    intro q
    exact hi (by grind)
  · show ps_m j (ps_C 0) g.1 = 0
    rw [ps_mC]; grind
theorem hn_add0 (c : FF) : oAdd 1 (ps_C 0, ps_C 1) (ps_C c, ps_C 1) = .inr (ps_C c, ps_C 1) := by
  have e1 : ps_add (ps_mul (ps_C 0) (ps_C 1)) (ps_mul (ps_C 1) (ps_mul (ps_C c) (ps_C 1))) = ps_C c := by
    generalize ps_C c = x
    letI := ps_ring
    show (0 : PS) * 1 + 1 * (x * 1) = x
    grind
  show setl (ps_add (ps_mul (ps_C 0) (ps_C 1)) (ps_mul (ps_C 1) (ps_mul (ps_C c) (ps_C 1)))) (ps_mul (ps_C 1) (ps_C 1)) = _
  rw [e1, ← ps_mul1, setl_form (x := (ps_C c, ps_C 1)) (isf_C c), pif_f (C_small c)]
/-- a polynomial at a FORM -/
noncomputable def putv (P : PS) (k : Nat) (g : PS × PS) : PS × PS := if k = 0 then (ps_C 0, ps_C 1) else (hom (k - 1) P g.1 g.2, ps_pow g.2 (k - 1))
theorem comp_put {l g : PS × PS} {a b kn kd : Nat} (hl : isform l.1 l.2) (hg : isform g.1 g.2) (ha : hts l a) (hb : hts g b) (hab : a * b ≤ 12) (cn : isC l.1 kn) (cd : isC l.2 kd) : oComp l g = oDiv (putv l.1 kn g) (putv l.2 kd g) := by
  obtain ⟨pn, pd, -, x, hx, hx1⟩ := id hl
  obtain ⟨pp, pq, -, y, hy, hy1⟩ := id hg
  have ekd : kd = x + 1 := isC_un cd ⟨fun i hi => hx.2 i (by omega), fun m hm => by rw [show m = x by omega]; exact hx.1⟩
  subst ekd
  have hxa : x ≤ a := by
    rcases Nat.lt_or_ge a x with q | q
    · exact absurd (ha.2.1 x q) hx.1
    · exact q
  have e2 : hom a l.2 g.1 g.2 = ps_mul (ps_pow g.2 (a - x)) (hom x l.2 g.1 g.2) := by
    have := hom_ups (p := g.1) (q := g.2) hx.2 (a - x)
    rw [show x + (a - x) = a by omega] at this
    exact this
  have hqn := pow_ne pq ⟨y, hy.1⟩
  unfold oComp oDiv
  rw [hgt_eq ha, hgt_eq hb, pif_f (by omega)]
  have eY : putv l.2 (x + 1) g = (hom x l.2 g.1 g.2, ps_pow g.2 x) := if_neg (by omega)
  rw [eY]
  simp only
  by_cases hz : ∀ i, hom x l.2 g.1 g.2 i = 0
  · rw [pif_t hz, pif_t]
    rw [e2, show hom x l.2 g.1 g.2 = ps_0 from funext hz, ps_mul0r]
    exact fun _ => rfl
  · have hz2 := nz_of hz
    obtain ⟨i1, hi1⟩ := mul_ne (pol_pow pq (a - x)) (hom_pol pp pq x l.2) (hqn _) hz2
    rw [← e2] at hi1
    rw [pif_f hz, pif_f (fun q => hi1 (q i1))]
    by_cases hk : kn = 0
    · have z0 : ∀ i, l.1 i = 0 := fun i => cn.1 i (by omega)
      have z1 : ∀ i, hom a l.1 g.1 g.2 i = 0 := by
        have e : hom a l.1 g.1 g.2 = ps_mul (ps_C 0) (hom a l.1 g.1 g.2) := by
          rw [← hom_sc]
          congr 1
          funext i
          rw [z0 i]; grind
        intro i
        rw [e]
        show ps_m i (ps_C 0) _ = 0
        rw [ps_mC]; grind
      have eX : putv l.1 kn g = (ps_C 0, ps_C 1) := if_pos hk
      obtain ⟨i2, hi2⟩ := mul_ne (pol_C 1) (hom_pol pp pq x l.2) ⟨0, by simp [ps_C]⟩ hz2
      rw [eX, setl_0 hi1 z1, setl_0 hi2]
      intro i
      show ps_m i (ps_C 0) _ = 0
      rw [ps_mC]; grind
    · obtain ⟨t, rfl⟩ : ∃ t, kn = t + 1 := ⟨kn - 1, by omega⟩
      have eX : putv l.1 (t + 1) g = (hom t l.1 g.1 g.2, ps_pow g.2 t) := if_neg (by omega)
      rw [eX]
      simp only
      have hta : t ≤ a := by
        rcases Nat.lt_or_ge a t with q | q
        · exact absurd (ha.1 t q) (cn.2 t rfl)
        · exact q
      have e1 : hom a l.1 g.1 g.2 = ps_mul (ps_pow g.2 (a - t)) (hom t l.1 g.1 g.2) := by
        have := hom_ups (p := g.1) (q := g.2) (h := t) (f := l.1) (fun i hi => cn.1 i (by omega)) (a - t)
        rw [show t + (a - t) = a by omega] at this
        exact this
      obtain ⟨i2, hi2⟩ := mul_ne (pol_pow pq t) (hom_pol pp pq x l.2) (hqn _) hz2
      refine setl_cg (hom_pol pp pq a l.1) (hom_pol pp pq a l.2) hi1 hi2 ?_
      rw [e1, e2]
      have f1 := pow_add g.2 (a - t) t
      have f2 := pow_add g.2 (a - x) x
      rw [show a - t + t = a by omega] at f1
      rw [show a - x + x = a by omega, f1] at f2
      revert f2
      generalize ps_pow g.2 (a - t) = u1
      generalize ps_pow g.2 (a - x) = u2
      generalize ps_pow g.2 t = u3
      generalize ps_pow g.2 x = u4
      generalize hom t l.1 g.1 g.2 = w1
      generalize hom x l.2 g.1 g.2 = w2
      intro f2
      letI := ps_ring
      have f2' : u1 * u3 = u2 * u4 := f2
      show (u1 * w1) * (u3 * w2) = (w1 * u4) * (u2 * w2)
      grind
