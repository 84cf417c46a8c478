section
/-! NUMBERS modulo 10007, and polynomials as functions (power series that end) -/
abbrev FF : Type := Fin 10007
abbrev PS : Type := Nat → FF
/-- the inverse as it is worked out: squares and products -/
def fi_loop : Nat → Nat → Nat → Nat → Nat
  | 0, _, r, _ => r
  | k + 1, q, r, s => bif Nat.beq q 0 then r else fi_loop k (q / 2) (bif Nat.beq (q % 2) 1 then r * s % 10007 else r) (s * s % 10007)
def fi (a : Nat) : Nat := fi_loop 14 10005 1 a
set_option maxRecDepth 100000 in
theorem fi_all : (List.range 10007).all (fun a => (Nat.beq a 0 || Nat.beq (a * fi a % 10007) 1) && Nat.blt (fi a) 10007) = true := by decide +kernel
theorem fi_mul {a : Nat} (h : a < 10007) (h0 : a ≠ 0) : a * fi a % 10007 = 1 := by
  have h1 := List.all_eq_true.mp fi_all a (List.mem_range.mpr h)
  simp only [Bool.and_eq_true, Bool.or_eq_true] at h1
  rcases h1.1 with h2 | h2
  · exact absurd (Nat.eq_of_beq_eq_true h2) h0
  · exact Nat.eq_of_beq_eq_true h2
theorem fi_lt {a : Nat} (h : a < 10007) : fi a < 10007 := by
  have h1 := List.all_eq_true.mp fi_all a (List.mem_range.mpr h)
  simp only [Bool.and_eq_true] at h1
  exact Nat.blt_eq.mp h1.2
def ff_inv (a : FF) : FF := Fin.ofNat 10007 (fi a.val)
theorem ff_inv_mul {a : FF} (h : a ≠ 0) : a * ff_inv a = 1 := by
  apply Fin.ext
  have h1 := fi_mul a.isLt (fun q => h (Fin.ext q))
  rw [Fin.val_mul]
  show a.val * (fi a.val % 10007) % 10007 = 1 % 10007
  rw [Nat.mul_mod, Nat.mod_mod, ← Nat.mul_mod]
  exact h1
theorem ff_dom {a b : FF} (h : a * b = 0) (ha : a ≠ 0) : b = 0 := by
  have h1 := ff_inv_mul ha
  grind
theorem ff_mul_ne {a b : FF} (ha : a ≠ 0) (hb : b ≠ 0) : a * b ≠ 0 := fun h => hb (ff_dom h ha)
def ps_sh (f : PS) : PS := fun n => f (n + 1)
def ps_m : Nat → PS → PS → FF
  | 0, f, g => f 0 * g 0
  | n + 1, f, g => f 0 * g (n + 1) + ps_m n (ps_sh f) g
def ps_mul (f g : PS) : PS := fun n => ps_m n f g
def ps_add (f g : PS) : PS := fun n => f n + g n
def ps_neg (f : PS) : PS := fun n => - f n
def ps_sub (f g : PS) : PS := fun n => f n - g n
def ps_C (c : FF) : PS := fun n => if n = 0 then c else 0
def ps_pow (f : PS) : Nat → PS
  | 0 => ps_C 1
  | n + 1 => ps_mul (ps_pow f n) f
theorem ps_m0 {g : PS} {n : Nat} : ∀ {f : PS}, (∀ i, f i = 0) → ps_m n f g = 0 := by
  induction n with
  | zero => intro f h; simp only [ps_m, h 0]; grind
  | succ n ih => intro f h; simp only [ps_m, h 0, ih (f := ps_sh f) (fun i => h (i + 1))]; grind
theorem ps_m0r {n : Nat} : ∀ {f g : PS}, (∀ i, i ≤ n → g i = 0) → ps_m n f g = 0 := by
  induction n with
  | zero => intro f g h; simp only [ps_m, h 0 (Nat.le_refl 0)]; grind
  | succ n ih => intro f g h; simp only [ps_m, h (n + 1) (Nat.le_refl _), ih (f := ps_sh f) (fun i hi => h i (by omega))]; grind
theorem ps_mC {n : Nat} {c : FF} {g : PS} : ps_m n (ps_C c) g = c * g n := by
  cases n with
  | zero => rfl
  | succ n =>
    simp only [ps_m]
    rw [ps_m0 (f := ps_sh (ps_C c)) (fun i => by simp [ps_sh, ps_C])]
    simp only [ps_C, if_true]
    grind
theorem ps_m_al {n : Nat} {g : PS} : ∀ {f f' : PS}, ps_m n (ps_add f f') g = ps_m n f g + ps_m n f' g := by
  induction n with
  | zero => intro f f'; simp only [ps_m, ps_add]; grind
  | succ n ih =>
    intro f f'
    simp only [ps_m]
    rw [show ps_sh (ps_add f f') = ps_add (ps_sh f) (ps_sh f') from rfl, ih]
    simp only [ps_add]
    grind
theorem ps_m_ar {n : Nat} {g g' : PS} : ∀ {f : PS}, ps_m n f (ps_add g g') = ps_m n f g + ps_m n f g' := by
  induction n with
  | zero => intro f; simp only [ps_m, ps_add]; grind
  | succ n ih =>
    intro f
    simp only [ps_m, ih]
    simp only [ps_add]
    grind
theorem ps_m_sl {n : Nat} {g : PS} {c : FF} : ∀ {f : PS}, ps_m n (fun i => c * f i) g = c * ps_m n f g := by
  induction n with
  | zero => intro f; simp only [ps_m]; grind
  | succ n ih =>
    intro f
    simp only [ps_m]
    rw [show ps_sh (fun i => c * f i) = (fun i => c * ps_sh f i) from rfl, ih]
    grind
theorem ps_m_last {n : Nat} {g : PS} : ∀ {f : PS}, ps_m (n + 1) f g = ps_m n f (ps_sh g) + f (n + 1) * g 0 := by
  induction n with
  | zero => intro f; rfl
  | succ n ih =>
    intro f
    rw [ps_m, ih (f := ps_sh f), ps_m]
    simp only [ps_sh]
    grind
theorem ps_m_cm {n : Nat} : ∀ {f g : PS}, ps_m n f g = ps_m n g f := by
  induction n with
  | zero => intro f g; simp only [ps_m]; grind
  | succ n ih =>
    intro f g
    rw [ps_m_last (f := g) (g := f), ps_m, ih (f := ps_sh f) (g := g)]
    grind
theorem ps_sh_mul {f g : PS} : ps_sh (ps_mul f g) = ps_add (fun k => f 0 * ps_sh g k) (ps_mul (ps_sh f) g) := rfl
theorem ps_m_as {n : Nat} {g h : PS} : ∀ {f : PS}, ps_m n (ps_mul f g) h = ps_m n f (ps_mul g h) := by
  induction n with
  | zero => intro f; simp only [ps_m, ps_mul]; grind
  | succ n ih =>
    intro f
    rw [ps_m, ps_sh_mul, ps_m_al, ps_m_sl, ih (f := ps_sh f), ps_m]
    rw [show ps_mul f g 0 = f 0 * g 0 from rfl, show ps_mul g h (n + 1) = g 0 * h (n + 1) + ps_m n (ps_sh g) h from rfl]
    grind
def ff_int (i : Int) : FF := if 0 ≤ i then Fin.ofNat 10007 i.toNat else - Fin.ofNat 10007 (-i).toNat
theorem ff_int_neg (i : Int) : ff_int (-i) = - ff_int i := by
  unfold ff_int
  by_cases h : 0 ≤ i
  · by_cases h2 : 0 ≤ -i
    · have : i = 0 := by omega
      subst this
      simp <;> grind
    · rw [if_neg h2, if_pos h, Int.neg_neg]
  · rw [if_pos (by omega), if_neg h]
    grind
theorem ff_nat_succ (a : Nat) : Fin.ofNat 10007 (a + 1) = Fin.ofNat 10007 a + 1 := by
  apply Fin.ext
  rw [Fin.val_add]
  show (a + 1) % 10007 = (a % 10007 + 1 % 10007) % 10007
  omega
theorem ps_C_add (a b : FF) : ps_C (a + b) = ps_add (ps_C a) (ps_C b) := by
  funext n
  by_cases h : n = 0
  · simp [ps_C, ps_add, h]
  · simp [ps_C, ps_add, h]
theorem ps_C_neg (a : FF) : ps_C (-a) = ps_neg (ps_C a) := by
  funext n
  by_cases h : n = 0
  · simp [ps_C, ps_neg, h]
  · simp [ps_C, ps_neg, h] <;> grind
def ps_ring : Lean.Grind.CommRing PS :=
  { add := ps_add
    mul := ps_mul
    natCast := ⟨fun n => ps_C (Fin.ofNat 10007 n)⟩
    ofNat := fun n => ⟨ps_C (Fin.ofNat 10007 n)⟩
    nsmul := ⟨fun n f => ps_mul (ps_C (Fin.ofNat 10007 n)) f⟩
    npow := ⟨ps_pow⟩
    neg := ps_neg
    sub := ps_sub
    intCast := ⟨fun i => ps_C (ff_int i)⟩
    zsmul := ⟨fun i f => ps_mul (ps_C (ff_int i)) f⟩
    add_zero := fun f => by funext n; show f n + ps_C (Fin.ofNat 10007 0) n = f n; by_cases h : n = 0 <;> simp [ps_C, h]
    add_comm := fun f g => by funext n; show f n + g n = g n + f n; grind
    add_assoc := fun f g h => by funext n; show f n + g n + h n = f n + (g n + h n); grind
    mul_assoc := fun f g h => by funext n; exact ps_m_as
    mul_one := fun f => by funext n; show ps_m n f (ps_C (Fin.ofNat 10007 1)) = f n; rw [ps_m_cm, ps_mC]; show (1 : FF) * f n = f n; grind
    one_mul := fun f => by funext n; show ps_m n (ps_C (Fin.ofNat 10007 1)) f = f n; rw [ps_mC]; show (1 : FF) * f n = f n; grind
    left_distrib := fun f g h => by funext n; exact ps_m_ar
    right_distrib := fun f g h => by funext n; exact ps_m_al
    zero_mul := fun f => by funext n; show ps_m n (ps_C (Fin.ofNat 10007 0)) f = ps_C (Fin.ofNat 10007 0) n; rw [ps_mC]; show (0 : FF) * f n = _; by_cases h : n = 0 <;> simp [ps_C, h] <;> grind
    mul_zero := fun f => by funext n; show ps_m n f (ps_C (Fin.ofNat 10007 0)) = ps_C (Fin.ofNat 10007 0) n; rw [ps_m_cm, ps_mC]; show (0 : FF) * f n = _; by_cases h : n = 0 <;> simp [ps_C, h] <;> grind
    pow_zero := fun f => rfl
    pow_succ := fun f n => rfl
    ofNat_succ := fun a => by show ps_C (Fin.ofNat 10007 (a + 1)) = ps_add (ps_C (Fin.ofNat 10007 a)) (ps_C (Fin.ofNat 10007 1)); rw [ff_nat_succ, ps_C_add]; rfl
    ofNat_eq_natCast := fun n => rfl
    nsmul_eq_natCast_mul := fun n f => rfl
    neg_add_cancel := fun f => by funext n; show - f n + f n = ps_C (Fin.ofNat 10007 0) n; by_cases h : n = 0 <;> simp [ps_C, h] <;> grind
    sub_eq_add_neg := fun f g => by funext n; show f n - g n = f n + - g n; grind
    neg_zsmul := fun i f => by funext n; show ps_m n (ps_C (ff_int (-i))) f = - ps_m n (ps_C (ff_int i)) f; rw [ps_mC, ps_mC, ff_int_neg]; grind
    zsmul_natCast_eq_nsmul := fun n f => by funext k; show ps_m k (ps_C (ff_int (n : Int))) f = ps_m k (ps_C (Fin.ofNat 10007 n)) f; rw [show ff_int (n : Int) = Fin.ofNat 10007 n by simp [ff_int]]
    intCast_ofNat := fun n => by show ps_C (ff_int (Int.ofNat n)) = ps_C (Fin.ofNat 10007 n); rw [show ff_int (Int.ofNat n) = Fin.ofNat 10007 n by simp [ff_int]]
    intCast_neg := fun i => by show ps_C (ff_int (-i)) = ps_neg (ps_C (ff_int i)); rw [ff_int_neg, ps_C_neg]
    mul_comm := fun f g => by funext n; exact ps_m_cm }
/-- f ends: it is a polynomial -/
def pol (f : PS) : Prop := ∃ n : Nat, ∀ i, n ≤ i → f i = 0
/-- the degree -/
def dg (f : PS) (n : Nat) : Prop := f n ≠ 0 ∧ ∀ i, n < i → f i = 0
theorem ps_top {m : Nat} {g : PS} (hg : ∀ j, m < j → g j = 0) : ∀ {n : Nat} {f : PS}, (∀ i, n < i → f i = 0) → ps_m (n + m) f g = f n * g m ∧ ∀ k, n + m < k → ps_m k f g = 0 := by
  intro n
  induction n with
  | zero =>
    intro f hf
    have e : f = ps_C (f 0) := by
      funext i
      by_cases h : i = 0
      · subst h; simp [ps_C]
      · rw [hf i (by omega)]; simp [ps_C, h]
    refine ⟨?_, fun k hk => ?_⟩
    · rw [e, ps_mC, Nat.zero_add]; simp [ps_C]
    · rw [e, ps_mC, hg k (by omega)]; grind
  | succ n ih =>
    intro f hf
    obtain ⟨h1, h2⟩ := ih (f := ps_sh f) (fun i hi => hf (i + 1) (by omega))
    refine ⟨?_, fun k hk => ?_⟩
    · rw [show n + 1 + m = (n + m) + 1 by omega, ps_m, h1, hg (n + m + 1) (by omega)]
      simp only [ps_sh]
      grind
    · obtain ⟨k, rfl⟩ : ∃ k', k = k' + 1 := ⟨k - 1, by omega⟩
      rw [ps_m, h2 k (by omega), hg (k + 1) (by omega)]
      grind
theorem dg_mul {f g : PS} {n m : Nat} (hf : dg f n) (hg : dg g m) : dg (ps_mul f g) (n + m) ∧ ps_mul f g (n + m) = f n * g m := by
  obtain ⟨h1, h2⟩ := ps_top hg.2 hf.2
  refine ⟨⟨?_, h2⟩, h1⟩
  show ps_m _ _ _ ≠ 0
  rw [h1]
  exact ff_mul_ne hf.1 hg.1
theorem dg_un {f : PS} {n m : Nat} (h1 : dg f n) (h2 : dg f m) : n = m := by
  rcases Nat.lt_trichotomy n m with h | h | h
  · exact absurd (h1.2 m h) h2.1
  · exact h
  · exact absurd (h2.2 n h) h1.1
theorem dg_pol {f : PS} {n : Nat} (h : dg f n) : pol f := ⟨n + 1, fun i hi => h.2 i hi⟩
theorem pol_dg {f : PS} (h : pol f) : (∀ i, f i = 0) ∨ ∃ n, dg f n := by
  obtain ⟨n, hn⟩ := h
  induction n with
  | zero => exact Or.inl (fun i => hn i (Nat.zero_le i))
  | succ n ih =>
    by_cases h0 : f n = 0
    · exact ih (fun i hi => by
        rcases Nat.lt_or_ge n i with q | q
        · exact hn i q
        · rw [show i = n by omega]; exact h0)
    · exact Or.inr ⟨n, h0, fun i hi => hn i hi⟩
theorem pol_C (c : FF) : pol (ps_C c) := ⟨1, fun i hi => by simp [ps_C, show i ≠ 0 by omega]⟩
theorem pol_add {f g : PS} (hf : pol f) (hg : pol g) : pol (ps_add f g) := by
  obtain ⟨n, hn⟩ := hf
  obtain ⟨m, hm⟩ := hg
  exact ⟨n + m, fun i hi => by simp only [ps_add, hn i (by omega), hm i (by omega)]; grind⟩
theorem pol_neg {f : PS} (hf : pol f) : pol (ps_neg f) := by
  obtain ⟨n, hn⟩ := hf
  exact ⟨n, fun i hi => by simp only [ps_neg, hn i hi]; grind⟩
theorem pol_sub {f g : PS} (hf : pol f) (hg : pol g) : pol (ps_sub f g) := by
  obtain ⟨n, hn⟩ := hf
  obtain ⟨m, hm⟩ := hg
  exact ⟨n + m, fun i hi => by simp only [ps_sub, hn i (by omega), hm i (by omega)]; grind⟩
theorem pol_mul {f g : PS} (hf : pol f) (hg : pol g) : pol (ps_mul f g) := by
  obtain ⟨n, hn⟩ := hf
  obtain ⟨m, hm⟩ := hg
  obtain ⟨-, h⟩ := ps_top (m := m) (g := g) (fun j hj => hm j (by omega)) (n := n) (f := f) (fun i hi => hn i (by omega))
  exact ⟨n + m + 1, fun i hi => h i hi⟩
theorem pol_pow {f : PS} (hf : pol f) (n : Nat) : pol (ps_pow f n) := by
  induction n with
  | zero => exact pol_C 1
  | succ n ih => exact pol_mul ih hf
/-- no divisors of zero -/
theorem ps_dom : ∀ (i : Nat) {a d : PS}, a i ≠ 0 → (∀ n, ps_mul a d n = 0) → ∀ n, d n = 0 := by
  intro i
  induction i with
  | zero =>
    intro a d ha h n
    induction n using Nat.strongRecOn with
    | _ n ih =>
      cases n with
      | zero => exact ff_dom (h 0) ha
      | succ n =>
        have h1 := h (n + 1)
        simp only [ps_mul, ps_m] at h1
        rw [ps_m0r (f := ps_sh a) (g := d) (n := n) (fun j hj => ih j (by omega))] at h1
        exact ff_dom (a := a 0) (by grind) ha
  | succ i ih =>
    intro a d ha h n
    by_cases h0 : a 0 = 0
    · exact ih (a := ps_sh a) (d := d) ha (fun k => by
        have h1 := h (k + 1)
        simp only [ps_mul, ps_m, h0] at h1
        show ps_m k (ps_sh a) d = 0
        grind) n
    · induction n using Nat.strongRecOn with
      | _ n ih =>
        cases n with
        | zero => exact ff_dom (h 0) h0
        | succ n =>
          have h1 := h (n + 1)
          simp only [ps_mul, ps_m] at h1
          rw [ps_m0r (f := ps_sh a) (g := d) (n := n) (fun j hj => ih j (by omega))] at h1
          exact ff_dom (a := a 0) (by grind) h0
/-- cancelling -/
theorem ps_can {a b c : PS} {i : Nat} (ha : a i ≠ 0) (h : ps_mul a b = ps_mul a c) : b = c := by
  have h1 : ∀ n, ps_mul a (ps_sub b c) n = 0 := by
    intro n
    have e : ps_mul a (ps_sub b c) = ps_sub (ps_mul a b) (ps_mul a c) := by
      letI := ps_ring
      show a * (b - c) = a * b - a * c
      grind
    rw [e, h]
    simp only [ps_sub]
    grind
  funext n
  have h2 := ps_dom i ha h1 n
  simp only [ps_sub] at h2
  grind
/-- no common divisor, by Bezout's row -/
def cop (a b : PS) : Prop := ∃ u v : PS, pol u ∧ pol v ∧ ps_add (ps_mul u a) (ps_mul v b) = ps_C 1
theorem cop_sy {a b : PS} (h : cop a b) : cop b a := by
  obtain ⟨u, v, hu, hv, e⟩ := h
  refine ⟨v, u, hv, hu, ?_⟩
  rw [← e]
  letI := ps_ring
  show v * b + u * a = u * a + v * b
  grind
theorem cop_mul {a b c : PS} (ha : pol a) (hb : pol b) (hc : pol c) (h1 : cop a b) (h2 : cop a c) : cop a (ps_mul b c) := by
  obtain ⟨u, v, hu, hv, e1⟩ := h1
  obtain ⟨u', v', hu', hv', e2⟩ := h2
  refine ⟨ps_add (ps_mul u (ps_add (ps_mul u' a) (ps_mul v' c))) (ps_mul (ps_mul v b) u'), ps_mul v v', pol_add (pol_mul hu (pol_add (pol_mul hu' ha) (pol_mul hv' hc))) (pol_mul (pol_mul hv hb) hu'), pol_mul hv hv', ?_⟩
  letI := ps_ring
  have e1' : u * a + v * b = 1 := e1
  have e2' : u' * a + v' * c = 1 := e2
  show (u * (u' * a + v' * c) + v * b * u') * a + v * v' * (b * c) = 1
  grind
theorem cop_pow {a b : PS} (ha : pol a) (hb : pol b) (h : cop a b) (n : Nat) : cop a (ps_pow b n) := by
  induction n with
  | zero =>
    refine ⟨ps_C 0, ps_C 1, pol_C 0, pol_C 1, ?_⟩
    letI := ps_ring
    show (0 : PS) * a + 1 * 1 = 1
    grind
  | succ n ih => exact cop_mul ha (pol_pow hb n) hb ih h
theorem cop_pow2 {a b : PS} (ha : pol a) (hb : pol b) (h : cop a b) (n m : Nat) : cop (ps_pow a n) (ps_pow b m) := cop_sy (cop_pow (pol_pow hb m) ha (cop_sy (cop_pow ha hb h m)) n)
/-- a FORM -/
def isform (n d : PS) : Prop := pol n ∧ pol d ∧ cop n d ∧ ∃ k, dg d k ∧ d k = 1
/-- the FORM of a quotient -/
def formof (N D n d : PS) : Prop := isform n d ∧ ps_mul N d = ps_mul n D
theorem pol_nz {d c : PS} {k : Nat} (hk : dg (ps_mul d c) k) (hc : pol c) : ∃ j, dg c j := by
  rcases pol_dg hc with z | h
  · exact absurd ((ps_m_cm (f := d) (n := k)).trans (ps_m0 z)) hk.1
  · exact h
theorem form_un {n d n' d' : PS} (h : isform n d) (h' : isform n' d') (e : ps_mul n d' = ps_mul n' d) : n = n' ∧ d = d' := by
  obtain ⟨hn, hd, ⟨u, v, hu, hv, e1⟩, k, hk, hk1⟩ := h
  obtain ⟨hn', hd', ⟨u', v', hu', hv', e2⟩, k', hk', hk1'⟩ := h'
  have a1 : d' = ps_mul d (ps_add (ps_mul u n') (ps_mul v d')) := by
    letI := ps_ring
    have e' : n * d' = n' * d := e
    have e1' : u * n + v * d = 1 := e1
    show d' = d * (u * n' + v * d')
    grind
  have a2 : d = ps_mul d' (ps_add (ps_mul u' n) (ps_mul v' d)) := by
    letI := ps_ring
    have e' : n * d' = n' * d := e
    have e2' : u' * n' + v' * d' = 1 := e2
    show d = d' * (u' * n + v' * d)
    grind
  have p1 : pol (ps_add (ps_mul u n') (ps_mul v d')) := pol_add (pol_mul hu hn') (pol_mul hv hd')
  have p2 : pol (ps_add (ps_mul u' n) (ps_mul v' d)) := pol_add (pol_mul hu' hn) (pol_mul hv' hd)
  generalize ps_add (ps_mul u n') (ps_mul v d') = c1 at a1 p1
  generalize ps_add (ps_mul u' n) (ps_mul v' d) = c2 at a2 p2
  have hdd : d = d' := by
    obtain ⟨j, hj⟩ := pol_nz (d := d) (c := c1) (k := k') (by rw [← a1]; exact hk') p1
    obtain ⟨j2, hj2⟩ := pol_nz (d := d') (c := c2) (k := k) (by rw [← a2]; exact hk) p2
    obtain ⟨g1, g2⟩ := dg_mul hk hj
    obtain ⟨g3, -⟩ := dg_mul hk' hj2
    rw [← a1] at g1 g2
    rw [← a2] at g3
    have q1 : k + j = k' := dg_un g1 hk'
    have q2 : k' + j2 = k := dg_un g3 hk
    have hj0 : j = 0 := by omega
    subst hj0
    have hc : c1 = ps_C (c1 0) := by
      funext i
      by_cases h : i = 0
      · subst h; simp [ps_C]
      · rw [hj.2 i (by omega)]; simp [ps_C, h]
    rw [q1, hk1, hk1'] at g2
    have h1 : c1 0 = 1 := by grind
    rw [h1] at hc
    rw [a1, hc]
    letI := ps_ring
    show d = d * 1
    grind
  refine ⟨?_, hdd⟩
  subst hdd
  exact ps_can hk.1 (by
    letI := ps_ring
    have e' : n * d = n' * d := e
    show d * n = d * n'
    grind)
theorem formof_un {N D n d n' d' : PS} {k : Nat} (hD : D k ≠ 0) (h : formof N D n d) (h' : formof N D n' d') : n = n' ∧ d = d' := by
  refine form_un h.1 h'.1 (ps_can hD ?_)
  have e1 := h.2
  have e2 := h'.2
  letI := ps_ring
  have e1' : N * d = n * D := e1
  have e2' : N * d' = n' * D := e2
  show D * (n * d') = D * (n' * d)
  grind
end
section
/-! division with a rest, Euclid's way, FORMs of products, powers and quotients -/
def ps_0 : PS := fun _ => 0
/-- t x^i -/
def mono (t : FF) (i : Nat) : PS := fun n => if n = i then t else 0
theorem pol_mono (t : FF) (i : Nat) : pol (mono t i) := ⟨i + 1, fun n hn => by simp [mono, show n ≠ i by omega]⟩
theorem mono_mul {t : FF} {B : PS} : ∀ {i n : Nat}, ps_mul (mono t i) B n = if n < i then 0 else t * B (n - i) := by
  intro i
  induction i with
  | zero =>
    intro n
    rw [show mono t 0 = ps_C t from rfl]
    simp only [ps_mul, ps_mC, Nat.not_lt_zero, if_false, Nat.sub_zero]
  | succ i ih =>
    intro n
    cases n with
    | zero =>
      simp only [ps_mul, ps_m, mono, Nat.zero_lt_succ, if_true]
      rw [if_neg (by omega)]
      grind
    | succ n =>
      have e : ps_sh (mono t (i + 1)) = mono t i := by
        funext k
        simp only [ps_sh, mono, Nat.add_right_cancel_iff]
      have h1 := ih (n := n)
      simp only [ps_mul] at h1
      simp only [ps_mul, ps_m, e, h1]
      rw [show mono t (i + 1) 0 = 0 by simp [mono]]
      by_cases h : n < i
      · rw [if_pos h, if_pos (by omega)]; grind
      · rw [if_neg h, if_neg (by omega), show n + 1 - (i + 1) = n - i by omega]; grind
theorem ps_eq_add_sub {A B : PS} : A = ps_add B (ps_sub A B) := by
  letI := ps_ring
  show A = B + (A - B)
  grind
/-- what a pair and another pair span is the same -/
def span (a b c d : PS) : Prop := ∃ u v u' v' : PS, pol u ∧ pol v ∧ pol u' ∧ pol v' ∧ a = ps_add (ps_mul u c) (ps_mul v d) ∧ b = ps_add (ps_mul u' c) (ps_mul v' d)
theorem span_rf (a b : PS) : span a b a b := by
  refine ⟨ps_C 1, ps_C 0, ps_C 0, ps_C 1, pol_C 1, pol_C 0, pol_C 0, pol_C 1, ?_, ?_⟩
  · letI := ps_ring
    show a = 1 * a + 0 * b
    grind
  · letI := ps_ring
    show b = 0 * a + 1 * b
    grind
theorem span_tr {a b c d e f : PS} (h1 : span a b c d) (h2 : span c d e f) : span a b e f := by
  obtain ⟨u, v, u', v', pu, pv, pu', pv', e1, e2⟩ := h1
  obtain ⟨x, y, x', y', px, py, px', py', e3, e4⟩ := h2
  refine ⟨ps_add (ps_mul u x) (ps_mul v x'), ps_add (ps_mul u y) (ps_mul v y'), ps_add (ps_mul u' x) (ps_mul v' x'), ps_add (ps_mul u' y) (ps_mul v' y'), pol_add (pol_mul pu px) (pol_mul pv px'), pol_add (pol_mul pu py) (pol_mul pv py'), pol_add (pol_mul pu' px) (pol_mul pv' px'), pol_add (pol_mul pu' py) (pol_mul pv' py'), ?_, ?_⟩
  · rw [e1, e3, e4]
    letI := ps_ring
    show u * (x * e + y * f) + v * (x' * e + y' * f) = (u * x + v * x') * e + (u * y + v * y') * f
    grind
  · rw [e2, e3, e4]
    letI := ps_ring
    show u' * (x * e + y * f) + v' * (x' * e + y' * f) = (u' * x + v' * x') * e + (u' * y + v' * y') * f
    grind
theorem span_sw (a b : PS) : span a b b a := by
  refine ⟨ps_C 0, ps_C 1, ps_C 1, ps_C 0, pol_C 0, pol_C 1, pol_C 1, pol_C 0, ?_, ?_⟩
  · letI := ps_ring
    show a = 0 * b + 1 * a
    grind
  · letI := ps_ring
    show b = 1 * b + 0 * a
    grind
/-- the second times a number that isn't 0 -/
theorem span_sc (a b : PS) {c c' : FF} (h : c * c' = 1) : span a (ps_mul (ps_C c) b) a b ∧ span a b a (ps_mul (ps_C c) b) := by
  have e : ps_mul (ps_C c') (ps_C c) = ps_C 1 := by
    funext n
    simp only [ps_mul, ps_mC]
    by_cases h0 : n = 0
    · simp only [ps_C, h0, if_true]; grind
    · simp only [ps_C, h0, if_false]; grind
  refine ⟨⟨ps_C 1, ps_C 0, ps_C 0, ps_C c, pol_C 1, pol_C 0, pol_C 0, pol_C c, ?_, ?_⟩, ⟨ps_C 1, ps_C 0, ps_C 0, ps_C c', pol_C 1, pol_C 0, pol_C 0, pol_C c', ?_, ?_⟩⟩
  · letI := ps_ring
    show a = 1 * a + 0 * b
    grind
  · letI := ps_ring
    show ps_C c * b = 0 * a + ps_C c * b
    grind
  · letI := ps_ring
    show a = 1 * a + 0 * (ps_C c * b)
    grind
  · letI := ps_ring
    have e' : ps_C c' * ps_C c = (1 : PS) := e
    show b = 0 * a + ps_C c' * (ps_C c * b)
    grind
/-- the rest in the first's place -/
theorem span_md {a b q r : PS} (hq : pol q) (h : a = ps_add (ps_mul q b) r) : span r b a b ∧ span a b r b := by
  refine ⟨⟨ps_C 1, ps_neg q, ps_C 0, ps_C 1, pol_C 1, pol_neg hq, pol_C 0, pol_C 1, ?_, ?_⟩, ⟨ps_C 1, q, ps_C 0, ps_C 1, pol_C 1, hq, pol_C 0, pol_C 1, ?_, ?_⟩⟩
  · rw [h]
    letI := ps_ring
    show r = 1 * (q * b + r) + (-q) * b
    grind
  · letI := ps_ring
    show b = 0 * a + 1 * b
    grind
  · rw [h]
    letI := ps_ring
    show q * b + r = 1 * r + q * b
    grind
  · letI := ps_ring
    show b = 0 * r + 1 * b
    grind
/-- the end with a number: no common divisor -/
theorem span_cop {l o u : PS} {c c' : FF} (hc : c * c' = 1) (h : span l (ps_C c) o u) : cop o u := by
  obtain ⟨x, y, x', y', -, -, px', py', -, e2⟩ := h
  have e : ps_mul (ps_C c') (ps_C c) = ps_C 1 := by
    funext n
    simp only [ps_mul, ps_mC]
    by_cases h0 : n = 0
    · simp only [ps_C, h0, if_true]; grind
    · simp only [ps_C, h0, if_false]; grind
  refine ⟨ps_mul (ps_C c') x', ps_mul (ps_C c') y', pol_mul (pol_C c') px', pol_mul (pol_C c') py', ?_⟩
  rw [← e]
  letI := ps_ring
  have e2' : ps_C c = x' * o + y' * u := e2
  show ps_C c' * x' * o + ps_C c' * y' * u = ps_C c' * ps_C c
  grind
/-- the end with 0: a common divisor, and what is left has none -/
theorem span_gcd {l o u : PS} {k : Nat} (hl : l k ≠ 0) (h1 : span l ps_0 o u) (h2 : span o u l ps_0) : ∃ o' u' : PS, pol o' ∧ pol u' ∧ o = ps_mul o' l ∧ u = ps_mul u' l ∧ cop o' u' := by
  obtain ⟨x, y, -, -, px, py, -, -, e1, -⟩ := h1
  obtain ⟨a, b, a', b', pa, pb, pa', pb', e3, e4⟩ := h2
  have z : ∀ f : PS, ps_mul f ps_0 = ps_0 := fun f => by funext n; exact (ps_m_cm (f := f)).trans (ps_m0 (fun _ => rfl))
  have z2 : ∀ f : PS, ps_add f ps_0 = f := fun f => by funext n; simp only [ps_add, ps_0]; grind
  rw [z, z2] at e3 e4
  refine ⟨a, a', pa, pa', e3, e4, x, y, px, py, ps_can hl ?_⟩
  letI := ps_ring
  have e1' : l = x * o + y * u := e1
  have e3' : o = a * l := e3
  have e4' : u = a' * l := e4
  show l * (x * a + y * a') = l * 1
  grind
/-- a quotient's FORM out of what is left behind the common divisor; the highest coefficient made 1 -/
theorem formof_sc {N D l o u : PS} {c c' : FF} {k : Nat} (hc : c * c' = 1) (hN : N = ps_mul o l) (hD : D = ps_mul u l) (po : pol o) (pu : pol u) (h : cop o u) (hk : dg u k) (hk1 : u k = c') : formof N D (ps_mul (ps_C c) o) (ps_mul (ps_C c) u) := by
  have hcc : c ≠ 0 := fun q => by rw [q] at hc; exact absurd hc (by grind)
  refine ⟨⟨pol_mul (pol_C c) po, pol_mul (pol_C c) pu, ?_, k, ⟨?_, ?_⟩, ?_⟩, ?_⟩
  · obtain ⟨x, y, px, py, e⟩ := h
    refine ⟨ps_mul (ps_C c') x, ps_mul (ps_C c') y, pol_mul (pol_C c') px, pol_mul (pol_C c') py, ?_⟩
    have e9 : ps_mul (ps_C c') (ps_C c) = ps_C 1 := by
      funext n
      simp only [ps_mul, ps_mC]
      by_cases h0 : n = 0
      · simp only [ps_C, h0, if_true]; grind
      · simp only [ps_C, h0, if_false]; grind
    letI := ps_ring
    have e' : x * o + y * u = 1 := e
    have e9' : ps_C c' * ps_C c = (1 : PS) := e9
    show ps_C c' * x * (ps_C c * o) + ps_C c' * y * (ps_C c * u) = 1
    grind
  · simp only [ps_mul, ps_mC]; exact ff_mul_ne hcc hk.1
  · intro i hi; simp only [ps_mul, ps_mC, hk.2 i hi]; grind
  · simp only [ps_mul, ps_mC, hk1]; exact hc
  · rw [hN, hD]
    letI := ps_ring
    show o * l * (ps_C c * u) = ps_C c * o * (u * l)
    grind
end
section
/-! one FORM put into another: nothing cancels, the heights multiply -/
/-- f_0 q^h + f_1 p q^(h-1) + .. + f_h p^h -/
def hom : Nat → PS → PS → PS → PS
  | 0, f, _, _ => ps_C (f 0)
  | h + 1, f, p, q => ps_add (ps_mul (ps_C (f 0)) (ps_pow q (h + 1))) (ps_mul p (hom h (ps_sh f) p q))
theorem hom_pol {p q : PS} (hp : pol p) (hq : pol q) : ∀ (h : Nat) (f : PS), pol (hom h f p q) := by
  intro h
  induction h with
  | zero => intro f; exact pol_C _
  | succ h ih => intro f; exact pol_add (pol_mul (pol_C _) (pol_pow hq (h + 1))) (pol_mul hp (ih _))
theorem hom_add {p q : PS} : ∀ (h : Nat) (f g : PS), hom h (ps_add f g) p q = ps_add (hom h f p q) (hom h g p q) := by
  intro h
  induction h with
  | zero => intro f g; exact ps_C_add _ _
  | succ h ih =>
    intro f g
    simp only [hom]
    rw [show ps_sh (ps_add f g) = ps_add (ps_sh f) (ps_sh g) from rfl, ih, show ps_add f g 0 = f 0 + g 0 from rfl, ps_C_add]
    generalize ps_C (f 0) = a
    generalize ps_C (g 0) = b
    generalize ps_pow q (h + 1) = c
    generalize hom h (ps_sh f) p q = d
    generalize hom h (ps_sh g) p q = e
    letI := ps_ring
    show (a + b) * c + p * (d + e) = a * c + p * d + (b * c + p * e)
    grind
theorem ps_C_mul (a b : FF) : ps_C (a * b) = ps_mul (ps_C a) (ps_C b) := by
  funext n
  simp only [ps_mul, ps_mC]
  by_cases h : n = 0
  · simp [ps_C, h]
  · simp [ps_C, h] <;> grind
theorem hom_sc {p q : PS} {c : FF} : ∀ (h : Nat) (f : PS), hom h (fun i => c * f i) p q = ps_mul (ps_C c) (hom h f p q) := by
  intro h
  induction h with
  | zero => intro f; exact ps_C_mul _ _
  | succ h ih =>
    intro f
    simp only [hom]
    rw [show ps_sh (fun i => c * f i) = (fun i => c * ps_sh f i) from rfl, ih, ps_C_mul]
    generalize ps_C (f 0) = a
    generalize ps_C c = b
    generalize ps_pow q (h + 1) = x
    generalize hom h (ps_sh f) p q = d
    letI := ps_ring
    show b * a * x + p * (b * d) = b * (a * x + p * d)
    grind
theorem hom_up {p q : PS} : ∀ (h : Nat) (f : PS), f (h + 1) = 0 → hom (h + 1) f p q = ps_mul q (hom h f p q) := by
  intro h
  induction h with
  | zero =>
    intro f hf
    simp only [hom, ps_pow]
    rw [show ps_sh f 0 = 0 from hf]
    generalize ps_C (f 0) = a
    letI := ps_ring
    show a * (1 * q) + p * 0 = q * a
    grind
  | succ h ih =>
    intro f hf
    rw [hom, ih (ps_sh f) hf]
    rw [show hom (h + 1) f p q = ps_add (ps_mul (ps_C (f 0)) (ps_pow q (h + 1))) (ps_mul p (hom h (ps_sh f) p q)) from rfl]
    rw [show ps_pow q (h + 1 + 1) = ps_mul (ps_pow q (h + 1)) q from rfl]
    generalize ps_C (f 0) = a
    generalize ps_pow q (h + 1) = c
    generalize hom h (ps_sh f) p q = d
    letI := ps_ring
    show a * (c * q) + p * (q * d) = q * (a * c + p * d)
    grind
theorem hom_ups {p q : PS} {h : Nat} {f : PS} (hf : ∀ i, h < i → f i = 0) : ∀ m : Nat, hom (h + m) f p q = ps_mul (ps_pow q m) (hom h f p q) := by
  intro m
  induction m with
  | zero =>
    rw [Nat.add_zero]
    generalize hom h f p q = a
    letI := ps_ring
    show a = 1 * a
    grind
  | succ m ih =>
    rw [show h + (m + 1) = (h + m) + 1 by omega, hom_up _ _ (hf _ (by omega)), ih, show ps_pow q (m + 1) = ps_mul (ps_pow q m) q from rfl]
    generalize hom h f p q = a
    generalize ps_pow q m = b
    letI := ps_ring
    show q * (b * a) = b * q * a
    grind
theorem hom_one {p q : PS} (h : Nat) : hom h (ps_C 1) p q = ps_pow q h := by
  have e := hom_ups (p := p) (q := q) (h := 0) (f := ps_C 1) (fun i hi => by simp [ps_C, show i ≠ 0 by omega]) h
  rw [Nat.zero_add] at e
  rw [e]
  simp only [hom]
  rw [show ps_C 1 0 = 1 from rfl]
  generalize ps_pow q h = b
  letI := ps_ring
  show b * 1 = b
  grind
/-- the same of a product -/
theorem hom_mul {p q g : PS} {k : Nat} (hg : ∀ i, k < i → g i = 0) : ∀ (h : Nat) (f : PS), (∀ i, h < i → f i = 0) → hom (h + k) (ps_mul f g) p q = ps_mul (hom h f p q) (hom k g p q) := by
  intro h
  induction h with
  | zero =>
    intro f hf
    have e : ps_mul f g = fun i => f 0 * g i := by
      have e0 : f = ps_C (f 0) := by
        funext i
        by_cases h : i = 0
        · subst h; simp [ps_C]
        · rw [hf i (by omega)]; simp [ps_C, h]
      funext i
      show ps_m i f g = _
      rw [e0, ps_mC]
      simp [ps_C]
    rw [e, hom_sc, Nat.zero_add]
    rfl
  | succ h ih =>
    intro f hf
    have ih1 := ih (ps_sh f) (fun i hi => hf (i + 1) (by omega))
    have s1 : hom (h + 1 + k) (ps_mul f g) p q = ps_add (hom (h + 1 + k) (fun i => f 0 * g i) p q) (ps_mul p (hom (h + k) (ps_mul (ps_sh f) g) p q)) := by
      rw [show h + 1 + k = (h + k) + 1 by omega]
      simp only [hom]
      rw [ps_sh_mul, hom_add]
      rw [show ps_mul f g 0 = f 0 * g 0 from rfl, show ps_sh (fun i => f 0 * g i) = (fun i => f 0 * ps_sh g i) from rfl]
      generalize ps_mul (ps_C (f 0 * g 0)) (ps_pow q (h + k + 1)) = a
      generalize hom (h + k) (fun i => f 0 * ps_sh g i) p q = b
      generalize hom (h + k) (ps_mul (ps_sh f) g) p q = c
      letI := ps_ring
      show a + p * (b + c) = a + p * b + p * c
      grind
    rw [s1, ih1, hom_sc, show h + 1 + k = k + (h + 1) by omega, hom_ups hg (h + 1)]
    rw [show hom (h + 1) f p q = ps_add (ps_mul (ps_C (f 0)) (ps_pow q (h + 1))) (ps_mul p (hom h (ps_sh f) p q)) from rfl]
    generalize ps_C (f 0) = a
    generalize ps_pow q (h + 1) = b
    generalize hom k g p q = c
    generalize hom h (ps_sh f) p q = d
    letI := ps_ring
    show a * (b * c) + p * (d * c) = (a * b + p * d) * c
    grind
/-- modulo q only the highest part is left -/
theorem hom_mod {p q : PS} (hp : pol p) (hq : pol q) : ∀ (h : Nat) (f : PS), ∃ s : PS, pol s ∧ hom h f p q = ps_add (ps_mul (ps_C (f h)) (ps_pow p h)) (ps_mul q s) := by
  intro h
  induction h with
  | zero =>
    intro f
    refine ⟨ps_C 0, pol_C 0, ?_⟩
    simp only [hom, ps_pow]
    generalize ps_C (f 0) = a
    letI := ps_ring
    show a = a * 1 + q * 0
    grind
  | succ h ih =>
    intro f
    obtain ⟨s, ps, e⟩ := ih (ps_sh f)
    refine ⟨ps_add (ps_mul (ps_C (f 0)) (ps_pow q h)) (ps_mul p s), pol_add (pol_mul (pol_C _) (pol_pow hq h)) (pol_mul hp ps), ?_⟩
    simp only [hom, e, ps_pow]
    rw [show ps_sh f h = f (h + 1) from rfl]
    generalize ps_C (f 0) = a
    generalize ps_C (f (h + 1)) = b
    generalize ps_pow q h = c
    generalize ps_pow p h = d
    letI := ps_ring
    show a * (c * q) + p * (b * d + q * s) = b * (d * p) + q * (a * c + p * s)
    grind
theorem cop_sc {a b : PS} {c : FF} (hc : c ≠ 0) (h : cop a b) : cop a (ps_mul (ps_C c) b) := by
  obtain ⟨u, v, hu, hv, e⟩ := h
  refine ⟨u, ps_mul (ps_C (ff_inv c)) v, hu, pol_mul (pol_C _) hv, ?_⟩
  have e9 : ps_mul (ps_C (ff_inv c)) (ps_C c) = ps_C 1 := by
    rw [← ps_C_mul]
    congr 1
    have := ff_inv_mul hc
    grind
  letI := ps_ring
  have e' : u * a + v * b = 1 := e
  have e9' : ps_C (ff_inv c) * ps_C c = (1 : PS) := e9
  show u * a + ps_C (ff_inv c) * v * (ps_C c * b) = 1
  grind
theorem cop_ad {a b s : PS} (hs : pol s) (h : cop a b) : cop a (ps_add b (ps_mul a s)) := by
  obtain ⟨u, v, hu, hv, e⟩ := h
  refine ⟨ps_sub u (ps_mul v s), v, pol_sub hu (pol_mul hv hs), hv, ?_⟩
  letI := ps_ring
  have e' : u * a + v * b = 1 := e
  show (u - v * s) * a + v * (b + a * s) = 1
  grind
/-- if a power of q is spanned, and the first has nothing in common with q -/
theorem cop_via {q a b x y : PS} {m : Nat} (ha : pol a) (px : pol x) (py : pol y) (h : cop q a) (hq : pol q) (e : ps_pow q m = ps_add (ps_mul x a) (ps_mul y b)) : cop a b := by
  obtain ⟨u, v, hu, hv, e1⟩ := cop_sy (cop_pow ha hq (cop_sy h) m)
  refine ⟨ps_add (ps_mul u x) v, ps_mul u y, pol_add (pol_mul hu px) hv, pol_mul hu py, ?_⟩
  letI := ps_ring
  have e1' : u * ps_pow q m + v * a = 1 := e1
  have e' : ps_pow q m = x * a + y * b := e
  show (u * x + v) * a + u * y * b = 1
  grind
/-- NOTHING CANCELS -/
theorem hom_cop {n d p q : PS} {h : Nat} (pn : pol n) (pd : pol d) (hn : ∀ i, h < i → n i = 0) (hd : ∀ i, h < i → d i = 0) (hh : n h ≠ 0 ∨ d h ≠ 0) (c1 : cop n d) (pp : pol p) (pq : pol q) (c2 : cop p q) : cop (hom h n p q) (hom h d p q) := by
  obtain ⟨u, v, ⟨mu, hu⟩, ⟨mv, hv⟩, e⟩ := c1
  have e1 : ps_pow q (mu + mv + h) = ps_add (ps_mul (hom (mu + mv) u p q) (hom h n p q)) (ps_mul (hom (mu + mv) v p q) (hom h d p q)) := by
    rw [← hom_mul hn (mu + mv) u (fun i hi => hu i (by omega)), ← hom_mul hd (mu + mv) v (fun i hi => hv i (by omega)), ← hom_add, e, hom_one]
  rcases hh with hh | hh
  · obtain ⟨s, ps, es⟩ := hom_mod pp pq h n
    refine cop_via (q := q) (hom_pol pp pq h n) (hom_pol pp pq _ u) (hom_pol pp pq _ v) ?_ pq e1
    rw [es]
    exact cop_ad ps (cop_sc hh (cop_pow pq pp (cop_sy c2) h))
  · obtain ⟨s, ps, es⟩ := hom_mod pp pq h d
    refine cop_sy (cop_via (q := q) (hom_pol pp pq h d) (hom_pol pp pq (mu + mv) v) (hom_pol pp pq (mu + mv) u) ?_ pq (m := mu + mv + h) ?_)
    · rw [es]
      exact cop_ad ps (cop_sc hh (cop_pow pq pp (cop_sy c2) h))
    · rw [e1]
      generalize ps_mul (hom (mu + mv) u p q) (hom h n p q) = a
      generalize ps_mul (hom (mu + mv) v p q) (hom h d p q) = b
      letI := ps_ring
      show a + b = b + a
      grind
/-- the highest coefficient of a power -/
theorem pow_top {q : PS} {k : Nat} (hq : ∀ i, k < i → q i = 0) : ∀ h : Nat, (∀ i, h * k < i → ps_pow q h i = 0) ∧ ps_C (ps_pow q h (h * k)) = ps_pow (ps_C (q k)) h := by
  intro h
  induction h with
  | zero =>
    refine ⟨fun i hi => ?_, ?_⟩
    · simp [ps_pow, ps_C, show i ≠ 0 by omega]
    · rw [Nat.zero_mul]; rfl
  | succ h ih =>
    obtain ⟨t1, t2⟩ := ps_top (m := k) (g := q) hq (n := h * k) (f := ps_pow q h) ih.1
    rw [show (h + 1) * k = h * k + k from Nat.succ_mul h k]
    refine ⟨fun i hi => t2 i hi, ?_⟩
    show ps_C (ps_m (h * k + k) (ps_pow q h) q) = ps_mul (ps_pow (ps_C (q k)) h) (ps_C (q k))
    rw [t1, ps_C_mul, ih.2]
theorem hom_top {p q : PS} {k : Nat} (hp : ∀ i, k < i → p i = 0) (hq : ∀ i, k < i → q i = 0) : ∀ (h : Nat) (f : PS), (∀ i, h * k < i → hom h f p q i = 0) ∧ ps_C (hom h f p q (h * k)) = hom h f (ps_C (p k)) (ps_C (q k)) := by
  intro h
  induction h with
  | zero =>
    intro f
    refine ⟨fun i hi => ?_, ?_⟩
    · simp [hom, ps_C, show i ≠ 0 by omega]
    · rw [Nat.zero_mul]; rfl
  | succ h ih =>
    intro f
    obtain ⟨i1, i2⟩ := ih (ps_sh f)
    obtain ⟨t1, t2⟩ := ps_top (m := h * k) (g := hom h (ps_sh f) p q) i1 (n := k) (f := p) hp
    obtain ⟨w1, w2⟩ := pow_top hq (h + 1)
    have hk : (h + 1) * k = k + h * k := by rw [Nat.succ_mul, Nat.add_comm]
    refine ⟨fun i hi => ?_, ?_⟩
    · show ps_m i (ps_C (f 0)) (ps_pow q (h + 1)) + ps_m i p (hom h (ps_sh f) p q) = 0
      rw [ps_mC, w1 i hi, t2 i (by omega)]
      grind
    · show ps_C (ps_m ((h + 1) * k) (ps_C (f 0)) (ps_pow q (h + 1)) + ps_m ((h + 1) * k) p (hom h (ps_sh f) p q)) = _
      rw [ps_mC, ps_C_add, ps_C_mul, w2, hk, t1, ps_C_mul, i2]
      rfl
/-- THE HEIGHTS MULTIPLY -/
theorem hom_height {n d p q : PS} {h k : Nat} (pn : pol n) (pd : pol d) (hn : ∀ i, h < i → n i = 0) (hd : ∀ i, h < i → d i = 0) (hh : n h ≠ 0 ∨ d h ≠ 0) (c1 : cop n d) (hp : ∀ i, k < i → p i = 0) (hq : ∀ i, k < i → q i = 0) (hk : p k ≠ 0 ∨ q k ≠ 0) : hom h n p q (h * k) ≠ 0 ∨ hom h d p q (h * k) ≠ 0 := by
  have c2 : cop (ps_C (p k)) (ps_C (q k)) := by
    rcases hk with hk | hk
    · refine ⟨ps_C (ff_inv (p k)), ps_C 0, pol_C _, pol_C _, ?_⟩
      rw [← ps_C_mul, ← ps_C_mul, ← ps_C_add]
      congr 1
      have := ff_inv_mul hk
      grind
    · refine ⟨ps_C 0, ps_C (ff_inv (q k)), pol_C _, pol_C _, ?_⟩
      rw [← ps_C_mul, ← ps_C_mul, ← ps_C_add]
      congr 1
      have := ff_inv_mul hk
      grind
  obtain ⟨u, v, -, -, e⟩ := hom_cop pn pd hn hd hh c1 (pol_C _) (pol_C _) c2
  rw [← (hom_top hp hq h n).2, ← (hom_top hp hq h d).2] at e
  by_cases h1 : hom h n p q (h * k) = 0
  · by_cases h2 : hom h d p q (h * k) = 0
    · exfalso
      rw [h1, h2] at e
      have e0 := congrFun e 0
      have z : ∀ f : PS, ps_mul f (ps_C 0) 0 = 0 := fun f => (ps_m_cm (f := f)).trans (ps_m0 (fun i => by simp [ps_C]))
      rw [show ps_add (ps_mul u (ps_C 0)) (ps_mul v (ps_C 0)) 0 = ps_mul u (ps_C 0) 0 + ps_mul v (ps_C 0) 0 from rfl, z, z] at e0
      revert e0
      decide +kernel
    · exact Or.inr h2
  · exact Or.inl h1
end
section
/-! numbers of the machine against numbers modulo 10007; the top of a row -/
/-- the top of a polynomial with n places: n - 1 -/
def tI (n : Nat) : Int32 := nI n - 1
theorem tI_0 : tI 0 = -1 := by decide
theorem tI_s (n : Nat) : tI (n + 1) = nI n := nI_pred n
theorem tI_dec (n : Nat) : tI (n + 1) + Int32.ofInt (-1) = tI n := by
  rw [tI_s]
  show nI n + (-1) = nI n - 1
  exact (Int32.sub_eq_add_neg (nI n) 1).symm
theorem tI_int {n : Nat} (h : n < 2 ^ 30) : (tI n).toInt = (n : Int) - 1 := by
  have e : tI n = nI n - nI 1 := rfl
  rw [e, pk_sub_toInt h (by decide)]
  rfl
theorem tI_le {i n : Nat} (hi : i < 2 ^ 30) (hn : n < 2 ^ 30) : nI i ≤ tI n ↔ i < n := by
  rw [Int32.le_iff_toInt_le, nI_toInt (by omega), tI_int hn]; omega
theorem tI_lt0 {n : Nat} (hn : n < 2 ^ 30) : tI n < 0 ↔ n = 0 := by
  rw [Int32.lt_iff_toInt_lt, tI_int hn, Int32.toInt_zero]; omega
theorem tI_ge0 {n : Nat} (hn : n < 2 ^ 30) : 0 ≤ tI n ↔ 0 < n := by
  rw [Int32.le_iff_toInt_le, tI_int hn, Int32.toInt_zero]; omega
theorem tI_gt0 {n : Nat} (hn : n < 2 ^ 30) : 0 < tI n ↔ 1 < n := by
  rw [Int32.lt_iff_toInt_lt, tI_int hn, Int32.toInt_zero]; omega
theorem tI_le0 {n : Nat} (hn : n < 2 ^ 30) : tI n ≤ 0 ↔ n ≤ 1 := by
  rw [Int32.le_iff_toInt_le, tI_int hn, Int32.toInt_zero]; omega
theorem tI_eq {n m : Nat} (hn : n < 2 ^ 30) (hm : m < 2 ^ 30) : tI n = tI m ↔ n = m := by
  rw [← Int32.toInt_inj, tI_int hn, tI_int hm]; omega
theorem tI_lt {n m : Nat} (hn : n < 2 ^ 30) (hm : m < 2 ^ 30) : tI n < tI m ↔ n < m := by
  rw [Int32.lt_iff_toInt_lt, tI_int hn, tI_int hm]; omega
theorem tI_lel {n m : Nat} (hn : n < 2 ^ 30) (hm : m < 2 ^ 30) : tI n ≤ tI m ↔ n ≤ m := by
  rw [Int32.le_iff_toInt_le, tI_int hn, tI_int hm]; omega
theorem tI_ltn {n m : Nat} (hn : n < 2 ^ 30) (hm : m < 2 ^ 30) : nI m < tI n ↔ m + 1 < n := by
  rw [Int32.lt_iff_toInt_lt, tI_int hn, nI_toInt (by omega)]; omega
/-- a number of the field on the machine -/
def fI (a : FF) : Int32 := nI a.val
theorem fI_lt (a : FF) : a.val < 10007 := a.isLt
theorem fI_0 : fI 0 = 0 := by decide
theorem fI_1 : fI 1 = 1 := by decide
theorem fI_inj {a b : FF} : fI a = fI b ↔ a = b := by
  have ha := a.isLt
  have hb := b.isLt
  refine ⟨fun h => Fin.ext ((nI_eq (by omega) (by omega)).mp h), fun h => by rw [h]⟩
theorem fI_eq0 {a : FF} : fI a = 0 ↔ a = 0 := by rw [← fI_0, fI_inj]
/-- the rest modulo 10007 -/
theorem nI_mod {a : Nat} (h : a < 2 ^ 31) : nI a - nI a / 10007 * 10007 = nI (a % 10007) := pk_rem h (by decide) (by decide)
theorem ff_of {a : Nat} : (Fin.ofNat 10007 a : FF).val = a % 10007 := rfl
theorem ff_madd (x y z : FF) : (x + y * z).val = (x.val + y.val * z.val) % 10007 := by
  rw [Fin.val_add, Fin.val_mul, Nat.add_mod_mod]
theorem ff_mulv (y z : FF) : (y * z).val = (y.val * z.val) % 10007 := Fin.val_mul y z
theorem fI_mul (y z : FF) : fI y * fI z - fI y * fI z / 10007 * 10007 = fI (y * z) := by
  have hy := y.isLt
  have hz := z.isLt
  have hb : y.val * z.val < 2 ^ 31 := Nat.lt_of_le_of_lt (Nat.mul_le_mul (Nat.le_of_lt_succ hy) (Nat.le_of_lt_succ hz)) (by decide)
  show nI y.val * nI z.val - nI y.val * nI z.val / 10007 * 10007 = nI (y * z).val
  rw [pk_mul, nI_mod hb, ff_mulv]
theorem fI_madd (x y z : FF) : fI x + fI y * fI z - (fI x + fI y * fI z) / 10007 * 10007 = fI (x + y * z) := by
  have hx := x.isLt
  have hy := y.isLt
  have hz := z.isLt
  have hb : y.val * z.val ≤ 10006 * 10006 := Nat.mul_le_mul (Nat.le_of_lt_succ hy) (Nat.le_of_lt_succ hz)
  show nI x.val + nI y.val * nI z.val - (nI x.val + nI y.val * nI z.val) / 10007 * 10007 = nI (x + y * z).val
  rw [pk_mul, nI_add, nI_mod (by omega), ff_madd]
theorem fI_madd' (x y z : FF) : fI y * fI z + fI x - (fI y * fI z + fI x) / 10007 * 10007 = fI (y * z + x) := by
  rw [Int32.add_comm (fI y * fI z), fI_madd]
  congr 1
  grind
/-- a row of numbers holds a polynomial of n places -/
def rep (f : Nat → Int32) (n : Nat) (P : PS) : Prop := (∀ i, n ≤ i → P i = 0) ∧ (∀ m, n = m + 1 → P m ≠ 0) ∧ ∀ i, i < n → f i = fI (P i)
theorem rep_pol {f : Nat → Int32} {n : Nat} {P : PS} (h : rep f n P) : pol P := ⟨n, h.1⟩
theorem rep_dg {f : Nat → Int32} {n : Nat} {P : PS} (h : rep f (n + 1) P) : dg P n := ⟨h.2.1 n rfl, fun i hi => h.1 i hi⟩
theorem rep_un {f g : Nat → Int32} {n m : Nat} {P : PS} (h : rep f n P) (h' : rep g m P) : n = m := by
  rcases Nat.lt_trichotomy n m with q | q | q
  · exact absurd (h.1 (m - 1) (by omega)) (h'.2.1 (m - 1) (by omega))
  · exact q
  · exact absurd (h'.1 (n - 1) (by omega)) (h.2.1 (n - 1) (by omega))
/-- the number of places -/
theorem rep_ex {P : PS} (h : pol P) : ∃ n, (∀ i, n ≤ i → P i = 0) ∧ ∀ m, n = m + 1 → P m ≠ 0 := by
  rcases pol_dg h with z | ⟨n, hn⟩
  · exact ⟨0, fun i _ => z i, fun m hm => by omega⟩
  · exact ⟨n + 1, fun i hi => hn.2 i hi, fun m hm => by rw [show m = n by omega]; exact hn.1⟩
end
section
-- ===== PART A: goes FIRST, ahead of the names: the tables' words, and 'selects' of the private methods out of them =====
/-- a private method of a class that the tables say can be made, by its rows of tables_1 -/
def lw_okq (q : MethodName × Nat) : Prop := (q.1.cls ≠ "java/lang/invoke/MethodHandle" ∧ q.1.cls ≠ "java/lang/invoke/VarHandle") ∧ Cond.instantiable q.1.cls q.2 ∈ tables_1 ∧ Cond.privateMethod q.1 ∈ tables_1 ∧ Cond.instanceMethod q.1 ∈ tables_1
theorem lw_p0 : lw_okq (⟨"RationalSession$Reader", "startSum", "()V"⟩, 11) := ⟨⟨by decide +kernel, by decide +kernel⟩, List.mem_of_getElem? (i := 43) (by decide +kernel), List.mem_of_getElem? (i := 379) (by decide +kernel), List.mem_of_getElem? (i := 380) (by decide +kernel)⟩
theorem lw_p1 : lw_okq (⟨"RationalSession$Reader", "readTarget", "()V"⟩, 11) := ⟨⟨by decide +kernel, by decide +kernel⟩, List.mem_of_getElem? (i := 43) (by decide +kernel), List.mem_of_getElem? (i := 383) (by decide +kernel), List.mem_of_getElem? (i := 384) (by decide +kernel)⟩
theorem lw_p2 : lw_okq (⟨"RationalSession$Reader", "readBeforeAtom", "(C)V"⟩, 11) := ⟨⟨by decide +kernel, by decide +kernel⟩, List.mem_of_getElem? (i := 43) (by decide +kernel), List.mem_of_getElem? (i := 394) (by decide +kernel), List.mem_of_getElem? (i := 395) (by decide +kernel)⟩
theorem lw_p3 : lw_okq (⟨"RationalSession$Reader", "readNumber", "(II)I"⟩, 11) := ⟨⟨by decide +kernel, by decide +kernel⟩, List.mem_of_getElem? (i := 43) (by decide +kernel), List.mem_of_getElem? (i := 402) (by decide +kernel), List.mem_of_getElem? (i := 403) (by decide +kernel)⟩
theorem lw_p4 : lw_okq (⟨"RationalSession$Reader", "endAtom", "(II)V"⟩, 11) := ⟨⟨by decide +kernel, by decide +kernel⟩, List.mem_of_getElem? (i := 43) (by decide +kernel), List.mem_of_getElem? (i := 406) (by decide +kernel), List.mem_of_getElem? (i := 407) (by decide +kernel)⟩
theorem lw_p5 : lw_okq (⟨"RationalSession$Reader", "readOpening", "(C)V"⟩, 11) := ⟨⟨by decide +kernel, by decide +kernel⟩, List.mem_of_getElem? (i := 43) (by decide +kernel), List.mem_of_getElem? (i := 414) (by decide +kernel), List.mem_of_getElem? (i := 415) (by decide +kernel)⟩
theorem lw_p6 : lw_okq (⟨"RationalSession$Reader", "readAfterAtom", "(C)V"⟩, 11) := ⟨⟨by decide +kernel, by decide +kernel⟩, List.mem_of_getElem? (i := 43) (by decide +kernel), List.mem_of_getElem? (i := 418) (by decide +kernel), List.mem_of_getElem? (i := 419) (by decide +kernel)⟩
theorem lw_p7 : lw_okq (⟨"RationalSession$Reader", "readExponent", "()V"⟩, 11) := ⟨⟨by decide +kernel, by decide +kernel⟩, List.mem_of_getElem? (i := 43) (by decide +kernel), List.mem_of_getElem? (i := 422) (by decide +kernel), List.mem_of_getElem? (i := 423) (by decide +kernel)⟩
theorem lw_p8 : lw_okq (⟨"RationalSession$Reader", "finishPower", "()V"⟩, 11) := ⟨⟨by decide +kernel, by decide +kernel⟩, List.mem_of_getElem? (i := 43) (by decide +kernel), List.mem_of_getElem? (i := 426) (by decide +kernel), List.mem_of_getElem? (i := 427) (by decide +kernel)⟩
theorem lw_p9 : lw_okq (⟨"RationalSession$Reader", "startAtom", "()V"⟩, 11) := ⟨⟨by decide +kernel, by decide +kernel⟩, List.mem_of_getElem? (i := 43) (by decide +kernel), List.mem_of_getElem? (i := 430) (by decide +kernel), List.mem_of_getElem? (i := 431) (by decide +kernel)⟩
theorem lw_p10 : lw_okq (⟨"RationalSession$Reader", "finishTerm", "()V"⟩, 11) := ⟨⟨by decide +kernel, by decide +kernel⟩, List.mem_of_getElem? (i := 43) (by decide +kernel), List.mem_of_getElem? (i := 434) (by decide +kernel), List.mem_of_getElem? (i := 435) (by decide +kernel)⟩
theorem lw_p11 : lw_okq (⟨"RationalSession$Reader", "closeOpening", "()V"⟩, 11) := ⟨⟨by decide +kernel, by decide +kernel⟩, List.mem_of_getElem? (i := 43) (by decide +kernel), List.mem_of_getElem? (i := 438) (by decide +kernel), List.mem_of_getElem? (i := 439) (by decide +kernel)⟩
theorem lw_p12 : lw_okq (⟨"RationalSession$Worker", "load", "(IILRationalSession$Shelf;)I"⟩, 3) := ⟨⟨by decide +kernel, by decide +kernel⟩, List.mem_of_getElem? (i := 108) (by decide +kernel), List.mem_of_getElem? (i := 457) (by decide +kernel), List.mem_of_getElem? (i := 458) (by decide +kernel)⟩
theorem lw_p13 : lw_okq (⟨"RationalSession$Worker", "operate", "(II)I"⟩, 3) := ⟨⟨by decide +kernel, by decide +kernel⟩, List.mem_of_getElem? (i := 108) (by decide +kernel), List.mem_of_getElem? (i := 494) (by decide +kernel), List.mem_of_getElem? (i := 495) (by decide +kernel)⟩
theorem lw_p14 : lw_okq (⟨"RationalSession$Polynomial", "trimFrom", "(I)V"⟩, 2) := ⟨⟨by decide +kernel, by decide +kernel⟩, List.mem_of_getElem? (i := 120) (by decide +kernel), List.mem_of_getElem? (i := 522) (by decide +kernel), List.mem_of_getElem? (i := 523) (by decide +kernel)⟩
theorem lw_p15 : lw_okq (⟨"RationalSession$Workshop", "putInto", "(LRationalSession$Polynomial;ILRationalSession$Form;LRationalSession$Polynomial;)V"⟩, 7) := ⟨⟨by decide +kernel, by decide +kernel⟩, List.mem_of_getElem? (i := 114) (by decide +kernel), List.mem_of_getElem? (i := 548) (by decide +kernel), List.mem_of_getElem? (i := 549) (by decide +kernel)⟩
def lw_privs_1 : List (MethodName × Nat) := [(⟨"RationalSession$Reader", "startSum", "()V"⟩, 11), (⟨"RationalSession$Reader", "readTarget", "()V"⟩, 11), (⟨"RationalSession$Reader", "readBeforeAtom", "(C)V"⟩, 11), (⟨"RationalSession$Reader", "readNumber", "(II)I"⟩, 11), (⟨"RationalSession$Reader", "endAtom", "(II)V"⟩, 11), (⟨"RationalSession$Reader", "readOpening", "(C)V"⟩, 11), (⟨"RationalSession$Reader", "readAfterAtom", "(C)V"⟩, 11), (⟨"RationalSession$Reader", "readExponent", "()V"⟩, 11), (⟨"RationalSession$Reader", "finishPower", "()V"⟩, 11), (⟨"RationalSession$Reader", "startAtom", "()V"⟩, 11), (⟨"RationalSession$Reader", "finishTerm", "()V"⟩, 11), (⟨"RationalSession$Reader", "closeOpening", "()V"⟩, 11), (⟨"RationalSession$Worker", "load", "(IILRationalSession$Shelf;)I"⟩, 3), (⟨"RationalSession$Worker", "operate", "(II)I"⟩, 3), (⟨"RationalSession$Polynomial", "trimFrom", "(I)V"⟩, 2), (⟨"RationalSession$Workshop", "putInto", "(LRationalSession$Polynomial;ILRationalSession$Form;LRationalSession$Polynomial;)V"⟩, 7)]
theorem lw_r1 : ∀ q ∈ lw_privs_1, lw_okq q := List.forall_mem_cons.mpr ⟨lw_p0, List.forall_mem_cons.mpr ⟨lw_p1, List.forall_mem_cons.mpr ⟨lw_p2, List.forall_mem_cons.mpr ⟨lw_p3, List.forall_mem_cons.mpr ⟨lw_p4, List.forall_mem_cons.mpr ⟨lw_p5, List.forall_mem_cons.mpr ⟨lw_p6, List.forall_mem_cons.mpr ⟨lw_p7, List.forall_mem_cons.mpr ⟨lw_p8, List.forall_mem_cons.mpr ⟨lw_p9, List.forall_mem_cons.mpr ⟨lw_p10, List.forall_mem_cons.mpr ⟨lw_p11, List.forall_mem_cons.mpr ⟨lw_p12, List.forall_mem_cons.mpr ⟨lw_p13, List.forall_mem_cons.mpr ⟨lw_p14, List.forall_mem_cons.mpr ⟨lw_p15, fun _ h => absurd h List.not_mem_nil⟩⟩⟩⟩⟩⟩⟩⟩⟩⟩⟩⟩⟩⟩⟩⟩
theorem lw_p16 : lw_okq (⟨"RationalSession$Workshop", "raise", "(LRationalSession$Polynomial;ILRationalSession$Polynomial;)V"⟩, 7) := ⟨⟨by decide +kernel, by decide +kernel⟩, List.mem_of_getElem? (i := 114) (by decide +kernel), List.mem_of_getElem? (i := 563) (by decide +kernel), List.mem_of_getElem? (i := 564) (by decide +kernel)⟩
theorem lw_p17 : lw_okq (⟨"RationalSession$Workshop", "commonDivisor", "()LRationalSession$Polynomial;"⟩, 7) := ⟨⟨by decide +kernel, by decide +kernel⟩, List.mem_of_getElem? (i := 114) (by decide +kernel), List.mem_of_getElem? (i := 588) (by decide +kernel), List.mem_of_getElem? (i := 589) (by decide +kernel)⟩
theorem lw_p18 : lw_okq (⟨"RationalSession$Shelf", "shapeNumberFor", "(LRationalSession$Form;)I"⟩, 5) := ⟨⟨by decide +kernel, by decide +kernel⟩, List.mem_of_getElem? (i := 191) (by decide +kernel), List.mem_of_getElem? (i := 613) (by decide +kernel), List.mem_of_getElem? (i := 614) (by decide +kernel)⟩
theorem lw_p19 : lw_okq (⟨"RationalSession$TextSeeker", "spell", "(LRationalSession$Polynomial;)V"⟩, 3) := ⟨⟨by decide +kernel, by decide +kernel⟩, List.mem_of_getElem? (i := 217) (by decide +kernel), List.mem_of_getElem? (i := 688) (by decide +kernel), List.mem_of_getElem? (i := 689) (by decide +kernel)⟩
theorem lw_p20 : lw_okq (⟨"RationalSession$TextSeeker", "put", "(C)V"⟩, 3) := ⟨⟨by decide +kernel, by decide +kernel⟩, List.mem_of_getElem? (i := 217) (by decide +kernel), List.mem_of_getElem? (i := 693) (by decide +kernel), List.mem_of_getElem? (i := 694) (by decide +kernel)⟩
theorem lw_p21 : lw_okq (⟨"RationalSession$TextSeeker", "spellPart", "(II)V"⟩, 3) := ⟨⟨by decide +kernel, by decide +kernel⟩, List.mem_of_getElem? (i := 217) (by decide +kernel), List.mem_of_getElem? (i := 698) (by decide +kernel), List.mem_of_getElem? (i := 699) (by decide +kernel)⟩
theorem lw_p22 : lw_okq (⟨"RationalSession$TextSeeker", "spellNumber", "(I)V"⟩, 3) := ⟨⟨by decide +kernel, by decide +kernel⟩, List.mem_of_getElem? (i := 217) (by decide +kernel), List.mem_of_getElem? (i := 702) (by decide +kernel), List.mem_of_getElem? (i := 703) (by decide +kernel)⟩
theorem lw_p23 : lw_okq (⟨"RationalSessionModel", "known", "(I)Z"⟩, 22) := ⟨⟨by decide +kernel, by decide +kernel⟩, List.mem_of_getElem? (i := 719) (by decide +kernel), List.mem_of_getElem? (i := 797) (by decide +kernel), List.mem_of_getElem? (i := 798) (by decide +kernel)⟩
theorem lw_p24 : lw_okq (⟨"RationalSessionModel", "digit", "(I)Z"⟩, 22) := ⟨⟨by decide +kernel, by decide +kernel⟩, List.mem_of_getElem? (i := 719) (by decide +kernel), List.mem_of_getElem? (i := 801) (by decide +kernel), List.mem_of_getElem? (i := 802) (by decide +kernel)⟩
theorem lw_p25 : lw_okq (⟨"RationalSessionModel", "name", "(I)Z"⟩, 22) := ⟨⟨by decide +kernel, by decide +kernel⟩, List.mem_of_getElem? (i := 719) (by decide +kernel), List.mem_of_getElem? (i := 805) (by decide +kernel), List.mem_of_getElem? (i := 806) (by decide +kernel)⟩
theorem lw_p26 : lw_okq (⟨"RationalSessionModel", "work", "()I"⟩, 22) := ⟨⟨by decide +kernel, by decide +kernel⟩, List.mem_of_getElem? (i := 719) (by decide +kernel), List.mem_of_getElem? (i := 822) (by decide +kernel), List.mem_of_getElem? (i := 823) (by decide +kernel)⟩
theorem lw_p27 : lw_okq (⟨"RationalSessionModel", "badPlaceOf", "()I"⟩, 22) := ⟨⟨by decide +kernel, by decide +kernel⟩, List.mem_of_getElem? (i := 719) (by decide +kernel), List.mem_of_getElem? (i := 826) (by decide +kernel), List.mem_of_getElem? (i := 827) (by decide +kernel)⟩
theorem lw_p28 : lw_okq (⟨"RationalSessionModel", "stateAt", "(II)I"⟩, 22) := ⟨⟨by decide +kernel, by decide +kernel⟩, List.mem_of_getElem? (i := 719) (by decide +kernel), List.mem_of_getElem? (i := 830) (by decide +kernel), List.mem_of_getElem? (i := 831) (by decide +kernel)⟩
theorem lw_p29 : lw_okq (⟨"RationalSessionModel", "open", "(I)I"⟩, 22) := ⟨⟨by decide +kernel, by decide +kernel⟩, List.mem_of_getElem? (i := 719) (by decide +kernel), List.mem_of_getElem? (i := 834) (by decide +kernel), List.mem_of_getElem? (i := 835) (by decide +kernel)⟩
theorem lw_p30 : lw_okq (⟨"RationalSessionModel", "begin", "(II)I"⟩, 22) := ⟨⟨by decide +kernel, by decide +kernel⟩, List.mem_of_getElem? (i := 719) (by decide +kernel), List.mem_of_getElem? (i := 838) (by decide +kernel), List.mem_of_getElem? (i := 839) (by decide +kernel)⟩
theorem lw_p31 : lw_okq (⟨"RationalSessionModel", "close", "()I"⟩, 22) := ⟨⟨by decide +kernel, by decide +kernel⟩, List.mem_of_getElem? (i := 719) (by decide +kernel), List.mem_of_getElem? (i := 842) (by decide +kernel), List.mem_of_getElem? (i := 843) (by decide +kernel)⟩
def lw_privs_2 : List (MethodName × Nat) := [(⟨"RationalSession$Workshop", "raise", "(LRationalSession$Polynomial;ILRationalSession$Polynomial;)V"⟩, 7), (⟨"RationalSession$Workshop", "commonDivisor", "()LRationalSession$Polynomial;"⟩, 7), (⟨"RationalSession$Shelf", "shapeNumberFor", "(LRationalSession$Form;)I"⟩, 5), (⟨"RationalSession$TextSeeker", "spell", "(LRationalSession$Polynomial;)V"⟩, 3), (⟨"RationalSession$TextSeeker", "put", "(C)V"⟩, 3), (⟨"RationalSession$TextSeeker", "spellPart", "(II)V"⟩, 3), (⟨"RationalSession$TextSeeker", "spellNumber", "(I)V"⟩, 3), (⟨"RationalSessionModel", "known", "(I)Z"⟩, 22), (⟨"RationalSessionModel", "digit", "(I)Z"⟩, 22), (⟨"RationalSessionModel", "name", "(I)Z"⟩, 22), (⟨"RationalSessionModel", "work", "()I"⟩, 22), (⟨"RationalSessionModel", "badPlaceOf", "()I"⟩, 22), (⟨"RationalSessionModel", "stateAt", "(II)I"⟩, 22), (⟨"RationalSessionModel", "open", "(I)I"⟩, 22), (⟨"RationalSessionModel", "begin", "(II)I"⟩, 22), (⟨"RationalSessionModel", "close", "()I"⟩, 22)]
theorem lw_r2 : ∀ q ∈ lw_privs_2, lw_okq q := List.forall_mem_cons.mpr ⟨lw_p16, List.forall_mem_cons.mpr ⟨lw_p17, List.forall_mem_cons.mpr ⟨lw_p18, List.forall_mem_cons.mpr ⟨lw_p19, List.forall_mem_cons.mpr ⟨lw_p20, List.forall_mem_cons.mpr ⟨lw_p21, List.forall_mem_cons.mpr ⟨lw_p22, List.forall_mem_cons.mpr ⟨lw_p23, List.forall_mem_cons.mpr ⟨lw_p24, List.forall_mem_cons.mpr ⟨lw_p25, List.forall_mem_cons.mpr ⟨lw_p26, List.forall_mem_cons.mpr ⟨lw_p27, List.forall_mem_cons.mpr ⟨lw_p28, List.forall_mem_cons.mpr ⟨lw_p29, List.forall_mem_cons.mpr ⟨lw_p30, List.forall_mem_cons.mpr ⟨lw_p31, fun _ h => absurd h List.not_mem_nil⟩⟩⟩⟩⟩⟩⟩⟩⟩⟩⟩⟩⟩⟩⟩⟩
theorem lw_p32 : lw_okq (⟨"RationalSessionModel", "complete", "(I)Z"⟩, 22) := ⟨⟨by decide +kernel, by decide +kernel⟩, List.mem_of_getElem? (i := 719) (by decide +kernel), List.mem_of_getElem? (i := 846) (by decide +kernel), List.mem_of_getElem? (i := 847) (by decide +kernel)⟩
theorem lw_p33 : lw_okq (⟨"RationalSessionModel", "start", "(I)V"⟩, 22) := ⟨⟨by decide +kernel, by decide +kernel⟩, List.mem_of_getElem? (i := 719) (by decide +kernel), List.mem_of_getElem? (i := 850) (by decide +kernel), List.mem_of_getElem? (i := 851) (by decide +kernel)⟩
theorem lw_p34 : lw_okq (⟨"RationalSessionModel", "advance", "(I)I"⟩, 22) := ⟨⟨by decide +kernel, by decide +kernel⟩, List.mem_of_getElem? (i := 719) (by decide +kernel), List.mem_of_getElem? (i := 854) (by decide +kernel), List.mem_of_getElem? (i := 855) (by decide +kernel)⟩
theorem lw_p35 : lw_okq (⟨"RationalSessionModel", "term", "()V"⟩, 22) := ⟨⟨by decide +kernel, by decide +kernel⟩, List.mem_of_getElem? (i := 719) (by decide +kernel), List.mem_of_getElem? (i := 858) (by decide +kernel), List.mem_of_getElem? (i := 859) (by decide +kernel)⟩
theorem lw_p36 : lw_okq (⟨"RationalSessionModel", "add", "(IIII)V"⟩, 22) := ⟨⟨by decide +kernel, by decide +kernel⟩, List.mem_of_getElem? (i := 719) (by decide +kernel), List.mem_of_getElem? (i := 862) (by decide +kernel), List.mem_of_getElem? (i := 863) (by decide +kernel)⟩
theorem lw_p37 : lw_okq (⟨"RationalSessionModel", "blank", "()V"⟩, 22) := ⟨⟨by decide +kernel, by decide +kernel⟩, List.mem_of_getElem? (i := 719) (by decide +kernel), List.mem_of_getElem? (i := 866) (by decide +kernel), List.mem_of_getElem? (i := 867) (by decide +kernel)⟩
theorem lw_p38 : lw_okq (⟨"RationalSessionModel", "product", "(IZIZIZ)V"⟩, 22) := ⟨⟨by decide +kernel, by decide +kernel⟩, List.mem_of_getElem? (i := 719) (by decide +kernel), List.mem_of_getElem? (i := 870) (by decide +kernel), List.mem_of_getElem? (i := 871) (by decide +kernel)⟩
theorem lw_p39 : lw_okq (⟨"RationalSessionModel", "form", "(I)V"⟩, 22) := ⟨⟨by decide +kernel, by decide +kernel⟩, List.mem_of_getElem? (i := 719) (by decide +kernel), List.mem_of_getElem? (i := 874) (by decide +kernel), List.mem_of_getElem? (i := 875) (by decide +kernel)⟩
theorem lw_p40 : lw_okq (⟨"RationalSessionModel", "topOf", "(Z)I"⟩, 22) := ⟨⟨by decide +kernel, by decide +kernel⟩, List.mem_of_getElem? (i := 719) (by decide +kernel), List.mem_of_getElem? (i := 878) (by decide +kernel), List.mem_of_getElem? (i := 879) (by decide +kernel)⟩
theorem lw_p41 : lw_okq (⟨"RationalSessionModel", "constant", "(II)V"⟩, 22) := ⟨⟨by decide +kernel, by decide +kernel⟩, List.mem_of_getElem? (i := 719) (by decide +kernel), List.mem_of_getElem? (i := 882) (by decide +kernel), List.mem_of_getElem? (i := 883) (by decide +kernel)⟩
theorem lw_p42 : lw_okq (⟨"RationalSessionModel", "solve", "(III)Z"⟩, 22) := ⟨⟨by decide +kernel, by decide +kernel⟩, List.mem_of_getElem? (i := 719) (by decide +kernel), List.mem_of_getElem? (i := 886) (by decide +kernel), List.mem_of_getElem? (i := 887) (by decide +kernel)⟩
theorem lw_p43 : lw_okq (⟨"RationalSessionModel", "eliminate", "(III)V"⟩, 22) := ⟨⟨by decide +kernel, by decide +kernel⟩, List.mem_of_getElem? (i := 719) (by decide +kernel), List.mem_of_getElem? (i := 890) (by decide +kernel), List.mem_of_getElem? (i := 891) (by decide +kernel)⟩
theorem lw_p44 : lw_okq (⟨"RationalSessionModel", "inverse", "(I)I"⟩, 22) := ⟨⟨by decide +kernel, by decide +kernel⟩, List.mem_of_getElem? (i := 719) (by decide +kernel), List.mem_of_getElem? (i := 894) (by decide +kernel), List.mem_of_getElem? (i := 895) (by decide +kernel)⟩
theorem lw_p45 : lw_okq (⟨"RationalSessionModel", "subtract", "(III)V"⟩, 22) := ⟨⟨by decide +kernel, by decide +kernel⟩, List.mem_of_getElem? (i := 719) (by decide +kernel), List.mem_of_getElem? (i := 898) (by decide +kernel), List.mem_of_getElem? (i := 899) (by decide +kernel)⟩
theorem lw_p46 : lw_okq (⟨"RationalSessionModel", "unknown", "(II)I"⟩, 22) := ⟨⟨by decide +kernel, by decide +kernel⟩, List.mem_of_getElem? (i := 719) (by decide +kernel), List.mem_of_getElem? (i := 902) (by decide +kernel), List.mem_of_getElem? (i := 903) (by decide +kernel)⟩
theorem lw_p47 : lw_okq (⟨"RationalSessionModel", "copy", "(II)V"⟩, 22) := ⟨⟨by decide +kernel, by decide +kernel⟩, List.mem_of_getElem? (i := 719) (by decide +kernel), List.mem_of_getElem? (i := 906) (by decide +kernel), List.mem_of_getElem? (i := 907) (by decide +kernel)⟩
def lw_privs_3 : List (MethodName × Nat) := [(⟨"RationalSessionModel", "complete", "(I)Z"⟩, 22), (⟨"RationalSessionModel", "start", "(I)V"⟩, 22), (⟨"RationalSessionModel", "advance", "(I)I"⟩, 22), (⟨"RationalSessionModel", "term", "()V"⟩, 22), (⟨"RationalSessionModel", "add", "(IIII)V"⟩, 22), (⟨"RationalSessionModel", "blank", "()V"⟩, 22), (⟨"RationalSessionModel", "product", "(IZIZIZ)V"⟩, 22), (⟨"RationalSessionModel", "form", "(I)V"⟩, 22), (⟨"RationalSessionModel", "topOf", "(Z)I"⟩, 22), (⟨"RationalSessionModel", "constant", "(II)V"⟩, 22), (⟨"RationalSessionModel", "solve", "(III)Z"⟩, 22), (⟨"RationalSessionModel", "eliminate", "(III)V"⟩, 22), (⟨"RationalSessionModel", "inverse", "(I)I"⟩, 22), (⟨"RationalSessionModel", "subtract", "(III)V"⟩, 22), (⟨"RationalSessionModel", "unknown", "(II)I"⟩, 22), (⟨"RationalSessionModel", "copy", "(II)V"⟩, 22)]
theorem lw_r3 : ∀ q ∈ lw_privs_3, lw_okq q := List.forall_mem_cons.mpr ⟨lw_p32, List.forall_mem_cons.mpr ⟨lw_p33, List.forall_mem_cons.mpr ⟨lw_p34, List.forall_mem_cons.mpr ⟨lw_p35, List.forall_mem_cons.mpr ⟨lw_p36, List.forall_mem_cons.mpr ⟨lw_p37, List.forall_mem_cons.mpr ⟨lw_p38, List.forall_mem_cons.mpr ⟨lw_p39, List.forall_mem_cons.mpr ⟨lw_p40, List.forall_mem_cons.mpr ⟨lw_p41, List.forall_mem_cons.mpr ⟨lw_p42, List.forall_mem_cons.mpr ⟨lw_p43, List.forall_mem_cons.mpr ⟨lw_p44, List.forall_mem_cons.mpr ⟨lw_p45, List.forall_mem_cons.mpr ⟨lw_p46, List.forall_mem_cons.mpr ⟨lw_p47, fun _ h => absurd h List.not_mem_nil⟩⟩⟩⟩⟩⟩⟩⟩⟩⟩⟩⟩⟩⟩⟩⟩
theorem lw_p48 : lw_okq (⟨"RationalSessionModel", "closed", "()V"⟩, 22) := ⟨⟨by decide +kernel, by decide +kernel⟩, List.mem_of_getElem? (i := 719) (by decide +kernel), List.mem_of_getElem? (i := 910) (by decide +kernel), List.mem_of_getElem? (i := 911) (by decide +kernel)⟩
theorem lw_p49 : lw_okq (⟨"RationalSessionModel", "derive", "(II)V"⟩, 22) := ⟨⟨by decide +kernel, by decide +kernel⟩, List.mem_of_getElem? (i := 719) (by decide +kernel), List.mem_of_getElem? (i := 914) (by decide +kernel), List.mem_of_getElem? (i := 915) (by decide +kernel)⟩
theorem lw_p50 : lw_okq (⟨"RationalSessionModel", "substitute", "(III)V"⟩, 22) := ⟨⟨by decide +kernel, by decide +kernel⟩, List.mem_of_getElem? (i := 719) (by decide +kernel), List.mem_of_getElem? (i := 918) (by decide +kernel), List.mem_of_getElem? (i := 919) (by decide +kernel)⟩
theorem lw_p51 : lw_okq (⟨"RationalSessionModel", "top", "(IZ)I"⟩, 22) := ⟨⟨by decide +kernel, by decide +kernel⟩, List.mem_of_getElem? (i := 719) (by decide +kernel), List.mem_of_getElem? (i := 922) (by decide +kernel), List.mem_of_getElem? (i := 923) (by decide +kernel)⟩
theorem lw_p52 : lw_okq (⟨"RationalSessionModel", "put", "(IZII)V"⟩, 22) := ⟨⟨by decide +kernel, by decide +kernel⟩, List.mem_of_getElem? (i := 719) (by decide +kernel), List.mem_of_getElem? (i := 926) (by decide +kernel), List.mem_of_getElem? (i := 927) (by decide +kernel)⟩
theorem lw_p53 : lw_okq (⟨"RationalSessionModel", "times", "(IIZI)V"⟩, 22) := ⟨⟨by decide +kernel, by decide +kernel⟩, List.mem_of_getElem? (i := 719) (by decide +kernel), List.mem_of_getElem? (i := 930) (by decide +kernel), List.mem_of_getElem? (i := 931) (by decide +kernel)⟩
theorem lw_p54 : lw_okq (⟨"RationalSessionModel", "raise", "(I)I"⟩, 22) := ⟨⟨by decide +kernel, by decide +kernel⟩, List.mem_of_getElem? (i := 719) (by decide +kernel), List.mem_of_getElem? (i := 934) (by decide +kernel), List.mem_of_getElem? (i := 935) (by decide +kernel)⟩
theorem lw_p55 : lw_okq (⟨"RationalSessionModel", "digits", "(I)I"⟩, 22) := ⟨⟨by decide +kernel, by decide +kernel⟩, List.mem_of_getElem? (i := 719) (by decide +kernel), List.mem_of_getElem? (i := 938) (by decide +kernel), List.mem_of_getElem? (i := 939) (by decide +kernel)⟩
theorem lw_p56 : lw_okq (⟨"RationalSessionModel", "worth", "(II)I"⟩, 22) := ⟨⟨by decide +kernel, by decide +kernel⟩, List.mem_of_getElem? (i := 719) (by decide +kernel), List.mem_of_getElem? (i := 942) (by decide +kernel), List.mem_of_getElem? (i := 943) (by decide +kernel)⟩
theorem lw_p57 : lw_okq (⟨"RationalSessionModel", "power", "(IZ)V"⟩, 22) := ⟨⟨by decide +kernel, by decide +kernel⟩, List.mem_of_getElem? (i := 719) (by decide +kernel), List.mem_of_getElem? (i := 946) (by decide +kernel), List.mem_of_getElem? (i := 947) (by decide +kernel)⟩
theorem lw_p58 : lw_okq (⟨"RationalSessionModel", "factor", "()V"⟩, 22) := ⟨⟨by decide +kernel, by decide +kernel⟩, List.mem_of_getElem? (i := 719) (by decide +kernel), List.mem_of_getElem? (i := 950) (by decide +kernel), List.mem_of_getElem? (i := 951) (by decide +kernel)⟩
theorem lw_p59 : lw_okq (⟨"RationalSessionModel", "atom", "(I)I"⟩, 22) := ⟨⟨by decide +kernel, by decide +kernel⟩, List.mem_of_getElem? (i := 719) (by decide +kernel), List.mem_of_getElem? (i := 954) (by decide +kernel), List.mem_of_getElem? (i := 955) (by decide +kernel)⟩
theorem lw_p60 : lw_okq (⟨"RationalSessionModel", "alike", "(II)Z"⟩, 22) := ⟨⟨by decide +kernel, by decide +kernel⟩, List.mem_of_getElem? (i := 719) (by decide +kernel), List.mem_of_getElem? (i := 962) (by decide +kernel), List.mem_of_getElem? (i := 963) (by decide +kernel)⟩
theorem lw_p61 : lw_okq (⟨"RationalSessionModel", "noLabel", "(I)Z"⟩, 22) := ⟨⟨by decide +kernel, by decide +kernel⟩, List.mem_of_getElem? (i := 719) (by decide +kernel), List.mem_of_getElem? (i := 974) (by decide +kernel), List.mem_of_getElem? (i := 975) (by decide +kernel)⟩
theorem lw_p62 : lw_okq (⟨"RationalSessionModel", "emit", "(I)V"⟩, 22) := ⟨⟨by decide +kernel, by decide +kernel⟩, List.mem_of_getElem? (i := 719) (by decide +kernel), List.mem_of_getElem? (i := 1003) (by decide +kernel), List.mem_of_getElem? (i := 1004) (by decide +kernel)⟩
theorem lw_p63 : lw_okq (⟨"RationalSessionModel", "emitPolynomial", "(IZ)V"⟩, 22) := ⟨⟨by decide +kernel, by decide +kernel⟩, List.mem_of_getElem? (i := 719) (by decide +kernel), List.mem_of_getElem? (i := 1007) (by decide +kernel), List.mem_of_getElem? (i := 1008) (by decide +kernel)⟩
def lw_privs_4 : List (MethodName × Nat) := [(⟨"RationalSessionModel", "closed", "()V"⟩, 22), (⟨"RationalSessionModel", "derive", "(II)V"⟩, 22), (⟨"RationalSessionModel", "substitute", "(III)V"⟩, 22), (⟨"RationalSessionModel", "top", "(IZ)I"⟩, 22), (⟨"RationalSessionModel", "put", "(IZII)V"⟩, 22), (⟨"RationalSessionModel", "times", "(IIZI)V"⟩, 22), (⟨"RationalSessionModel", "raise", "(I)I"⟩, 22), (⟨"RationalSessionModel", "digits", "(I)I"⟩, 22), (⟨"RationalSessionModel", "worth", "(II)I"⟩, 22), (⟨"RationalSessionModel", "power", "(IZ)V"⟩, 22), (⟨"RationalSessionModel", "factor", "()V"⟩, 22), (⟨"RationalSessionModel", "atom", "(I)I"⟩, 22), (⟨"RationalSessionModel", "alike", "(II)Z"⟩, 22), (⟨"RationalSessionModel", "noLabel", "(I)Z"⟩, 22), (⟨"RationalSessionModel", "emit", "(I)V"⟩, 22), (⟨"RationalSessionModel", "emitPolynomial", "(IZ)V"⟩, 22)]
theorem lw_r4 : ∀ q ∈ lw_privs_4, lw_okq q := List.forall_mem_cons.mpr ⟨lw_p48, List.forall_mem_cons.mpr ⟨lw_p49, List.forall_mem_cons.mpr ⟨lw_p50, List.forall_mem_cons.mpr ⟨lw_p51, List.forall_mem_cons.mpr ⟨lw_p52, List.forall_mem_cons.mpr ⟨lw_p53, List.forall_mem_cons.mpr ⟨lw_p54, List.forall_mem_cons.mpr ⟨lw_p55, List.forall_mem_cons.mpr ⟨lw_p56, List.forall_mem_cons.mpr ⟨lw_p57, List.forall_mem_cons.mpr ⟨lw_p58, List.forall_mem_cons.mpr ⟨lw_p59, List.forall_mem_cons.mpr ⟨lw_p60, List.forall_mem_cons.mpr ⟨lw_p61, List.forall_mem_cons.mpr ⟨lw_p62, List.forall_mem_cons.mpr ⟨lw_p63, fun _ h => absurd h List.not_mem_nil⟩⟩⟩⟩⟩⟩⟩⟩⟩⟩⟩⟩⟩⟩⟩⟩
theorem lw_p64 : lw_okq (⟨"RationalSessionModel", "emitNumber", "(I)V"⟩, 22) := ⟨⟨by decide +kernel, by decide +kernel⟩, List.mem_of_getElem? (i := 719) (by decide +kernel), List.mem_of_getElem? (i := 1011) (by decide +kernel), List.mem_of_getElem? (i := 1012) (by decide +kernel)⟩
def lw_privs_5 : List (MethodName × Nat) := [(⟨"RationalSessionModel", "emitNumber", "(I)V"⟩, 22)]
theorem lw_r5 : ∀ q ∈ lw_privs_5, lw_okq q := List.forall_mem_cons.mpr ⟨lw_p64, fun _ h => absurd h List.not_mem_nil⟩
def lw_privs : List (MethodName × Nat) := lw_privs_1 ++ (lw_privs_2 ++ (lw_privs_3 ++ (lw_privs_4 ++ (lw_privs_5))))
def lw_tbl : List Cond := k2_sels lw_privs ++ tables_1
theorem lw_privs_ok : ∀ q ∈ lw_privs, lw_okq q := by
  show ∀ q ∈ lw_privs_1 ++ (lw_privs_2 ++ (lw_privs_3 ++ (lw_privs_4 ++ (lw_privs_5)))), lw_okq q
  exact List.forall_mem_append.mpr ⟨lw_r1, List.forall_mem_append.mpr ⟨lw_r2, List.forall_mem_append.mpr ⟨lw_r3, List.forall_mem_append.mpr ⟨lw_r4, lw_r5⟩⟩⟩⟩
end
section
abbrev R_S : String := "RationalSession"
def T_S : u_T := fun k => match k with
  | 0 => ("RationalSession", "typed", "LRationalSession$Line;", true)
  | 1 => ("RationalSession", "reader", "LRationalSession$Reader;", true)
  | 2 => ("RationalSession", "program", "LRationalSession$Program;", true)
  | 3 => ("RationalSession", "worker", "LRationalSession$Worker;", true)
  | 4 => ("RationalSession", "shelf", "LRationalSession$Shelf;", true)
  | 5 => ("RationalSession", "seeker", "LRationalSession$TextSeeker;", true)
  | _ => ("RationalSession", "lastBadPlace", "I", false)
def ty_S : Nat → FieldType := fun k => match k with
  | 0 => .object "RationalSession$Line"
  | 1 => .object "RationalSession$Reader"
  | 2 => .object "RationalSession$Program"
  | 3 => .object "RationalSession$Worker"
  | 4 => .object "RationalSession$Shelf"
  | 5 => .object "RationalSession$TextSeeker"
  | _ => .int
theorem nm_S : ∀ a, a < 7 → ∀ b, b < 7 → a ≠ b → (T_S a).2.1 ≠ (T_S b).2.1 := by decide +kernel
theorem tok_S : ∀ k, k < 7 → parseFieldDescriptor (T_S k).2.2.1 = some (ty_S k) := by decide +kernel
abbrev R_F : String := "RationalSession$Form"
def T_F : u_T := fun k => match k with
  | 0 => ("RationalSession$Form", "over", "LRationalSession$Polynomial;", true)
  | _ => ("RationalSession$Form", "under", "LRationalSession$Polynomial;", true)
def ty_F : Nat → FieldType := fun k => match k with
  | 0 => .object "RationalSession$Polynomial"
  | _ => .object "RationalSession$Polynomial"
theorem nm_F : ∀ a, a < 2 → ∀ b, b < 2 → a ≠ b → (T_F a).2.1 ≠ (T_F b).2.1 := by decide +kernel
theorem tok_F : ∀ k, k < 2 → parseFieldDescriptor (T_F k).2.2.1 = some (ty_F k) := by decide +kernel
abbrev R_L : String := "RationalSession$Line"
def T_L : u_T := fun k => match k with
  | 0 => ("RationalSession$Line", "row", "[C", true)
  | _ => ("RationalSession$Line", "length", "I", false)
def ty_L : Nat → FieldType := fun k => match k with
  | 0 => .array .char
  | _ => .int
theorem nm_L : ∀ a, a < 2 → ∀ b, b < 2 → a ≠ b → (T_L a).2.1 ≠ (T_L b).2.1 := by decide +kernel
theorem tok_L : ∀ k, k < 2 → parseFieldDescriptor (T_L k).2.2.1 = some (ty_L k) := by decide +kernel
abbrev R_P : String := "RationalSession$Polynomial"
def T_P : u_T := fun k => match k with
  | 0 => ("RationalSession$Polynomial", "row", "[I", true)
  | _ => ("RationalSession$Polynomial", "top", "I", false)
def ty_P : Nat → FieldType := fun k => match k with
  | 0 => .array .int
  | _ => .int
theorem nm_P : ∀ a, a < 2 → ∀ b, b < 2 → a ≠ b → (T_P a).2.1 ≠ (T_P b).2.1 := by decide +kernel
theorem tok_P : ∀ k, k < 2 → parseFieldDescriptor (T_P k).2.2.1 = some (ty_P k) := by decide +kernel
abbrev R_G : String := "RationalSession$Program"
def T_G : u_T := fun k => match k with
  | 0 => ("RationalSession$Program", "kinds", "[I", true)
  | 1 => ("RationalSession$Program", "details", "[I", true)
  | 2 => ("RationalSession$Program", "size", "I", false)
  | _ => ("RationalSession$Program", "target", "I", false)
def ty_G : Nat → FieldType := fun k => match k with
  | 0 => .array .int
  | 1 => .array .int
  | 2 => .int
  | _ => .int
theorem nm_G : ∀ a, a < 4 → ∀ b, b < 4 → a ≠ b → (T_G a).2.1 ≠ (T_G b).2.1 := by decide +kernel
theorem tok_G : ∀ k, k < 4 → parseFieldDescriptor (T_G k).2.2.1 = some (ty_G k) := by decide +kernel
abbrev R_R : String := "RationalSession$Reader"
def T_R : u_T := fun k => match k with
  | 0 => ("RationalSession$Reader", "openings", "[C", true)
  | 1 => ("RationalSession$Reader", "waitingInSum", "[I", true)
  | 2 => ("RationalSession$Reader", "waitingInTerm", "[I", true)
  | 3 => ("RationalSession$Reader", "open", "I", false)
  | 4 => ("RationalSession$Reader", "line", "LRationalSession$Line;", false)
  | 5 => ("RationalSession$Reader", "program", "LRationalSession$Program;", false)
  | 6 => ("RationalSession$Reader", "place", "I", false)
  | 7 => ("RationalSession$Reader", "stuck", "Z", false)
  | 8 => ("RationalSession$Reader", "wantsAtom", "Z", false)
  | 9 => ("RationalSession$Reader", "maySign", "Z", false)
  | _ => ("RationalSession$Reader", "mayPower", "Z", false)
def ty_R : Nat → FieldType := fun k => match k with
  | 0 => .array .char
  | 1 => .array .int
  | 2 => .array .int
  | 3 => .int
  | 4 => .object "RationalSession$Line"
  | 5 => .object "RationalSession$Program"
  | 6 => .int
  | 7 => .boolean
  | 8 => .boolean
  | 9 => .boolean
  | _ => .boolean
theorem nm_R : ∀ a, a < 11 → ∀ b, b < 11 → a ≠ b → (T_R a).2.1 ≠ (T_R b).2.1 := by decide +kernel
theorem tok_R : ∀ k, k < 11 → parseFieldDescriptor (T_R k).2.2.1 = some (ty_R k) := by decide +kernel
abbrev R_H : String := "RationalSession$Shelf"
def T_H : u_T := fun k => match k with
  | 0 => ("RationalSession$Shelf", "forms", "[LRationalSession$Form;", true)
  | 1 => ("RationalSession$Shelf", "shapeNumbers", "[I", true)
  | 2 => ("RationalSession$Shelf", "labelOfName", "[I", true)
  | 3 => ("RationalSession$Shelf", "count", "I", false)
  | _ => ("RationalSession$Shelf", "shapeCount", "I", false)
def ty_H : Nat → FieldType := fun k => match k with
  | 0 => .array (.object "RationalSession$Form")
  | 1 => .array .int
  | 2 => .array .int
  | 3 => .int
  | _ => .int
theorem nm_H : ∀ a, a < 5 → ∀ b, b < 5 → a ≠ b → (T_H a).2.1 ≠ (T_H b).2.1 := by decide +kernel
theorem tok_H : ∀ k, k < 5 → parseFieldDescriptor (T_H k).2.2.1 = some (ty_H k) := by decide +kernel
abbrev R_T : String := "RationalSession$TextSeeker"
def T_T : u_T := fun k => match k with
  | 0 => ("RationalSession$TextSeeker", "wanted", "I", false)
  | 1 => ("RationalSession$TextSeeker", "written", "I", false)
  | _ => ("RationalSession$TextSeeker", "found", "I", false)
def ty_T : Nat → FieldType := fun k => match k with
  | 0 => .int
  | 1 => .int
  | _ => .int
theorem nm_T : ∀ a, a < 3 → ∀ b, b < 3 → a ≠ b → (T_T a).2.1 ≠ (T_T b).2.1 := by decide +kernel
theorem tok_T : ∀ k, k < 3 → parseFieldDescriptor (T_T k).2.2.1 = some (ty_T k) := by decide +kernel
abbrev R_K : String := "RationalSession$Worker"
def T_K : u_T := fun k => match k with
  | 0 => ("RationalSession$Worker", "workshop", "LRationalSession$Workshop;", true)
  | 1 => ("RationalSession$Worker", "stack", "[LRationalSession$Form;", true)
  | _ => ("RationalSession$Worker", "depth", "I", false)
def ty_K : Nat → FieldType := fun k => match k with
  | 0 => .object "RationalSession$Workshop"
  | 1 => .array (.object "RationalSession$Form")
  | _ => .int
theorem nm_K : ∀ a, a < 3 → ∀ b, b < 3 → a ≠ b → (T_K a).2.1 ≠ (T_K b).2.1 := by decide +kernel
theorem tok_K : ∀ k, k < 3 → parseFieldDescriptor (T_K k).2.2.1 = some (ty_K k) := by decide +kernel
abbrev R_W : String := "RationalSession$Workshop"
def T_W : u_T := fun k => match k with
  | 0 => ("RationalSession$Workshop", "over", "LRationalSession$Polynomial;", true)
  | 1 => ("RationalSession$Workshop", "under", "LRationalSession$Polynomial;", true)
  | 2 => ("RationalSession$Workshop", "side", "LRationalSession$Polynomial;", true)
  | 3 => ("RationalSession$Workshop", "help", "LRationalSession$Polynomial;", true)
  | 4 => ("RationalSession$Workshop", "first", "LRationalSession$Polynomial;", true)
  | 5 => ("RationalSession$Workshop", "second", "LRationalSession$Polynomial;", true)
  | _ => ("RationalSession$Workshop", "quotient", "LRationalSession$Polynomial;", true)
def ty_W : Nat → FieldType := fun k => match k with
  | 0 => .object "RationalSession$Polynomial"
  | 1 => .object "RationalSession$Polynomial"
  | 2 => .object "RationalSession$Polynomial"
  | 3 => .object "RationalSession$Polynomial"
  | 4 => .object "RationalSession$Polynomial"
  | 5 => .object "RationalSession$Polynomial"
  | _ => .object "RationalSession$Polynomial"
theorem nm_W : ∀ a, a < 7 → ∀ b, b < 7 → a ≠ b → (T_W a).2.1 ≠ (T_W b).2.1 := by decide +kernel
theorem tok_W : ∀ k, k < 7 → parseFieldDescriptor (T_W k).2.2.1 = some (ty_W k) := by decide +kernel
abbrev R_M : String := "RationalSessionModel"
def T_M : u_T := fun k => match k with
  | 0 => ("RationalSessionModel", "line", "[I", true)
  | 1 => ("RationalSessionModel", "length", "I", false)
  | 2 => ("RationalSessionModel", "labels", "I", false)
  | 3 => ("RationalSessionModel", "bad", "I", false)
  | 4 => ("RationalSessionModel", "level", "I", false)
  | 5 => ("RationalSessionModel", "trouble", "I", false)
  | 6 => ("RationalSessionModel", "wanted", "I", false)
  | 7 => ("RationalSessionModel", "place", "I", false)
  | 8 => ("RationalSessionModel", "found", "I", false)
  | 9 => ("RationalSessionModel", "shapeOf", "[I", true)
  | 10 => ("RationalSessionModel", "boundTo", "[I", true)
  | 11 => ("RationalSessionModel", "num", "[I", true)
  | 12 => ("RationalSessionModel", "den", "[I", true)
  | 13 => ("RationalSessionModel", "p", "[I", true)
  | 14 => ("RationalSessionModel", "q", "[I", true)
  | 15 => ("RationalSessionModel", "m", "[I", true)
  | 16 => ("RationalSessionModel", "solved", "[I", true)
  | 17 => ("RationalSessionModel", "kind", "[I", true)
  | 18 => ("RationalSessionModel", "hasSum", "[Z", true)
  | 19 => ("RationalSessionModel", "hasTerm", "[Z", true)
  | 20 => ("RationalSessionModel", "sumSign", "[I", true)
  | _ => ("RationalSessionModel", "dividing", "[Z", true)
def ty_M : Nat → FieldType := fun k => match k with
  | 0 => .array .int
  | 1 => .int
  | 2 => .int
  | 3 => .int
  | 4 => .int
  | 5 => .int
  | 6 => .int
  | 7 => .int
  | 8 => .int
  | 9 => .array .int
  | 10 => .array .int
  | 11 => .array .int
  | 12 => .array .int
  | 13 => .array .int
  | 14 => .array .int
  | 15 => .array .int
  | 16 => .array .int
  | 17 => .array .int
  | 18 => .array .boolean
  | 19 => .array .boolean
  | 20 => .array .int
  | _ => .array .boolean
theorem nm_M : ∀ a, a < 22 → ∀ b, b < 22 → a ≠ b → (T_M a).2.1 ≠ (T_M b).2.1 := by decide +kernel
theorem tok_M : ∀ k, k < 22 → parseFieldDescriptor (T_M k).2.2.1 = some (ty_M k) := by decide +kernel
abbrev R_Lw : String := "RationalSessionLaw"
abbrev R_jO : String := "java/lang/Object"
abbrev R_jS : String := "java/lang/String"
abbrev R_jL : String := "java/lang/StringLatin1"
abbrev R_jU : String := "java/lang/StringUTF16"
abbrev R_jC : String := "java/lang/Character"
abbrev R_jM : String := "java/lang/Math"
abbrev R_jP : String := "jdk/internal/util/Preconditions"
abbrev vwCl : List vw_C := [(R_S, T_S, 7), (R_F, T_F, 2), (R_L, T_L, 2), (R_P, T_P, 2), (R_G, T_G, 4), (R_R, T_R, 11), (R_H, T_H, 5), (R_T, T_T, 3), (R_K, T_K, 3), (R_W, T_W, 7), (R_M, T_M, 22)]
abbrev c_S_init : ByteArray := prog_1_method_1_code
abbrev y_S_init : MethodName := ⟨"RationalSession", "<init>", "()V"⟩
abbrev c_jO_init : ByteArray := object_method_1_code
abbrev y_jO_init : MethodName := ⟨"java/lang/Object", "<init>", "()V"⟩
abbrev c_L_init : ByteArray := prog_3_method_1_code
abbrev y_L_init : MethodName := ⟨"RationalSession$Line", "<init>", "()V"⟩
abbrev c_R_init : ByteArray := prog_6_method_1_code
abbrev y_R_init : MethodName := ⟨"RationalSession$Reader", "<init>", "()V"⟩
abbrev c_G_init : ByteArray := prog_5_method_1_code
abbrev y_G_init : MethodName := ⟨"RationalSession$Program", "<init>", "()V"⟩
abbrev c_K_init : ByteArray := prog_9_method_1_code
abbrev y_K_init : MethodName := ⟨"RationalSession$Worker", "<init>", "()V"⟩
abbrev c_W_init : ByteArray := prog_10_method_1_code
abbrev y_W_init : MethodName := ⟨"RationalSession$Workshop", "<init>", "()V"⟩
abbrev c_P_init : ByteArray := prog_4_method_1_code
abbrev y_P_init : MethodName := ⟨"RationalSession$Polynomial", "<init>", "(I)V"⟩
abbrev c_F_init : ByteArray := prog_2_method_1_code
abbrev y_F_init : MethodName := ⟨"RationalSession$Form", "<init>", "()V"⟩
abbrev c_H_init : ByteArray := prog_7_method_1_code
abbrev y_H_init : MethodName := ⟨"RationalSession$Shelf", "<init>", "()V"⟩
abbrev c_T_init : ByteArray := prog_8_method_1_code
abbrev y_T_init : MethodName := ⟨"RationalSession$TextSeeker", "<init>", "()V"⟩
abbrev c_S_type : ByteArray := prog_1_method_2_code
abbrev y_S_type : MethodName := ⟨"RationalSession", "type", "(I)I"⟩
abbrev c_L_mayHold : ByteArray := prog_3_method_2_code
abbrev y_L_mayHold : MethodName := ⟨"RationalSession$Line", "mayHold", "(I)Z"⟩
abbrev c_jS_indexOf : ByteArray := prog_15_method_79_code
abbrev y_jS_indexOf : MethodName := ⟨"java/lang/String", "indexOf", "(I)I"⟩
abbrev c_jS_indexOf1 : ByteArray := prog_15_method_80_code
abbrev y_jS_indexOf1 : MethodName := ⟨"java/lang/String", "indexOf", "(II)I"⟩
abbrev c_jS_isLatin1 : ByteArray := prog_15_method_154_code
abbrev y_jS_isLatin1 : MethodName := ⟨"java/lang/String", "isLatin1", "()Z"⟩
abbrev c_jS_length : ByteArray := prog_15_method_54_code
abbrev y_jS_length : MethodName := ⟨"java/lang/String", "length", "()I"⟩
abbrev c_jS_coder : ByteArray := prog_15_method_152_code
abbrev y_jS_coder : MethodName := ⟨"java/lang/String", "coder", "()B"⟩
abbrev c_jL_indexOf : ByteArray := prog_16_method_22_code
abbrev y_jL_indexOf : MethodName := ⟨"java/lang/StringLatin1", "indexOf", "([BIII)I"⟩
abbrev c_jL_canEncode : ByteArray := prog_16_method_4_code
abbrev y_jL_canEncode : MethodName := ⟨"java/lang/StringLatin1", "canEncode", "(I)Z"⟩
abbrev c_jM_max : ByteArray := prog_14_method_65_code
abbrev y_jM_max : MethodName := ⟨"java/lang/Math", "max", "(II)I"⟩
abbrev c_jM_min : ByteArray := prog_14_method_69_code
abbrev y_jM_min : MethodName := ⟨"java/lang/Math", "min", "(II)I"⟩
abbrev c_jL_indexOfChar : ByteArray := prog_16_method_23_code
abbrev y_jL_indexOfChar : MethodName := ⟨"java/lang/StringLatin1", "indexOfChar", "([BIII)I"⟩
abbrev c_jU_indexOf : ByteArray := prog_17_method_40_code
abbrev y_jU_indexOf : MethodName := ⟨"java/lang/StringUTF16", "indexOf", "([BIII)I"⟩
abbrev c_jU_indexOfChar : ByteArray := prog_17_method_47_code
abbrev y_jU_indexOfChar : MethodName := ⟨"java/lang/StringUTF16", "indexOfChar", "([BIII)I"⟩
abbrev c_jU_checkBoundsBeginEnd : ByteArray := prog_17_method_93_code
abbrev y_jU_checkBoundsBeginEnd : MethodName := ⟨"java/lang/StringUTF16", "checkBoundsBeginEnd", "(II[B)V"⟩
abbrev c_jU_length : ByteArray := prog_17_method_6_code
abbrev y_jU_length : MethodName := ⟨"java/lang/StringUTF16", "length", "([B)I"⟩
abbrev c_jS_checkBoundsBeginEnd : ByteArray := prog_15_method_158_code
abbrev y_jS_checkBoundsBeginEnd : MethodName := ⟨"java/lang/String", "checkBoundsBeginEnd", "(III)V"⟩
abbrev c_jP_checkFromToIndex : ByteArray := prog_18_method_12_code
abbrev y_jP_checkFromToIndex : MethodName := ⟨"jdk/internal/util/Preconditions", "checkFromToIndex", "(IIILjava/util/function/BiFunction;)I"⟩
abbrev c_jU_indexOfCharUnsafe : ByteArray := prog_17_method_48_code
abbrev y_jU_indexOfCharUnsafe : MethodName := ⟨"java/lang/StringUTF16", "indexOfCharUnsafe", "([BIII)I"⟩
abbrev c_jU_getChar : ByteArray := prog_17_method_5_code
abbrev y_jU_getChar : MethodName := ⟨"java/lang/StringUTF16", "getChar", "([BI)C"⟩
abbrev c_jU_indexOfSupplementary : ByteArray := prog_17_method_49_code
abbrev y_jU_indexOfSupplementary : MethodName := ⟨"java/lang/StringUTF16", "indexOfSupplementary", "([BIII)I"⟩
abbrev c_jC_isValidCodePoint : ByteArray := prog_13_method_11_code
abbrev y_jC_isValidCodePoint : MethodName := ⟨"java/lang/Character", "isValidCodePoint", "(I)Z"⟩
abbrev c_jC_highSurrogate : ByteArray := prog_13_method_28_code
abbrev y_jC_highSurrogate : MethodName := ⟨"java/lang/Character", "highSurrogate", "(I)C"⟩
abbrev c_jC_lowSurrogate : ByteArray := prog_13_method_29_code
abbrev y_jC_lowSurrogate : MethodName := ⟨"java/lang/Character", "lowSurrogate", "(I)C"⟩
abbrev c_L_add : ByteArray := prog_3_method_3_code
abbrev y_L_add : MethodName := ⟨"RationalSession$Line", "add", "(C)Z"⟩
abbrev c_S_types : ByteArray := prog_1_method_3_code
abbrev y_S_types : MethodName := ⟨"RationalSession", "types", "(J)I"⟩
abbrev c_S_back : ByteArray := prog_1_method_4_code
abbrev y_S_back : MethodName := ⟨"RationalSession", "back", "()I"⟩
abbrev c_L_dropLast : ByteArray := prog_3_method_4_code
abbrev y_L_dropLast : MethodName := ⟨"RationalSession$Line", "dropLast", "()Z"⟩
abbrev c_S_enter : ByteArray := prog_1_method_5_code
abbrev y_S_enter : MethodName := ⟨"RationalSession", "enter", "()I"⟩
abbrev c_R_read : ByteArray := prog_6_method_2_code
abbrev y_R_read : MethodName := ⟨"RationalSession$Reader", "read", "(LRationalSession$Line;LRationalSession$Program;)I"⟩
abbrev c_G_clear : ByteArray := prog_5_method_2_code
abbrev y_G_clear : MethodName := ⟨"RationalSession$Program", "clear", "()V"⟩
abbrev c_R_startSum : ByteArray := prog_6_method_6_code
abbrev y_R_startSum : MethodName := ⟨"RationalSession$Reader", "startSum", "()V"⟩
abbrev c_R_readTarget : ByteArray := prog_6_method_3_code
abbrev y_R_readTarget : MethodName := ⟨"RationalSession$Reader", "readTarget", "()V"⟩
abbrev c_L_at : ByteArray := prog_3_method_6_code
abbrev y_L_at : MethodName := ⟨"RationalSession$Line", "at", "(I)C"⟩
abbrev c_R_isName : ByteArray := prog_6_method_16_code
abbrev y_R_isName : MethodName := ⟨"RationalSession$Reader", "isName", "(C)Z"⟩
abbrev c_R_readBeforeAtom : ByteArray := prog_6_method_4_code
abbrev y_R_readBeforeAtom : MethodName := ⟨"RationalSession$Reader", "readBeforeAtom", "(C)V"⟩
abbrev c_R_isDigit : ByteArray := prog_6_method_15_code
abbrev y_R_isDigit : MethodName := ⟨"RationalSession$Reader", "isDigit", "(C)Z"⟩
abbrev c_R_readNumber : ByteArray := prog_6_method_12_code
abbrev y_R_readNumber : MethodName := ⟨"RationalSession$Reader", "readNumber", "(II)I"⟩
abbrev c_R_endAtom : ByteArray := prog_6_method_8_code
abbrev y_R_endAtom : MethodName := ⟨"RationalSession$Reader", "endAtom", "(II)V"⟩
abbrev c_G_add : ByteArray := prog_5_method_3_code
abbrev y_G_add : MethodName := ⟨"RationalSession$Program", "add", "(II)V"⟩
abbrev c_R_readOpening : ByteArray := prog_6_method_9_code
abbrev y_R_readOpening : MethodName := ⟨"RationalSession$Reader", "readOpening", "(C)V"⟩
abbrev c_R_readAfterAtom : ByteArray := prog_6_method_5_code
abbrev y_R_readAfterAtom : MethodName := ⟨"RationalSession$Reader", "readAfterAtom", "(C)V"⟩
abbrev c_R_readExponent : ByteArray := prog_6_method_11_code
abbrev y_R_readExponent : MethodName := ⟨"RationalSession$Reader", "readExponent", "()V"⟩
abbrev c_R_finishPower : ByteArray := prog_6_method_13_code
abbrev y_R_finishPower : MethodName := ⟨"RationalSession$Reader", "finishPower", "()V"⟩
abbrev c_R_startAtom : ByteArray := prog_6_method_7_code
abbrev y_R_startAtom : MethodName := ⟨"RationalSession$Reader", "startAtom", "()V"⟩
abbrev c_R_finishTerm : ByteArray := prog_6_method_14_code
abbrev y_R_finishTerm : MethodName := ⟨"RationalSession$Reader", "finishTerm", "()V"⟩
abbrev c_R_closeOpening : ByteArray := prog_6_method_10_code
abbrev y_R_closeOpening : MethodName := ⟨"RationalSession$Reader", "closeOpening", "()V"⟩
abbrev c_L_clear : ByteArray := prog_3_method_5_code
abbrev y_L_clear : MethodName := ⟨"RationalSession$Line", "clear", "()V"⟩
abbrev c_H_isFull : ByteArray := prog_7_method_3_code
abbrev y_H_isFull : MethodName := ⟨"RationalSession$Shelf", "isFull", "()Z"⟩
abbrev c_K_run : ByteArray := prog_9_method_2_code
abbrev y_K_run : MethodName := ⟨"RationalSession$Worker", "run", "(LRationalSession$Program;LRationalSession$Shelf;)I"⟩
abbrev c_G_loads : ByteArray := prog_5_method_4_code
abbrev y_G_loads : MethodName := ⟨"RationalSession$Program", "loads", "(I)Z"⟩
abbrev c_K_load : ByteArray := prog_9_method_4_code
abbrev y_K_load : MethodName := ⟨"RationalSession$Worker", "load", "(IILRationalSession$Shelf;)I"⟩
abbrev c_F_setConstant : ByteArray := prog_2_method_5_code
abbrev y_F_setConstant : MethodName := ⟨"RationalSession$Form", "setConstant", "(I)V"⟩
abbrev c_P_setConstant : ByteArray := prog_4_method_5_code
abbrev y_P_setConstant : MethodName := ⟨"RationalSession$Polynomial", "setConstant", "(I)V"⟩
abbrev c_F_setLetter : ByteArray := prog_2_method_6_code
abbrev y_F_setLetter : MethodName := ⟨"RationalSession$Form", "setLetter", "()V"⟩
abbrev c_P_setLetter : ByteArray := prog_4_method_6_code
abbrev y_P_setLetter : MethodName := ⟨"RationalSession$Polynomial", "setLetter", "()V"⟩
abbrev c_H_labelBoundTo : ByteArray := prog_7_method_6_code
abbrev y_H_labelBoundTo : MethodName := ⟨"RationalSession$Shelf", "labelBoundTo", "(I)I"⟩
abbrev c_H_find : ByteArray := prog_7_method_4_code
abbrev y_H_find : MethodName := ⟨"RationalSession$Shelf", "find", "(I)LRationalSession$Form;"⟩
abbrev c_F_copy : ByteArray := prog_2_method_7_code
abbrev y_F_copy : MethodName := ⟨"RationalSession$Form", "copy", "(LRationalSession$Form;)V"⟩
abbrev c_P_copy : ByteArray := prog_4_method_7_code
abbrev y_P_copy : MethodName := ⟨"RationalSession$Polynomial", "copy", "(LRationalSession$Polynomial;)V"⟩
abbrev c_K_operate : ByteArray := prog_9_method_5_code
abbrev y_K_operate : MethodName := ⟨"RationalSession$Worker", "operate", "(II)I"⟩
abbrev c_G_hasTwoSides : ByteArray := prog_5_method_5_code
abbrev y_G_hasTwoSides : MethodName := ⟨"RationalSession$Program", "hasTwoSides", "(I)Z"⟩
abbrev c_W_add : ByteArray := prog_10_method_2_code
abbrev y_W_add : MethodName := ⟨"RationalSession$Workshop", "add", "(LRationalSession$Form;LRationalSession$Form;I)V"⟩
abbrev c_P_setProduct : ByteArray := prog_4_method_9_code
abbrev y_P_setProduct : MethodName := ⟨"RationalSession$Polynomial", "setProduct", "(LRationalSession$Polynomial;LRationalSession$Polynomial;)V"⟩
abbrev c_P_isZero : ByteArray := prog_4_method_2_code
abbrev y_P_isZero : MethodName := ⟨"RationalSession$Polynomial", "isZero", "()Z"⟩
abbrev c_P_addMultiple : ByteArray := prog_4_method_12_code
abbrev y_P_addMultiple : MethodName := ⟨"RationalSession$Polynomial", "addMultiple", "(LRationalSession$Polynomial;I)V"⟩
abbrev c_P_get : ByteArray := prog_4_method_3_code
abbrev y_P_get : MethodName := ⟨"RationalSession$Polynomial", "get", "(I)I"⟩
abbrev c_P_trimFrom : ByteArray := prog_4_method_15_code
abbrev y_P_trimFrom : MethodName := ⟨"RationalSession$Polynomial", "trimFrom", "(I)V"⟩
abbrev c_W_multiply : ByteArray := prog_10_method_3_code
abbrev y_W_multiply : MethodName := ⟨"RationalSession$Workshop", "multiply", "(LRationalSession$Form;LRationalSession$Form;)V"⟩
abbrev c_W_divide : ByteArray := prog_10_method_4_code
abbrev y_W_divide : MethodName := ⟨"RationalSession$Workshop", "divide", "(LRationalSession$Form;LRationalSession$Form;)I"⟩
abbrev c_F_isZero : ByteArray := prog_2_method_3_code
abbrev y_F_isZero : MethodName := ⟨"RationalSession$Form", "isZero", "()Z"⟩
abbrev c_W_compose : ByteArray := prog_10_method_9_code
abbrev y_W_compose : MethodName := ⟨"RationalSession$Workshop", "compose", "(LRationalSession$Form;LRationalSession$Form;)I"⟩
abbrev c_F_height : ByteArray := prog_2_method_4_code
abbrev y_F_height : MethodName := ⟨"RationalSession$Form", "height", "()I"⟩
abbrev c_W_putInto : ByteArray := prog_10_method_10_code
abbrev y_W_putInto : MethodName := ⟨"RationalSession$Workshop", "putInto", "(LRationalSession$Polynomial;ILRationalSession$Form;LRationalSession$Polynomial;)V"⟩
abbrev c_W_power : ByteArray := prog_10_method_7_code
abbrev y_W_power : MethodName := ⟨"RationalSession$Workshop", "power", "(LRationalSession$Form;I)I"⟩
abbrev c_jM_abs : ByteArray := prog_14_method_59_code
abbrev y_jM_abs : MethodName := ⟨"java/lang/Math", "abs", "(I)I"⟩
abbrev c_W_raise : ByteArray := prog_10_method_8_code
abbrev y_W_raise : MethodName := ⟨"RationalSession$Workshop", "raise", "(LRationalSession$Polynomial;ILRationalSession$Polynomial;)V"⟩
abbrev c_W_derive : ByteArray := prog_10_method_6_code
abbrev y_W_derive : MethodName := ⟨"RationalSession$Workshop", "derive", "(LRationalSession$Form;)V"⟩
abbrev c_P_setDerivative : ByteArray := prog_4_method_10_code
abbrev y_P_setDerivative : MethodName := ⟨"RationalSession$Polynomial", "setDerivative", "(LRationalSession$Polynomial;)V"⟩
abbrev c_W_negate : ByteArray := prog_10_method_5_code
abbrev y_W_negate : MethodName := ⟨"RationalSession$Workshop", "negate", "(LRationalSession$Form;)V"⟩
abbrev c_P_scale : ByteArray := prog_4_method_11_code
abbrev y_P_scale : MethodName := ⟨"RationalSession$Polynomial", "scale", "(I)V"⟩
abbrev c_W_settle : ByteArray := prog_10_method_11_code
abbrev y_W_settle : MethodName := ⟨"RationalSession$Workshop", "settle", "(LRationalSession$Form;)I"⟩
abbrev c_W_commonDivisor : ByteArray := prog_10_method_12_code
abbrev y_W_commonDivisor : MethodName := ⟨"RationalSession$Workshop", "commonDivisor", "()LRationalSession$Polynomial;"⟩
abbrev c_P_lead : ByteArray := prog_4_method_4_code
abbrev y_P_lead : MethodName := ⟨"RationalSession$Polynomial", "lead", "()I"⟩
abbrev c_S_inverse : ByteArray := prog_1_method_17_code
abbrev y_S_inverse : MethodName := ⟨"RationalSession", "inverse", "(I)I"⟩
abbrev c_P_divideBy : ByteArray := prog_4_method_13_code
abbrev y_P_divideBy : MethodName := ⟨"RationalSession$Polynomial", "divideBy", "(LRationalSession$Polynomial;LRationalSession$Polynomial;)V"⟩
abbrev c_K_result : ByteArray := prog_9_method_3_code
abbrev y_K_result : MethodName := ⟨"RationalSession$Worker", "result", "()LRationalSession$Form;"⟩
abbrev c_H_keep : ByteArray := prog_7_method_8_code
abbrev y_H_keep : MethodName := ⟨"RationalSession$Shelf", "keep", "(LRationalSession$Form;)I"⟩
abbrev c_H_shapeNumberFor : ByteArray := prog_7_method_9_code
abbrev y_H_shapeNumberFor : MethodName := ⟨"RationalSession$Shelf", "shapeNumberFor", "(LRationalSession$Form;)I"⟩
abbrev c_F_isSame : ByteArray := prog_2_method_8_code
abbrev y_F_isSame : MethodName := ⟨"RationalSession$Form", "isSame", "(LRationalSession$Form;)Z"⟩
abbrev c_P_isSame : ByteArray := prog_4_method_8_code
abbrev y_P_isSame : MethodName := ⟨"RationalSession$Polynomial", "isSame", "(LRationalSession$Polynomial;)Z"⟩
abbrev c_H_bind : ByteArray := prog_7_method_7_code
abbrev y_H_bind : MethodName := ⟨"RationalSession$Shelf", "bind", "(II)V"⟩
abbrev c_S_badPlace : ByteArray := prog_1_method_6_code
abbrev y_S_badPlace : MethodName := ⟨"RationalSession", "badPlace", "()I"⟩
abbrev c_S_degree : ByteArray := prog_1_method_7_code
abbrev y_S_degree : MethodName := ⟨"RationalSession", "degree", "(IZ)I"⟩
abbrev c_F_part : ByteArray := prog_2_method_2_code
abbrev y_F_part : MethodName := ⟨"RationalSession$Form", "part", "(Z)LRationalSession$Polynomial;"⟩
abbrev c_S_coefficient : ByteArray := prog_1_method_8_code
abbrev y_S_coefficient : MethodName := ⟨"RationalSession", "coefficient", "(IZI)I"⟩
abbrev c_S_shape : ByteArray := prog_1_method_9_code
abbrev y_S_shape : MethodName := ⟨"RationalSession", "shape", "(I)I"⟩
abbrev c_H_shapeOf : ByteArray := prog_7_method_5_code
abbrev y_H_shapeOf : MethodName := ⟨"RationalSession$Shelf", "shapeOf", "(I)I"⟩
abbrev c_S_shapes : ByteArray := prog_1_method_10_code
abbrev y_S_shapes : MethodName := ⟨"RationalSession", "shapes", "()I"⟩
abbrev c_S_labels : ByteArray := prog_1_method_11_code
abbrev y_S_labels : MethodName := ⟨"RationalSession", "labels", "()I"⟩
abbrev c_S_bound : ByteArray := prog_1_method_12_code
abbrev y_S_bound : MethodName := ⟨"RationalSession", "bound", "(I)I"⟩
abbrev c_S_value : ByteArray := prog_1_method_13_code
abbrev y_S_value : MethodName := ⟨"RationalSession", "value", "(II)I"⟩
abbrev c_jM_floorMod : ByteArray := prog_14_method_50_code
abbrev y_jM_floorMod : MethodName := ⟨"java/lang/Math", "floorMod", "(II)I"⟩
abbrev c_P_valueAt : ByteArray := prog_4_method_14_code
abbrev y_P_valueAt : MethodName := ⟨"RationalSession$Polynomial", "valueAt", "(I)I"⟩
abbrev c_S_text : ByteArray := prog_1_method_14_code
abbrev y_S_text : MethodName := ⟨"RationalSession", "text", "(II)I"⟩
abbrev c_T_seek : ByteArray := prog_8_method_2_code
abbrev y_T_seek : MethodName := ⟨"RationalSession$TextSeeker", "seek", "(LRationalSession$Form;I)I"⟩
abbrev c_T_spell : ByteArray := prog_8_method_3_code
abbrev y_T_spell : MethodName := ⟨"RationalSession$TextSeeker", "spell", "(LRationalSession$Polynomial;)V"⟩
abbrev c_T_put : ByteArray := prog_8_method_6_code
abbrev y_T_put : MethodName := ⟨"RationalSession$TextSeeker", "put", "(C)V"⟩
abbrev c_T_spellPart : ByteArray := prog_8_method_4_code
abbrev y_T_spellPart : MethodName := ⟨"RationalSession$TextSeeker", "spellPart", "(II)V"⟩
abbrev c_T_spellNumber : ByteArray := prog_8_method_5_code
abbrev y_T_spellNumber : MethodName := ⟨"RationalSession$TextSeeker", "spellNumber", "(I)V"⟩
abbrev c_S_line : ByteArray := prog_1_method_15_code
abbrev y_S_line : MethodName := ⟨"RationalSession", "line", "(I)I"⟩
abbrev c_S_reset : ByteArray := prog_1_method_16_code
abbrev y_S_reset : MethodName := ⟨"RationalSession", "reset", "()V"⟩
abbrev c_H_clear : ByteArray := prog_7_method_2_code
abbrev y_H_clear : MethodName := ⟨"RationalSession$Shelf", "clear", "()V"⟩
abbrev c_M_init : ByteArray := prog_12_method_1_code
abbrev y_M_init : MethodName := ⟨"RationalSessionModel", "<init>", "()V"⟩
abbrev c_M_type : ByteArray := prog_12_method_5_code
abbrev y_M_type : MethodName := ⟨"RationalSessionModel", "type", "(I)I"⟩
abbrev c_M_known : ByteArray := prog_12_method_4_code
abbrev y_M_known : MethodName := ⟨"RationalSessionModel", "known", "(I)Z"⟩
abbrev c_M_digit : ByteArray := prog_12_method_2_code
abbrev y_M_digit : MethodName := ⟨"RationalSessionModel", "digit", "(I)Z"⟩
abbrev c_M_name : ByteArray := prog_12_method_3_code
abbrev y_M_name : MethodName := ⟨"RationalSessionModel", "name", "(I)Z"⟩
abbrev c_M_types : ByteArray := prog_12_method_6_code
abbrev y_M_types : MethodName := ⟨"RationalSessionModel", "types", "(J)I"⟩
abbrev c_M_back : ByteArray := prog_12_method_7_code
abbrev y_M_back : MethodName := ⟨"RationalSessionModel", "back", "()I"⟩
abbrev c_M_enter : ByteArray := prog_12_method_41_code
abbrev y_M_enter : MethodName := ⟨"RationalSessionModel", "enter", "()I"⟩
abbrev c_M_work : ByteArray := prog_12_method_42_code
abbrev y_M_work : MethodName := ⟨"RationalSessionModel", "work", "()I"⟩
abbrev c_M_badPlaceOf : ByteArray := prog_12_method_13_code
abbrev y_M_badPlaceOf : MethodName := ⟨"RationalSessionModel", "badPlaceOf", "()I"⟩
abbrev c_M_stateAt : ByteArray := prog_12_method_8_code
abbrev y_M_stateAt : MethodName := ⟨"RationalSessionModel", "stateAt", "(II)I"⟩
abbrev c_M_open : ByteArray := prog_12_method_10_code
abbrev y_M_open : MethodName := ⟨"RationalSessionModel", "open", "(I)I"⟩
abbrev c_M_begin : ByteArray := prog_12_method_9_code
abbrev y_M_begin : MethodName := ⟨"RationalSessionModel", "begin", "(II)I"⟩
abbrev c_M_close : ByteArray := prog_12_method_11_code
abbrev y_M_close : MethodName := ⟨"RationalSessionModel", "close", "()I"⟩
abbrev c_M_complete : ByteArray := prog_12_method_12_code
abbrev y_M_complete : MethodName := ⟨"RationalSessionModel", "complete", "(I)Z"⟩
abbrev c_M_start : ByteArray := prog_12_method_32_code
abbrev y_M_start : MethodName := ⟨"RationalSessionModel", "start", "(I)V"⟩
abbrev c_M_advance : ByteArray := prog_12_method_40_code
abbrev y_M_advance : MethodName := ⟨"RationalSessionModel", "advance", "(I)I"⟩
abbrev c_M_term : ByteArray := prog_12_method_34_code
abbrev y_M_term : MethodName := ⟨"RationalSessionModel", "term", "()V"⟩
abbrev c_M_add : ByteArray := prog_12_method_26_code
abbrev y_M_add : MethodName := ⟨"RationalSessionModel", "add", "(IIII)V"⟩
abbrev c_M_blank : ByteArray := prog_12_method_18_code
abbrev y_M_blank : MethodName := ⟨"RationalSessionModel", "blank", "()V"⟩
abbrev c_M_product : ByteArray := prog_12_method_25_code
abbrev y_M_product : MethodName := ⟨"RationalSessionModel", "product", "(IZIZIZ)V"⟩
abbrev c_M_form : ByteArray := prog_12_method_23_code
abbrev y_M_form : MethodName := ⟨"RationalSessionModel", "form", "(I)V"⟩
abbrev c_M_topOf : ByteArray := prog_12_method_22_code
abbrev y_M_topOf : MethodName := ⟨"RationalSessionModel", "topOf", "(Z)I"⟩
abbrev c_M_constant : ByteArray := prog_12_method_16_code
abbrev y_M_constant : MethodName := ⟨"RationalSessionModel", "constant", "(II)V"⟩
abbrev c_M_solve : ByteArray := prog_12_method_19_code
abbrev y_M_solve : MethodName := ⟨"RationalSessionModel", "solve", "(III)Z"⟩
abbrev c_M_eliminate : ByteArray := prog_12_method_20_code
abbrev y_M_eliminate : MethodName := ⟨"RationalSessionModel", "eliminate", "(III)V"⟩
abbrev c_M_inverse : ByteArray := prog_12_method_17_code
abbrev y_M_inverse : MethodName := ⟨"RationalSessionModel", "inverse", "(I)I"⟩
abbrev c_M_subtract : ByteArray := prog_12_method_21_code
abbrev y_M_subtract : MethodName := ⟨"RationalSessionModel", "subtract", "(III)V"⟩
abbrev c_M_unknown : ByteArray := prog_12_method_24_code
abbrev y_M_unknown : MethodName := ⟨"RationalSessionModel", "unknown", "(II)I"⟩
abbrev c_M_copy : ByteArray := prog_12_method_15_code
abbrev y_M_copy : MethodName := ⟨"RationalSessionModel", "copy", "(II)V"⟩
abbrev c_M_closed : ByteArray := prog_12_method_35_code
abbrev y_M_closed : MethodName := ⟨"RationalSessionModel", "closed", "()V"⟩
abbrev c_M_derive : ByteArray := prog_12_method_29_code
abbrev y_M_derive : MethodName := ⟨"RationalSessionModel", "derive", "(II)V"⟩
abbrev c_M_substitute : ByteArray := prog_12_method_31_code
abbrev y_M_substitute : MethodName := ⟨"RationalSessionModel", "substitute", "(III)V"⟩
abbrev c_M_top : ByteArray := prog_12_method_14_code
abbrev y_M_top : MethodName := ⟨"RationalSessionModel", "top", "(IZ)I"⟩
abbrev c_M_put : ByteArray := prog_12_method_30_code
abbrev y_M_put : MethodName := ⟨"RationalSessionModel", "put", "(IZII)V"⟩
abbrev c_M_times : ByteArray := prog_12_method_27_code
abbrev y_M_times : MethodName := ⟨"RationalSessionModel", "times", "(IIZI)V"⟩
abbrev c_M_raise : ByteArray := prog_12_method_39_code
abbrev y_M_raise : MethodName := ⟨"RationalSessionModel", "raise", "(I)I"⟩
abbrev c_M_digits : ByteArray := prog_12_method_36_code
abbrev y_M_digits : MethodName := ⟨"RationalSessionModel", "digits", "(I)I"⟩
abbrev c_M_worth : ByteArray := prog_12_method_37_code
abbrev y_M_worth : MethodName := ⟨"RationalSessionModel", "worth", "(II)I"⟩
abbrev c_M_power : ByteArray := prog_12_method_28_code
abbrev y_M_power : MethodName := ⟨"RationalSessionModel", "power", "(IZ)V"⟩
abbrev c_M_factor : ByteArray := prog_12_method_33_code
abbrev y_M_factor : MethodName := ⟨"RationalSessionModel", "factor", "()V"⟩
abbrev c_M_atom : ByteArray := prog_12_method_38_code
abbrev y_M_atom : MethodName := ⟨"RationalSessionModel", "atom", "(I)I"⟩
abbrev c_M_shapes : ByteArray := prog_12_method_49_code
abbrev y_M_shapes : MethodName := ⟨"RationalSessionModel", "shapes", "()I"⟩
abbrev c_M_alike : ByteArray := prog_12_method_43_code
abbrev y_M_alike : MethodName := ⟨"RationalSessionModel", "alike", "(II)Z"⟩
abbrev c_M_badPlace : ByteArray := prog_12_method_45_code
abbrev y_M_badPlace : MethodName := ⟨"RationalSessionModel", "badPlace", "()I"⟩
abbrev c_M_degree : ByteArray := prog_12_method_46_code
abbrev y_M_degree : MethodName := ⟨"RationalSessionModel", "degree", "(IZ)I"⟩
abbrev c_M_noLabel : ByteArray := prog_12_method_44_code
abbrev y_M_noLabel : MethodName := ⟨"RationalSessionModel", "noLabel", "(I)Z"⟩
abbrev c_M_coefficient : ByteArray := prog_12_method_47_code
abbrev y_M_coefficient : MethodName := ⟨"RationalSessionModel", "coefficient", "(IZI)I"⟩
abbrev c_M_shape : ByteArray := prog_12_method_48_code
abbrev y_M_shape : MethodName := ⟨"RationalSessionModel", "shape", "(I)I"⟩
abbrev c_M_labels : ByteArray := prog_12_method_50_code
abbrev y_M_labels : MethodName := ⟨"RationalSessionModel", "labels", "()I"⟩
abbrev c_M_bound : ByteArray := prog_12_method_51_code
abbrev y_M_bound : MethodName := ⟨"RationalSessionModel", "bound", "(I)I"⟩
abbrev c_M_value : ByteArray := prog_12_method_52_code
abbrev y_M_value : MethodName := ⟨"RationalSessionModel", "value", "(II)I"⟩
abbrev c_M_text : ByteArray := prog_12_method_56_code
abbrev y_M_text : MethodName := ⟨"RationalSessionModel", "text", "(II)I"⟩
abbrev c_M_emit : ByteArray := prog_12_method_53_code
abbrev y_M_emit : MethodName := ⟨"RationalSessionModel", "emit", "(I)V"⟩
abbrev c_M_emitPolynomial : ByteArray := prog_12_method_55_code
abbrev y_M_emitPolynomial : MethodName := ⟨"RationalSessionModel", "emitPolynomial", "(IZ)V"⟩
abbrev c_M_emitNumber : ByteArray := prog_12_method_54_code
abbrev y_M_emitNumber : MethodName := ⟨"RationalSessionModel", "emitNumber", "(I)V"⟩
abbrev c_M_line : ByteArray := prog_12_method_57_code
abbrev y_M_line : MethodName := ⟨"RationalSessionModel", "line", "(I)I"⟩
abbrev c_M_reset : ByteArray := prog_12_method_58_code
abbrev y_M_reset : MethodName := ⟨"RationalSessionModel", "reset", "()V"⟩
end
section
/-! the words that hold in every method: all of the tables' that a warmer machine keeps; those of nest mates and of arrays over a class apart -/
def zWS : List Cond := lw_tbl.filter goodWord
def zisN (w : Cond) : Bool := match w with
  | .fieldLinkNest .. => true
  | .methodLinkNest .. => true
  | _ => false
def zN : List Cond := tables_1.filter zisN
theorem zin_t1 {w : Cond} (i : Nat) (h : tables_1_1[i]? = some w) (g : goodWord w = true) : w ∈ zWS := List.mem_filter.mpr ⟨List.mem_append_right _ (List.mem_append_left _ (List.mem_of_getElem? h)), g⟩
theorem zin_t2 {w : Cond} (i : Nat) (h : tables_1_2[i]? = some w) (g : goodWord w = true) : w ∈ zWS := List.mem_filter.mpr ⟨List.mem_append_right _ (List.mem_append_right _ (List.mem_append_left _ (List.mem_of_getElem? h))), g⟩
theorem zin_t3 {w : Cond} (i : Nat) (h : tables_1_3[i]? = some w) (g : goodWord w = true) : w ∈ zWS := List.mem_filter.mpr ⟨List.mem_append_right _ (List.mem_append_right _ (List.mem_append_right _ (List.mem_append_left _ (List.mem_of_getElem? h)))), g⟩
theorem zin_t4 {w : Cond} (i : Nat) (h : tables_1_4[i]? = some w) (g : goodWord w = true) : w ∈ zWS := List.mem_filter.mpr ⟨List.mem_append_right _ (List.mem_append_right _ (List.mem_append_right _ (List.mem_append_right _ (List.mem_append_left _ (List.mem_of_getElem? h))))), g⟩
theorem zin_t5 {w : Cond} (i : Nat) (h : tables_1_5[i]? = some w) (g : goodWord w = true) : w ∈ zWS := List.mem_filter.mpr ⟨List.mem_append_right _ (List.mem_append_right _ (List.mem_append_right _ (List.mem_append_right _ (List.mem_append_right _ (List.mem_of_getElem? h))))), g⟩
theorem zin_p {w : Cond} (i : Nat) (h : (k2_sels lw_privs)[i]? = some w) (g : goodWord w = true) : w ∈ zWS := List.mem_filter.mpr ⟨List.mem_append_left _ (List.mem_of_getElem? h), g⟩
theorem zin_n1 {w : Cond} (i : Nat) (h : tables_1_1[i]? = some w) (g : zisN w = true) : w ∈ zN := List.mem_filter.mpr ⟨List.mem_append_left _ (List.mem_of_getElem? h), g⟩
theorem zin_n2 {w : Cond} (i : Nat) (h : tables_1_2[i]? = some w) (g : zisN w = true) : w ∈ zN := List.mem_filter.mpr ⟨List.mem_append_right _ (List.mem_append_left _ (List.mem_of_getElem? h)), g⟩
theorem zin_n3 {w : Cond} (i : Nat) (h : tables_1_3[i]? = some w) (g : zisN w = true) : w ∈ zN := List.mem_filter.mpr ⟨List.mem_append_right _ (List.mem_append_right _ (List.mem_append_left _ (List.mem_of_getElem? h))), g⟩
theorem zin_n4 {w : Cond} (i : Nat) (h : tables_1_4[i]? = some w) (g : zisN w = true) : w ∈ zN := List.mem_filter.mpr ⟨List.mem_append_right _ (List.mem_append_right _ (List.mem_append_right _ (List.mem_append_left _ (List.mem_of_getElem? h)))), g⟩
theorem zin_n5 {w : Cond} (i : Nat) (h : tables_1_5[i]? = some w) (g : zisN w = true) : w ∈ zN := List.mem_filter.mpr ⟨List.mem_append_right _ (List.mem_append_right _ (List.mem_append_right _ (List.mem_append_right _ (List.mem_of_getElem? h)))), g⟩
set_option maxRecDepth 4000 in
theorem zrec : True := trivial
theorem ii_Lw : (Cond.initialized "RationalSessionLaw") ∈ zWS := zin_t1 0 rfl rfl
theorem ii_S : (Cond.initialized "RationalSession") ∈ zWS := zin_t1 1 rfl rfl
theorem ii_L : (Cond.initialized "RationalSession$Line") ∈ zWS := zin_t1 2 rfl rfl
theorem ii_R : (Cond.initialized "RationalSession$Reader") ∈ zWS := zin_t1 3 rfl rfl
theorem ii_G : (Cond.initialized "RationalSession$Program") ∈ zWS := zin_t1 4 rfl rfl
theorem ii_K : (Cond.initialized "RationalSession$Worker") ∈ zWS := zin_t1 5 rfl rfl
theorem ii_W : (Cond.initialized "RationalSession$Workshop") ∈ zWS := zin_t1 6 rfl rfl
theorem ii_P : (Cond.initialized "RationalSession$Polynomial") ∈ zWS := zin_t1 7 rfl rfl
theorem ii_F : (Cond.initialized "RationalSession$Form") ∈ zWS := zin_t1 8 rfl rfl
theorem ii_H : (Cond.initialized "RationalSession$Shelf") ∈ zWS := zin_t1 9 rfl rfl
theorem ii_T : (Cond.initialized "RationalSession$TextSeeker") ∈ zWS := zin_t1 10 rfl rfl
theorem ii_M : (Cond.initialized "RationalSessionModel") ∈ zWS := zin_t1 11 rfl rfl
theorem ii_jS : (Cond.initialized "java/lang/String") ∈ zWS := zin_t1 12 rfl rfl
theorem ii_jL : (Cond.initialized "java/lang/StringLatin1") ∈ zWS := zin_t1 13 rfl rfl
theorem ii_jM : (Cond.initialized "java/lang/Math") ∈ zWS := zin_t1 14 rfl rfl
theorem ii_jU : (Cond.initialized "java/lang/StringUTF16") ∈ zWS := zin_t1 15 rfl rfl
theorem ii_jP : (Cond.initialized "jdk/internal/util/Preconditions") ∈ zWS := zin_t1 16 rfl rfl
theorem ii_jC : (Cond.initialized "java/lang/Character") ∈ zWS := zin_t1 17 rfl rfl
theorem cl_Lw_7 : (Cond.classLink "RationalSessionLaw" (7 : Nat) "RationalSession") ∈ zWS := zin_t1 18 rfl rfl
theorem in_S_made : (Cond.instantiable "RationalSession" (7 : Nat)) ∈ zWS := zin_t1 19 rfl rfl
theorem ml_Lw_9 : (Cond.methodLink "RationalSessionLaw" (9 : Nat) ({ cls := "RationalSession", name := "<init>", desc := "()V" } : MethodName)) ∈ zWS := zin_t1 20 rfl rfl
theorem im_S_init : (Cond.instanceMethod ({ cls := "RationalSession", name := "<init>", desc := "()V" } : MethodName)) ∈ zWS := zin_t1 21 rfl rfl
theorem k_S_init : (Cond.code ({ cls := "RationalSession", name := "<init>", desc := "()V" } : MethodName) prog_1_method_1_code (1 : Nat) (Option.none : Option Jvm.ClassFile.FieldType)) ∈ zWS := zin_t1 22 rfl rfl
theorem ml_S_3 : (Cond.methodLink "RationalSession" (3 : Nat) ({ cls := "java/lang/Object", name := "<init>", desc := "()V" } : MethodName)) ∈ zWS := zin_t1 23 rfl rfl
theorem im_jO_init : (Cond.instanceMethod ({ cls := "java/lang/Object", name := "<init>", desc := "()V" } : MethodName)) ∈ zWS := zin_t1 24 rfl rfl
theorem k_jO_init : (Cond.code ({ cls := "java/lang/Object", name := "<init>", desc := "()V" } : MethodName) object_method_1_code (1 : Nat) (Option.none : Option Jvm.ClassFile.FieldType)) ∈ zWS := zin_t1 25 rfl rfl
theorem cl_S_9 : (Cond.classLink "RationalSession" (9 : Nat) "RationalSession$Line") ∈ zWS := zin_t1 26 rfl rfl
theorem in_L_made : (Cond.instantiable "RationalSession$Line" (2 : Nat)) ∈ zWS := zin_t1 27 rfl rfl
theorem ml_S_11 : (Cond.methodLinkNest "RationalSession" (11 : Nat) ({ cls := "RationalSession$Line", name := "<init>", desc := "()V" } : MethodName) "RationalSession") ∈ zN := zin_n1 28 rfl rfl
theorem im_L_init : (Cond.instanceMethod ({ cls := "RationalSession$Line", name := "<init>", desc := "()V" } : MethodName)) ∈ zWS := zin_t1 29 rfl rfl
theorem k_L_init : (Cond.code ({ cls := "RationalSession$Line", name := "<init>", desc := "()V" } : MethodName) prog_3_method_1_code (1 : Nat) (Option.none : Option Jvm.ClassFile.FieldType)) ∈ zWS := zin_t1 30 rfl rfl
theorem ml_L_3 : (Cond.methodLink "RationalSession$Line" (3 : Nat) ({ cls := "java/lang/Object", name := "<init>", desc := "()V" } : MethodName)) ∈ zWS := zin_t1 31 rfl rfl
theorem fl_L_9 : (Cond.fieldLink "RationalSession$Line" (9 : Nat) "RationalSession$Line" "row" "[C") ∈ zWS := zin_t1 32 rfl rfl
theorem fl_L_15 : (Cond.fieldLink "RationalSession$Line" (15 : Nat) "RationalSession$Line" "length" "I") ∈ zWS := zin_t1 33 rfl rfl
theorem fl_S_63 : (Cond.fieldLinkNest "RationalSession" (63 : Nat) "RationalSession$Line" "length" "I" "RationalSession") ∈ zN := zin_n1 34 rfl rfl
theorem fl_R_52 : (Cond.fieldLinkNest "RationalSession$Reader" (52 : Nat) "RationalSession$Line" "length" "I" "RationalSession") ∈ zN := zin_n1 35 rfl rfl
theorem ac_char : (Cond.arrayClass FieldType.char) ∈ zWS := zin_t1 41 rfl rfl
theorem cl_S_16 : (Cond.classLink "RationalSession" (16 : Nat) "RationalSession$Reader") ∈ zWS := zin_t1 42 rfl rfl
theorem in_R_made : (Cond.instantiable "RationalSession$Reader" (11 : Nat)) ∈ zWS := zin_t1 43 rfl rfl
theorem ml_S_18 : (Cond.methodLinkNest "RationalSession" (18 : Nat) ({ cls := "RationalSession$Reader", name := "<init>", desc := "()V" } : MethodName) "RationalSession") ∈ zN := zin_n1 44 rfl rfl
theorem im_R_init : (Cond.instanceMethod ({ cls := "RationalSession$Reader", name := "<init>", desc := "()V" } : MethodName)) ∈ zWS := zin_t1 45 rfl rfl
theorem k_R_init : (Cond.code ({ cls := "RationalSession$Reader", name := "<init>", desc := "()V" } : MethodName) prog_6_method_1_code (1 : Nat) (Option.none : Option Jvm.ClassFile.FieldType)) ∈ zWS := zin_t1 46 rfl rfl
theorem ml_R_3 : (Cond.methodLink "RationalSession$Reader" (3 : Nat) ({ cls := "java/lang/Object", name := "<init>", desc := "()V" } : MethodName)) ∈ zWS := zin_t1 47 rfl rfl
theorem fl_R_9 : (Cond.fieldLink "RationalSession$Reader" (9 : Nat) "RationalSession$Reader" "openings" "[C") ∈ zWS := zin_t1 48 rfl rfl
theorem fl_R_15 : (Cond.fieldLink "RationalSession$Reader" (15 : Nat) "RationalSession$Reader" "waitingInSum" "[I") ∈ zWS := zin_t1 49 rfl rfl
theorem fl_R_19 : (Cond.fieldLink "RationalSession$Reader" (19 : Nat) "RationalSession$Reader" "waitingInTerm" "[I") ∈ zWS := zin_t1 50 rfl rfl
theorem fl_R_43 : (Cond.fieldLink "RationalSession$Reader" (43 : Nat) "RationalSession$Reader" "open" "I") ∈ zWS := zin_t1 51 rfl rfl
theorem fl_R_22 : (Cond.fieldLink "RationalSession$Reader" (22 : Nat) "RationalSession$Reader" "line" "LRationalSession$Line;") ∈ zWS := zin_t1 52 rfl rfl
theorem fl_R_26 : (Cond.fieldLink "RationalSession$Reader" (26 : Nat) "RationalSession$Reader" "program" "LRationalSession$Program;") ∈ zWS := zin_t1 53 rfl rfl
theorem fl_R_35 : (Cond.fieldLink "RationalSession$Reader" (35 : Nat) "RationalSession$Reader" "place" "I") ∈ zWS := zin_t1 54 rfl rfl
theorem fl_R_39 : (Cond.fieldLink "RationalSession$Reader" (39 : Nat) "RationalSession$Reader" "stuck" "Z") ∈ zWS := zin_t1 55 rfl rfl
theorem fl_R_57 : (Cond.fieldLink "RationalSession$Reader" (57 : Nat) "RationalSession$Reader" "wantsAtom" "Z") ∈ zWS := zin_t1 56 rfl rfl
theorem fl_R_81 : (Cond.fieldLink "RationalSession$Reader" (81 : Nat) "RationalSession$Reader" "maySign" "Z") ∈ zWS := zin_t1 57 rfl rfl
theorem fl_R_99 : (Cond.fieldLink "RationalSession$Reader" (99 : Nat) "RationalSession$Reader" "mayPower" "Z") ∈ zWS := zin_t1 58 rfl rfl
theorem ac_int : (Cond.arrayClass FieldType.int) ∈ zWS := zin_t1 82 rfl rfl
theorem cl_S_23 : (Cond.classLink "RationalSession" (23 : Nat) "RationalSession$Program") ∈ zWS := zin_t1 83 rfl rfl
theorem in_G_made : (Cond.instantiable "RationalSession$Program" (4 : Nat)) ∈ zWS := zin_t1 84 rfl rfl
theorem ml_S_25 : (Cond.methodLinkNest "RationalSession" (25 : Nat) ({ cls := "RationalSession$Program", name := "<init>", desc := "()V" } : MethodName) "RationalSession") ∈ zN := zin_n1 85 rfl rfl
theorem im_G_init : (Cond.instanceMethod ({ cls := "RationalSession$Program", name := "<init>", desc := "()V" } : MethodName)) ∈ zWS := zin_t1 86 rfl rfl
theorem k_G_init : (Cond.code ({ cls := "RationalSession$Program", name := "<init>", desc := "()V" } : MethodName) prog_5_method_1_code (1 : Nat) (Option.none : Option Jvm.ClassFile.FieldType)) ∈ zWS := zin_t1 87 rfl rfl
theorem ml_G_3 : (Cond.methodLink "RationalSession$Program" (3 : Nat) ({ cls := "java/lang/Object", name := "<init>", desc := "()V" } : MethodName)) ∈ zWS := zin_t1 88 rfl rfl
theorem fl_G_9 : (Cond.fieldLink "RationalSession$Program" (9 : Nat) "RationalSession$Program" "kinds" "[I") ∈ zWS := zin_t1 89 rfl rfl
theorem fl_K_34 : (Cond.fieldLinkNest "RationalSession$Worker" (34 : Nat) "RationalSession$Program" "kinds" "[I" "RationalSession") ∈ zN := zin_n1 90 rfl rfl
theorem fl_G_15 : (Cond.fieldLink "RationalSession$Program" (15 : Nat) "RationalSession$Program" "details" "[I") ∈ zWS := zin_t1 91 rfl rfl
theorem fl_K_42 : (Cond.fieldLinkNest "RationalSession$Worker" (42 : Nat) "RationalSession$Program" "details" "[I" "RationalSession") ∈ zN := zin_n1 92 rfl rfl
theorem fl_G_18 : (Cond.fieldLink "RationalSession$Program" (18 : Nat) "RationalSession$Program" "size" "I") ∈ zWS := zin_t1 93 rfl rfl
theorem fl_K_29 : (Cond.fieldLinkNest "RationalSession$Worker" (29 : Nat) "RationalSession$Program" "size" "I" "RationalSession") ∈ zN := zin_n1 94 rfl rfl
theorem fl_G_22 : (Cond.fieldLink "RationalSession$Program" (22 : Nat) "RationalSession$Program" "target" "I") ∈ zWS := zin_t1 95 rfl rfl
theorem fl_R_78 : (Cond.fieldLinkNest "RationalSession$Reader" (78 : Nat) "RationalSession$Program" "target" "I" "RationalSession") ∈ zN := zin_n1 96 rfl rfl
theorem fl_S_96 : (Cond.fieldLinkNest "RationalSession" (96 : Nat) "RationalSession$Program" "target" "I" "RationalSession") ∈ zN := zin_n1 97 rfl rfl
theorem cl_S_30 : (Cond.classLink "RationalSession" (30 : Nat) "RationalSession$Worker") ∈ zWS := zin_t1 107 rfl rfl
theorem in_K_made : (Cond.instantiable "RationalSession$Worker" (3 : Nat)) ∈ zWS := zin_t1 108 rfl rfl
theorem ml_S_32 : (Cond.methodLink "RationalSession" (32 : Nat) ({ cls := "RationalSession$Worker", name := "<init>", desc := "()V" } : MethodName)) ∈ zWS := zin_t1 109 rfl rfl
theorem im_K_init : (Cond.instanceMethod ({ cls := "RationalSession$Worker", name := "<init>", desc := "()V" } : MethodName)) ∈ zWS := zin_t1 110 rfl rfl
theorem k_K_init : (Cond.code ({ cls := "RationalSession$Worker", name := "<init>", desc := "()V" } : MethodName) prog_9_method_1_code (2 : Nat) (Option.none : Option Jvm.ClassFile.FieldType)) ∈ zWS := zin_t1 111 rfl rfl
theorem ml_K_3 : (Cond.methodLink "RationalSession$Worker" (3 : Nat) ({ cls := "java/lang/Object", name := "<init>", desc := "()V" } : MethodName)) ∈ zWS := zin_t1 112 rfl rfl
theorem cl_K_9 : (Cond.classLink "RationalSession$Worker" (9 : Nat) "RationalSession$Workshop") ∈ zWS := zin_t1 113 rfl rfl
theorem in_W_made : (Cond.instantiable "RationalSession$Workshop" (7 : Nat)) ∈ zWS := zin_t1 114 rfl rfl
theorem ml_K_11 : (Cond.methodLinkNest "RationalSession$Worker" (11 : Nat) ({ cls := "RationalSession$Workshop", name := "<init>", desc := "()V" } : MethodName) "RationalSession") ∈ zN := zin_n1 115 rfl rfl
theorem im_W_init : (Cond.instanceMethod ({ cls := "RationalSession$Workshop", name := "<init>", desc := "()V" } : MethodName)) ∈ zWS := zin_t1 116 rfl rfl
theorem k_W_init : (Cond.code ({ cls := "RationalSession$Workshop", name := "<init>", desc := "()V" } : MethodName) prog_10_method_1_code (1 : Nat) (Option.none : Option Jvm.ClassFile.FieldType)) ∈ zWS := zin_t1 117 rfl rfl
theorem ml_W_3 : (Cond.methodLink "RationalSession$Workshop" (3 : Nat) ({ cls := "java/lang/Object", name := "<init>", desc := "()V" } : MethodName)) ∈ zWS := zin_t1 118 rfl rfl
theorem cl_W_9 : (Cond.classLink "RationalSession$Workshop" (9 : Nat) "RationalSession$Polynomial") ∈ zWS := zin_t1 119 rfl rfl
theorem in_P_made : (Cond.instantiable "RationalSession$Polynomial" (2 : Nat)) ∈ zWS := zin_t1 120 rfl rfl
theorem ml_W_13 : (Cond.methodLink "RationalSession$Workshop" (13 : Nat) ({ cls := "RationalSession$Polynomial", name := "<init>", desc := "(I)V" } : MethodName)) ∈ zWS := zin_t1 121 rfl rfl
theorem im_P_init : (Cond.instanceMethod ({ cls := "RationalSession$Polynomial", name := "<init>", desc := "(I)V" } : MethodName)) ∈ zWS := zin_t1 122 rfl rfl
theorem k_P_init : (Cond.code ({ cls := "RationalSession$Polynomial", name := "<init>", desc := "(I)V" } : MethodName) prog_4_method_1_code (2 : Nat) (Option.none : Option Jvm.ClassFile.FieldType)) ∈ zWS := zin_t1 123 rfl rfl
theorem ml_P_3 : (Cond.methodLink "RationalSession$Polynomial" (3 : Nat) ({ cls := "java/lang/Object", name := "<init>", desc := "()V" } : MethodName)) ∈ zWS := zin_t1 124 rfl rfl
theorem fl_P_15 : (Cond.fieldLink "RationalSession$Polynomial" (15 : Nat) "RationalSession$Polynomial" "row" "[I") ∈ zWS := zin_t1 125 rfl rfl
theorem fl_P_9 : (Cond.fieldLink "RationalSession$Polynomial" (9 : Nat) "RationalSession$Polynomial" "top" "I") ∈ zWS := zin_t1 126 rfl rfl
theorem fl_T_25 : (Cond.fieldLinkNest "RationalSession$TextSeeker" (25 : Nat) "RationalSession$Polynomial" "top" "I" "RationalSession") ∈ zN := zin_n1 127 rfl rfl
theorem fl_F_27 : (Cond.fieldLinkNest "RationalSession$Form" (27 : Nat) "RationalSession$Polynomial" "top" "I" "RationalSession") ∈ zN := zin_n1 128 rfl rfl
theorem fl_S_113 : (Cond.fieldLinkNest "RationalSession" (113 : Nat) "RationalSession$Polynomial" "top" "I" "RationalSession") ∈ zN := zin_n1 129 rfl rfl
theorem fl_W_94 : (Cond.fieldLinkNest "RationalSession$Workshop" (94 : Nat) "RationalSession$Polynomial" "top" "I" "RationalSession") ∈ zN := zin_n1 130 rfl rfl
theorem fl_W_16 : (Cond.fieldLink "RationalSession$Workshop" (16 : Nat) "RationalSession$Workshop" "over" "LRationalSession$Polynomial;") ∈ zWS := zin_t1 136 rfl rfl
theorem fl_W_20 : (Cond.fieldLink "RationalSession$Workshop" (20 : Nat) "RationalSession$Workshop" "under" "LRationalSession$Polynomial;") ∈ zWS := zin_t1 137 rfl rfl
theorem fl_W_23 : (Cond.fieldLink "RationalSession$Workshop" (23 : Nat) "RationalSession$Workshop" "side" "LRationalSession$Polynomial;") ∈ zWS := zin_t1 138 rfl rfl
theorem fl_W_26 : (Cond.fieldLink "RationalSession$Workshop" (26 : Nat) "RationalSession$Workshop" "help" "LRationalSession$Polynomial;") ∈ zWS := zin_t1 139 rfl rfl
theorem fl_W_29 : (Cond.fieldLink "RationalSession$Workshop" (29 : Nat) "RationalSession$Workshop" "first" "LRationalSession$Polynomial;") ∈ zWS := zin_t1 140 rfl rfl
theorem fl_W_32 : (Cond.fieldLink "RationalSession$Workshop" (32 : Nat) "RationalSession$Workshop" "second" "LRationalSession$Polynomial;") ∈ zWS := zin_t1 141 rfl rfl
theorem fl_W_35 : (Cond.fieldLink "RationalSession$Workshop" (35 : Nat) "RationalSession$Workshop" "quotient" "LRationalSession$Polynomial;") ∈ zWS := zin_t1 142 rfl rfl
theorem cl_K_18 : (Cond.classLink "RationalSession$Worker" (18 : Nat) "RationalSession$Form") ∈ zWS := zin_t1 158 rfl rfl
theorem in_F_made : (Cond.instantiable "RationalSession$Form" (2 : Nat)) ∈ zWS := zin_t1 160 rfl rfl
theorem ml_K_28 : (Cond.methodLinkNest "RationalSession$Worker" (28 : Nat) ({ cls := "RationalSession$Form", name := "<init>", desc := "()V" } : MethodName) "RationalSession") ∈ zN := zin_n1 161 rfl rfl
theorem im_F_init : (Cond.instanceMethod ({ cls := "RationalSession$Form", name := "<init>", desc := "()V" } : MethodName)) ∈ zWS := zin_t1 162 rfl rfl
theorem k_F_init : (Cond.code ({ cls := "RationalSession$Form", name := "<init>", desc := "()V" } : MethodName) prog_2_method_1_code (1 : Nat) (Option.none : Option Jvm.ClassFile.FieldType)) ∈ zWS := zin_t1 163 rfl rfl
theorem ml_F_3 : (Cond.methodLink "RationalSession$Form" (3 : Nat) ({ cls := "java/lang/Object", name := "<init>", desc := "()V" } : MethodName)) ∈ zWS := zin_t1 164 rfl rfl
theorem cl_F_9 : (Cond.classLink "RationalSession$Form" (9 : Nat) "RationalSession$Polynomial") ∈ zWS := zin_t1 165 rfl rfl
theorem ml_F_11 : (Cond.methodLink "RationalSession$Form" (11 : Nat) ({ cls := "RationalSession$Polynomial", name := "<init>", desc := "(I)V" } : MethodName)) ∈ zWS := zin_t1 166 rfl rfl
theorem fl_F_14 : (Cond.fieldLink "RationalSession$Form" (14 : Nat) "RationalSession$Form" "over" "LRationalSession$Polynomial;") ∈ zWS := zin_t1 167 rfl rfl
theorem fl_W_38 : (Cond.fieldLinkNest "RationalSession$Workshop" (38 : Nat) "RationalSession$Form" "over" "LRationalSession$Polynomial;" "RationalSession") ∈ zN := zin_n1 168 rfl rfl
theorem fl_T_30 : (Cond.fieldLinkNest "RationalSession$TextSeeker" (30 : Nat) "RationalSession$Form" "over" "LRationalSession$Polynomial;" "RationalSession") ∈ zN := zin_n1 169 rfl rfl
theorem fl_S_146 : (Cond.fieldLinkNest "RationalSession" (146 : Nat) "RationalSession$Form" "over" "LRationalSession$Polynomial;" "RationalSession") ∈ zN := zin_n1 170 rfl rfl
theorem fl_F_20 : (Cond.fieldLink "RationalSession$Form" (20 : Nat) "RationalSession$Form" "under" "LRationalSession$Polynomial;") ∈ zWS := zin_t1 171 rfl rfl
theorem fl_W_41 : (Cond.fieldLinkNest "RationalSession$Workshop" (41 : Nat) "RationalSession$Form" "under" "LRationalSession$Polynomial;" "RationalSession") ∈ zN := zin_n1 172 rfl rfl
theorem fl_T_19 : (Cond.fieldLinkNest "RationalSession$TextSeeker" (19 : Nat) "RationalSession$Form" "under" "LRationalSession$Polynomial;" "RationalSession") ∈ zN := zin_n1 173 rfl rfl
theorem fl_S_139 : (Cond.fieldLinkNest "RationalSession" (139 : Nat) "RationalSession$Form" "under" "LRationalSession$Polynomial;" "RationalSession") ∈ zN := zin_n1 174 rfl rfl
theorem fl_K_12 : (Cond.fieldLink "RationalSession$Worker" (12 : Nat) "RationalSession$Worker" "workshop" "LRationalSession$Workshop;") ∈ zWS := zin_t1 180 rfl rfl
theorem fl_K_20 : (Cond.fieldLink "RationalSession$Worker" (20 : Nat) "RationalSession$Worker" "stack" "[LRationalSession$Form;") ∈ zWS := zin_t1 181 rfl rfl
theorem fl_K_24 : (Cond.fieldLink "RationalSession$Worker" (24 : Nat) "RationalSession$Worker" "depth" "I") ∈ zWS := zin_t1 182 rfl rfl
theorem cl_S_37 : (Cond.classLink "RationalSession" (37 : Nat) "RationalSession$Shelf") ∈ zWS := zin_t1 190 rfl rfl
theorem in_H_made : (Cond.instantiable "RationalSession$Shelf" (5 : Nat)) ∈ zWS := zin_t1 191 rfl rfl
theorem ml_S_39 : (Cond.methodLink "RationalSession" (39 : Nat) ({ cls := "RationalSession$Shelf", name := "<init>", desc := "()V" } : MethodName)) ∈ zWS := zin_t1 192 rfl rfl
theorem im_H_init : (Cond.instanceMethod ({ cls := "RationalSession$Shelf", name := "<init>", desc := "()V" } : MethodName)) ∈ zWS := zin_t1 193 rfl rfl
theorem k_H_init : (Cond.code ({ cls := "RationalSession$Shelf", name := "<init>", desc := "()V" } : MethodName) prog_7_method_1_code (2 : Nat) (Option.none : Option Jvm.ClassFile.FieldType)) ∈ zWS := zin_t1 194 rfl rfl
theorem ml_H_3 : (Cond.methodLink "RationalSession$Shelf" (3 : Nat) ({ cls := "java/lang/Object", name := "<init>", desc := "()V" } : MethodName)) ∈ zWS := zin_t1 195 rfl rfl
theorem cl_H_9 : (Cond.classLink "RationalSession$Shelf" (9 : Nat) "RationalSession$Form") ∈ zWS := zin_t1 196 rfl rfl
theorem ml_H_31 : (Cond.methodLinkNest "RationalSession$Shelf" (31 : Nat) ({ cls := "RationalSession$Form", name := "<init>", desc := "()V" } : MethodName) "RationalSession") ∈ zN := zin_n1 197 rfl rfl
theorem fl_H_11 : (Cond.fieldLink "RationalSession$Shelf" (11 : Nat) "RationalSession$Shelf" "forms" "[LRationalSession$Form;") ∈ zWS := zin_t1 198 rfl rfl
theorem fl_H_17 : (Cond.fieldLink "RationalSession$Shelf" (17 : Nat) "RationalSession$Shelf" "shapeNumbers" "[I") ∈ zWS := zin_t1 199 rfl rfl
theorem fl_H_21 : (Cond.fieldLink "RationalSession$Shelf" (21 : Nat) "RationalSession$Shelf" "labelOfName" "[I") ∈ zWS := zin_t1 200 rfl rfl
theorem fl_H_24 : (Cond.fieldLink "RationalSession$Shelf" (24 : Nat) "RationalSession$Shelf" "count" "I") ∈ zWS := zin_t1 201 rfl rfl
theorem fl_S_127 : (Cond.fieldLinkNest "RationalSession" (127 : Nat) "RationalSession$Shelf" "count" "I" "RationalSession") ∈ zN := zin_n1 202 rfl rfl
theorem fl_H_28 : (Cond.fieldLink "RationalSession$Shelf" (28 : Nat) "RationalSession$Shelf" "shapeCount" "I") ∈ zWS := zin_t1 203 rfl rfl
theorem fl_S_124 : (Cond.fieldLinkNest "RationalSession" (124 : Nat) "RationalSession$Shelf" "shapeCount" "I" "RationalSession") ∈ zN := zin_n1 204 rfl rfl
theorem cl_S_44 : (Cond.classLink "RationalSession" (44 : Nat) "RationalSession$TextSeeker") ∈ zWS := zin_t1 216 rfl rfl
theorem in_T_made : (Cond.instantiable "RationalSession$TextSeeker" (3 : Nat)) ∈ zWS := zin_t1 217 rfl rfl
theorem ml_S_46 : (Cond.methodLinkNest "RationalSession" (46 : Nat) ({ cls := "RationalSession$TextSeeker", name := "<init>", desc := "()V" } : MethodName) "RationalSession") ∈ zN := zin_n1 218 rfl rfl
theorem im_T_init : (Cond.instanceMethod ({ cls := "RationalSession$TextSeeker", name := "<init>", desc := "()V" } : MethodName)) ∈ zWS := zin_t1 219 rfl rfl
theorem k_T_init : (Cond.code ({ cls := "RationalSession$TextSeeker", name := "<init>", desc := "()V" } : MethodName) prog_8_method_1_code (1 : Nat) (Option.none : Option Jvm.ClassFile.FieldType)) ∈ zWS := zin_t1 220 rfl rfl
theorem ml_T_1 : (Cond.methodLink "RationalSession$TextSeeker" (1 : Nat) ({ cls := "java/lang/Object", name := "<init>", desc := "()V" } : MethodName)) ∈ zWS := zin_t1 221 rfl rfl
theorem fl_T_7 : (Cond.fieldLink "RationalSession$TextSeeker" (7 : Nat) "RationalSession$TextSeeker" "wanted" "I") ∈ zWS := zin_t1 222 rfl rfl
theorem fl_T_13 : (Cond.fieldLink "RationalSession$TextSeeker" (13 : Nat) "RationalSession$TextSeeker" "written" "I") ∈ zWS := zin_t1 223 rfl rfl
theorem fl_T_16 : (Cond.fieldLink "RationalSession$TextSeeker" (16 : Nat) "RationalSession$TextSeeker" "found" "I") ∈ zWS := zin_t1 224 rfl rfl
theorem fl_S_12 : (Cond.fieldLink "RationalSession" (12 : Nat) "RationalSession" "typed" "LRationalSession$Line;") ∈ zWS := zin_t1 232 rfl rfl
theorem fl_S_19 : (Cond.fieldLink "RationalSession" (19 : Nat) "RationalSession" "reader" "LRationalSession$Reader;") ∈ zWS := zin_t1 233 rfl rfl
theorem fl_S_26 : (Cond.fieldLink "RationalSession" (26 : Nat) "RationalSession" "program" "LRationalSession$Program;") ∈ zWS := zin_t1 234 rfl rfl
theorem fl_S_33 : (Cond.fieldLink "RationalSession" (33 : Nat) "RationalSession" "worker" "LRationalSession$Worker;") ∈ zWS := zin_t1 235 rfl rfl
theorem fl_S_40 : (Cond.fieldLink "RationalSession" (40 : Nat) "RationalSession" "shelf" "LRationalSession$Shelf;") ∈ zWS := zin_t1 236 rfl rfl
theorem fl_S_47 : (Cond.fieldLink "RationalSession" (47 : Nat) "RationalSession" "seeker" "LRationalSession$TextSeeker;") ∈ zWS := zin_t1 237 rfl rfl
theorem fl_S_51 : (Cond.fieldLink "RationalSession" (51 : Nat) "RationalSession" "lastBadPlace" "I") ∈ zWS := zin_t1 238 rfl rfl
theorem ml_Lw_13 : (Cond.methodLink "RationalSessionLaw" (13 : Nat) ({ cls := "RationalSession", name := "type", desc := "(I)I" } : MethodName)) ∈ zWS := zin_t2 14 rfl rfl
theorem im_S_type : (Cond.instanceMethod ({ cls := "RationalSession", name := "type", desc := "(I)I" } : MethodName)) ∈ zWS := zin_t2 15 rfl rfl
theorem se_S_type : (Cond.selects "RationalSession" ({ cls := "RationalSession", name := "type", desc := "(I)I" } : MethodName) ({ cls := "RationalSession", name := "type", desc := "(I)I" } : MethodName)) ∈ zWS := zin_t2 16 rfl rfl
theorem k_S_type : (Cond.code ({ cls := "RationalSession", name := "type", desc := "(I)I" } : MethodName) prog_1_method_2_code (2 : Nat) (Option.some FieldType.int)) ∈ zWS := zin_t2 17 rfl rfl
theorem ml_S_55 : (Cond.methodLink "RationalSession" (55 : Nat) ({ cls := "RationalSession$Line", name := "mayHold", desc := "(I)Z" } : MethodName)) ∈ zWS := zin_t2 18 rfl rfl
theorem sm_L_mayHold : (Cond.static ({ cls := "RationalSession$Line", name := "mayHold", desc := "(I)Z" } : MethodName)) ∈ zWS := zin_t2 19 rfl rfl
theorem k_L_mayHold : (Cond.code ({ cls := "RationalSession$Line", name := "mayHold", desc := "(I)Z" } : MethodName) prog_3_method_2_code (1 : Nat) (Option.some FieldType.boolean)) ∈ zWS := zin_t2 20 rfl rfl
theorem ml_L_21 : (Cond.methodLink "RationalSession$Line" (21 : Nat) ({ cls := "java/lang/String", name := "indexOf", desc := "(I)I" } : MethodName)) ∈ zWS := zin_t2 22 rfl rfl
theorem im_jS_indexOf : (Cond.instanceMethod ({ cls := "java/lang/String", name := "indexOf", desc := "(I)I" } : MethodName)) ∈ zWS := zin_t2 23 rfl rfl
theorem se_jS_indexOf : (Cond.selects "java/lang/String" ({ cls := "java/lang/String", name := "indexOf", desc := "(I)I" } : MethodName) ({ cls := "java/lang/String", name := "indexOf", desc := "(I)I" } : MethodName)) ∈ zWS := zin_t2 24 rfl rfl
theorem k_jS_indexOf : (Cond.code ({ cls := "java/lang/String", name := "indexOf", desc := "(I)I" } : MethodName) prog_15_method_79_code (2 : Nat) (Option.some FieldType.int)) ∈ zWS := zin_t2 25 rfl rfl
theorem ml_jS_633 : (Cond.methodLink "java/lang/String" (633 : Nat) ({ cls := "java/lang/String", name := "indexOf", desc := "(II)I" } : MethodName)) ∈ zWS := zin_t2 26 rfl rfl
theorem im_jS_indexOf1 : (Cond.instanceMethod ({ cls := "java/lang/String", name := "indexOf", desc := "(II)I" } : MethodName)) ∈ zWS := zin_t2 27 rfl rfl
theorem se_jS_indexOf1 : (Cond.selects "java/lang/String" ({ cls := "java/lang/String", name := "indexOf", desc := "(II)I" } : MethodName) ({ cls := "java/lang/String", name := "indexOf", desc := "(II)I" } : MethodName)) ∈ zWS := zin_t2 28 rfl rfl
theorem k_jS_indexOf1 : (Cond.code ({ cls := "java/lang/String", name := "indexOf", desc := "(II)I" } : MethodName) prog_15_method_80_code (3 : Nat) (Option.some FieldType.int)) ∈ zWS := zin_t2 29 rfl rfl
theorem ml_jS_492 : (Cond.methodLink "java/lang/String" (492 : Nat) ({ cls := "java/lang/String", name := "isLatin1", desc := "()Z" } : MethodName)) ∈ zWS := zin_t2 30 rfl rfl
theorem im_jS_isLatin1 : (Cond.instanceMethod ({ cls := "java/lang/String", name := "isLatin1", desc := "()Z" } : MethodName)) ∈ zWS := zin_t2 31 rfl rfl
theorem se_jS_isLatin1 : (Cond.selects "java/lang/String" ({ cls := "java/lang/String", name := "isLatin1", desc := "()Z" } : MethodName) ({ cls := "java/lang/String", name := "isLatin1", desc := "()Z" } : MethodName)) ∈ zWS := zin_t2 32 rfl rfl
theorem k_jS_isLatin1 : (Cond.code ({ cls := "java/lang/String", name := "isLatin1", desc := "()Z" } : MethodName) prog_15_method_154_code (1 : Nat) (Option.some FieldType.boolean)) ∈ zWS := zin_t2 33 rfl rfl
theorem fl_jS_38 : (Cond.fieldLink "java/lang/String" (38 : Nat) "java/lang/String" "COMPACT_STRINGS" "Z") ∈ zWS := zin_t2 34 rfl rfl
theorem ml_jS_505 : (Cond.methodLink "java/lang/String" (505 : Nat) ({ cls := "java/lang/String", name := "length", desc := "()I" } : MethodName)) ∈ zWS := zin_t2 36 rfl rfl
theorem im_jS_length : (Cond.instanceMethod ({ cls := "java/lang/String", name := "length", desc := "()I" } : MethodName)) ∈ zWS := zin_t2 37 rfl rfl
theorem se_jS_length : (Cond.selects "java/lang/String" ({ cls := "java/lang/String", name := "length", desc := "()I" } : MethodName) ({ cls := "java/lang/String", name := "length", desc := "()I" } : MethodName)) ∈ zWS := zin_t2 38 rfl rfl
theorem k_jS_length : (Cond.code ({ cls := "java/lang/String", name := "length", desc := "()I" } : MethodName) prog_15_method_54_code (1 : Nat) (Option.some FieldType.int)) ∈ zWS := zin_t2 39 rfl rfl
theorem ml_jS_335 : (Cond.methodLink "java/lang/String" (335 : Nat) ({ cls := "java/lang/String", name := "coder", desc := "()B" } : MethodName)) ∈ zWS := zin_t2 40 rfl rfl
theorem im_jS_coder : (Cond.instanceMethod ({ cls := "java/lang/String", name := "coder", desc := "()B" } : MethodName)) ∈ zWS := zin_t2 41 rfl rfl
theorem se_jS_coder : (Cond.selects "java/lang/String" ({ cls := "java/lang/String", name := "coder", desc := "()B" } : MethodName) ({ cls := "java/lang/String", name := "coder", desc := "()B" } : MethodName)) ∈ zWS := zin_t2 42 rfl rfl
theorem k_jS_coder : (Cond.code ({ cls := "java/lang/String", name := "coder", desc := "()B" } : MethodName) prog_15_method_152_code (1 : Nat) (Option.some FieldType.byte)) ∈ zWS := zin_t2 43 rfl rfl
theorem ml_jS_637 : (Cond.methodLink "java/lang/String" (637 : Nat) ({ cls := "java/lang/StringLatin1", name := "indexOf", desc := "([BIII)I" } : MethodName)) ∈ zWS := zin_t2 44 rfl rfl
theorem sm_jL_indexOf : (Cond.static ({ cls := "java/lang/StringLatin1", name := "indexOf", desc := "([BIII)I" } : MethodName)) ∈ zWS := zin_t2 45 rfl rfl
theorem k_jL_indexOf : (Cond.code ({ cls := "java/lang/StringLatin1", name := "indexOf", desc := "([BIII)I" } : MethodName) prog_16_method_22_code (4 : Nat) (Option.some FieldType.int)) ∈ zWS := zin_t2 46 rfl rfl
theorem ml_jL_88 : (Cond.methodLink "java/lang/StringLatin1" (88 : Nat) ({ cls := "java/lang/StringLatin1", name := "canEncode", desc := "(I)Z" } : MethodName)) ∈ zWS := zin_t2 47 rfl rfl
theorem sm_jL_canEncode : (Cond.static ({ cls := "java/lang/StringLatin1", name := "canEncode", desc := "(I)Z" } : MethodName)) ∈ zWS := zin_t2 48 rfl rfl
theorem k_jL_canEncode : (Cond.code ({ cls := "java/lang/StringLatin1", name := "canEncode", desc := "(I)Z" } : MethodName) prog_16_method_4_code (1 : Nat) (Option.some FieldType.boolean)) ∈ zWS := zin_t2 49 rfl rfl
theorem ml_jL_92 : (Cond.methodLink "java/lang/StringLatin1" (92 : Nat) ({ cls := "java/lang/Math", name := "max", desc := "(II)I" } : MethodName)) ∈ zWS := zin_t2 50 rfl rfl
theorem sm_jM_max : (Cond.static ({ cls := "java/lang/Math", name := "max", desc := "(II)I" } : MethodName)) ∈ zWS := zin_t2 51 rfl rfl
theorem k_jM_max : (Cond.code ({ cls := "java/lang/Math", name := "max", desc := "(II)I" } : MethodName) prog_14_method_65_code (2 : Nat) (Option.some FieldType.int)) ∈ zWS := zin_t2 52 rfl rfl
theorem ml_jL_38 : (Cond.methodLink "java/lang/StringLatin1" (38 : Nat) ({ cls := "java/lang/Math", name := "min", desc := "(II)I" } : MethodName)) ∈ zWS := zin_t2 53 rfl rfl
theorem sm_jM_min : (Cond.static ({ cls := "java/lang/Math", name := "min", desc := "(II)I" } : MethodName)) ∈ zWS := zin_t2 54 rfl rfl
theorem k_jM_min : (Cond.code ({ cls := "java/lang/Math", name := "min", desc := "(II)I" } : MethodName) prog_14_method_69_code (2 : Nat) (Option.some FieldType.int)) ∈ zWS := zin_t2 55 rfl rfl
theorem ml_jL_95 : (Cond.methodLink "java/lang/StringLatin1" (95 : Nat) ({ cls := "java/lang/StringLatin1", name := "indexOfChar", desc := "([BIII)I" } : MethodName)) ∈ zWS := zin_t2 56 rfl rfl
theorem sm_jL_indexOfChar : (Cond.static ({ cls := "java/lang/StringLatin1", name := "indexOfChar", desc := "([BIII)I" } : MethodName)) ∈ zWS := zin_t2 57 rfl rfl
theorem k_jL_indexOfChar : (Cond.code ({ cls := "java/lang/StringLatin1", name := "indexOfChar", desc := "([BIII)I" } : MethodName) prog_16_method_23_code (6 : Nat) (Option.some FieldType.int)) ∈ zWS := zin_t2 58 rfl rfl
theorem ml_jS_640 : (Cond.methodLink "java/lang/String" (640 : Nat) ({ cls := "java/lang/StringUTF16", name := "indexOf", desc := "([BIII)I" } : MethodName)) ∈ zWS := zin_t2 59 rfl rfl
theorem sm_jU_indexOf : (Cond.static ({ cls := "java/lang/StringUTF16", name := "indexOf", desc := "([BIII)I" } : MethodName)) ∈ zWS := zin_t2 60 rfl rfl
theorem k_jU_indexOf : (Cond.code ({ cls := "java/lang/StringUTF16", name := "indexOf", desc := "([BIII)I" } : MethodName) prog_17_method_40_code (4 : Nat) (Option.some FieldType.int)) ∈ zWS := zin_t2 61 rfl rfl
theorem ml_jU_224 : (Cond.methodLink "java/lang/StringUTF16" (224 : Nat) ({ cls := "java/lang/Math", name := "max", desc := "(II)I" } : MethodName)) ∈ zWS := zin_t2 62 rfl rfl
theorem ml_jU_183 : (Cond.methodLink "java/lang/StringUTF16" (183 : Nat) ({ cls := "java/lang/Math", name := "min", desc := "(II)I" } : MethodName)) ∈ zWS := zin_t2 63 rfl rfl
theorem kc_jU_227 : (Cond.constant "java/lang/StringUTF16" (227 : Nat) (65536 : Int32)) ∈ zWS := zin_t2 64 rfl rfl
theorem ml_jU_228 : (Cond.methodLink "java/lang/StringUTF16" (228 : Nat) ({ cls := "java/lang/StringUTF16", name := "indexOfChar", desc := "([BIII)I" } : MethodName)) ∈ zWS := zin_t2 65 rfl rfl
theorem sm_jU_indexOfChar : (Cond.static ({ cls := "java/lang/StringUTF16", name := "indexOfChar", desc := "([BIII)I" } : MethodName)) ∈ zWS := zin_t2 66 rfl rfl
theorem k_jU_indexOfChar : (Cond.code ({ cls := "java/lang/StringUTF16", name := "indexOfChar", desc := "([BIII)I" } : MethodName) prog_17_method_47_code (4 : Nat) (Option.some FieldType.int)) ∈ zWS := zin_t2 67 rfl rfl
theorem ml_jU_96 : (Cond.methodLink "java/lang/StringUTF16" (96 : Nat) ({ cls := "java/lang/StringUTF16", name := "checkBoundsBeginEnd", desc := "(II[B)V" } : MethodName)) ∈ zWS := zin_t2 68 rfl rfl
theorem sm_jU_checkBoundsBeginEnd : (Cond.static ({ cls := "java/lang/StringUTF16", name := "checkBoundsBeginEnd", desc := "(II[B)V" } : MethodName)) ∈ zWS := zin_t2 69 rfl rfl
theorem k_jU_checkBoundsBeginEnd : (Cond.code ({ cls := "java/lang/StringUTF16", name := "checkBoundsBeginEnd", desc := "(II[B)V" } : MethodName) prog_17_method_93_code (3 : Nat) (Option.none : Option Jvm.ClassFile.FieldType)) ∈ zWS := zin_t2 70 rfl rfl
theorem ml_jU_48 : (Cond.methodLink "java/lang/StringUTF16" (48 : Nat) ({ cls := "java/lang/StringUTF16", name := "length", desc := "([B)I" } : MethodName)) ∈ zWS := zin_t2 71 rfl rfl
theorem sm_jU_length : (Cond.static ({ cls := "java/lang/StringUTF16", name := "length", desc := "([B)I" } : MethodName)) ∈ zWS := zin_t2 72 rfl rfl
theorem k_jU_length : (Cond.code ({ cls := "java/lang/StringUTF16", name := "length", desc := "([B)I" } : MethodName) prog_17_method_6_code (1 : Nat) (Option.some FieldType.int)) ∈ zWS := zin_t2 73 rfl rfl
theorem ml_jU_241 : (Cond.methodLink "java/lang/StringUTF16" (241 : Nat) ({ cls := "java/lang/String", name := "checkBoundsBeginEnd", desc := "(III)V" } : MethodName)) ∈ zWS := zin_t2 74 rfl rfl
theorem sm_jS_checkBoundsBeginEnd : (Cond.static ({ cls := "java/lang/String", name := "checkBoundsBeginEnd", desc := "(III)V" } : MethodName)) ∈ zWS := zin_t2 75 rfl rfl
theorem k_jS_checkBoundsBeginEnd : (Cond.code ({ cls := "java/lang/String", name := "checkBoundsBeginEnd", desc := "(III)V" } : MethodName) prog_15_method_158_code (3 : Nat) (Option.none : Option Jvm.ClassFile.FieldType)) ∈ zWS := zin_t2 76 rfl rfl
theorem fl_jS_1053 : (Cond.fieldLink "java/lang/String" (1053 : Nat) "jdk/internal/util/Preconditions" "SIOOBE_FORMATTER" "Ljava/util/function/BiFunction;") ∈ zWS := zin_t2 77 rfl rfl
theorem ml_jS_1062 : (Cond.methodLink "java/lang/String" (1062 : Nat) ({ cls := "jdk/internal/util/Preconditions", name := "checkFromToIndex", desc := "(IIILjava/util/function/BiFunction;)I" } : MethodName)) ∈ zWS := zin_t2 79 rfl rfl
theorem sm_jP_checkFromToIndex : (Cond.static ({ cls := "jdk/internal/util/Preconditions", name := "checkFromToIndex", desc := "(IIILjava/util/function/BiFunction;)I" } : MethodName)) ∈ zWS := zin_t2 80 rfl rfl
theorem k_jP_checkFromToIndex : (Cond.code ({ cls := "jdk/internal/util/Preconditions", name := "checkFromToIndex", desc := "(IIILjava/util/function/BiFunction;)I" } : MethodName) prog_18_method_12_code (4 : Nat) (Option.some FieldType.int)) ∈ zWS := zin_t2 81 rfl rfl
theorem ml_jU_244 : (Cond.methodLink "java/lang/StringUTF16" (244 : Nat) ({ cls := "java/lang/StringUTF16", name := "indexOfCharUnsafe", desc := "([BIII)I" } : MethodName)) ∈ zWS := zin_t2 82 rfl rfl
theorem sm_jU_indexOfCharUnsafe : (Cond.static ({ cls := "java/lang/StringUTF16", name := "indexOfCharUnsafe", desc := "([BIII)I" } : MethodName)) ∈ zWS := zin_t2 83 rfl rfl
theorem k_jU_indexOfCharUnsafe : (Cond.code ({ cls := "java/lang/StringUTF16", name := "indexOfCharUnsafe", desc := "([BIII)I" } : MethodName) prog_17_method_48_code (5 : Nat) (Option.some FieldType.int)) ∈ zWS := zin_t2 84 rfl rfl
theorem ml_jU_71 : (Cond.methodLink "java/lang/StringUTF16" (71 : Nat) ({ cls := "java/lang/StringUTF16", name := "getChar", desc := "([BI)C" } : MethodName)) ∈ zWS := zin_t2 85 rfl rfl
theorem sm_jU_getChar : (Cond.static ({ cls := "java/lang/StringUTF16", name := "getChar", desc := "([BI)C" } : MethodName)) ∈ zWS := zin_t2 86 rfl rfl
theorem k_jU_getChar : (Cond.code ({ cls := "java/lang/StringUTF16", name := "getChar", desc := "([BI)C" } : MethodName) prog_17_method_5_code (2 : Nat) (Option.some FieldType.char)) ∈ zWS := zin_t2 87 rfl rfl
theorem fl_jU_44 : (Cond.fieldLink "java/lang/StringUTF16" (44 : Nat) "java/lang/StringUTF16" "$assertionsDisabled" "Z") ∈ zWS := zin_t2 88 rfl rfl
theorem fl_jU_59 : (Cond.fieldLink "java/lang/StringUTF16" (59 : Nat) "java/lang/StringUTF16" "HI_BYTE_SHIFT" "I") ∈ zWS := zin_t2 90 rfl rfl
theorem fl_jU_63 : (Cond.fieldLink "java/lang/StringUTF16" (63 : Nat) "java/lang/StringUTF16" "LO_BYTE_SHIFT" "I") ∈ zWS := zin_t2 92 rfl rfl
theorem ml_jU_232 : (Cond.methodLink "java/lang/StringUTF16" (232 : Nat) ({ cls := "java/lang/StringUTF16", name := "indexOfSupplementary", desc := "([BIII)I" } : MethodName)) ∈ zWS := zin_t2 94 rfl rfl
theorem sm_jU_indexOfSupplementary : (Cond.static ({ cls := "java/lang/StringUTF16", name := "indexOfSupplementary", desc := "([BIII)I" } : MethodName)) ∈ zWS := zin_t2 95 rfl rfl
theorem k_jU_indexOfSupplementary : (Cond.code ({ cls := "java/lang/StringUTF16", name := "indexOfSupplementary", desc := "([BIII)I" } : MethodName) prog_17_method_49_code (7 : Nat) (Option.some FieldType.int)) ∈ zWS := zin_t2 96 rfl rfl
theorem ml_jU_164 : (Cond.methodLink "java/lang/StringUTF16" (164 : Nat) ({ cls := "java/lang/Character", name := "isValidCodePoint", desc := "(I)Z" } : MethodName)) ∈ zWS := zin_t2 97 rfl rfl
theorem sm_jC_isValidCodePoint : (Cond.static ({ cls := "java/lang/Character", name := "isValidCodePoint", desc := "(I)Z" } : MethodName)) ∈ zWS := zin_t2 98 rfl rfl
theorem k_jC_isValidCodePoint : (Cond.code ({ cls := "java/lang/Character", name := "isValidCodePoint", desc := "(I)Z" } : MethodName) prog_13_method_11_code (2 : Nat) (Option.some FieldType.boolean)) ∈ zWS := zin_t2 99 rfl rfl
theorem ml_jU_157 : (Cond.methodLink "java/lang/StringUTF16" (157 : Nat) ({ cls := "java/lang/Character", name := "highSurrogate", desc := "(I)C" } : MethodName)) ∈ zWS := zin_t2 100 rfl rfl
theorem sm_jC_highSurrogate : (Cond.static ({ cls := "java/lang/Character", name := "highSurrogate", desc := "(I)C" } : MethodName)) ∈ zWS := zin_t2 101 rfl rfl
theorem k_jC_highSurrogate : (Cond.code ({ cls := "java/lang/Character", name := "highSurrogate", desc := "(I)C" } : MethodName) prog_13_method_28_code (1 : Nat) (Option.some FieldType.char)) ∈ zWS := zin_t2 102 rfl rfl
theorem kc_jC_110 : (Cond.constant "java/lang/Character" (110 : Nat) (55232 : Int32)) ∈ zWS := zin_t2 103 rfl rfl
theorem ml_jU_161 : (Cond.methodLink "java/lang/StringUTF16" (161 : Nat) ({ cls := "java/lang/Character", name := "lowSurrogate", desc := "(I)C" } : MethodName)) ∈ zWS := zin_t2 104 rfl rfl
theorem sm_jC_lowSurrogate : (Cond.static ({ cls := "java/lang/Character", name := "lowSurrogate", desc := "(I)C" } : MethodName)) ∈ zWS := zin_t2 105 rfl rfl
theorem k_jC_lowSurrogate : (Cond.code ({ cls := "java/lang/Character", name := "lowSurrogate", desc := "(I)C" } : MethodName) prog_13_method_29_code (1 : Nat) (Option.some FieldType.char)) ∈ zWS := zin_t2 106 rfl rfl
theorem kc_jC_76 : (Cond.constant "java/lang/Character" (76 : Nat) (56320 : Int32)) ∈ zWS := zin_t2 107 rfl rfl
theorem ml_S_59 : (Cond.methodLink "RationalSession" (59 : Nat) ({ cls := "RationalSession$Line", name := "add", desc := "(C)Z" } : MethodName)) ∈ zWS := zin_t2 108 rfl rfl
theorem im_L_add : (Cond.instanceMethod ({ cls := "RationalSession$Line", name := "add", desc := "(C)Z" } : MethodName)) ∈ zWS := zin_t2 109 rfl rfl
theorem se_L_add : (Cond.selects "RationalSession$Line" ({ cls := "RationalSession$Line", name := "add", desc := "(C)Z" } : MethodName) ({ cls := "RationalSession$Line", name := "add", desc := "(C)Z" } : MethodName)) ∈ zWS := zin_t2 110 rfl rfl
theorem k_L_add : (Cond.code ({ cls := "RationalSession$Line", name := "add", desc := "(C)Z" } : MethodName) prog_3_method_3_code (2 : Nat) (Option.some FieldType.boolean)) ∈ zWS := zin_t2 111 rfl rfl
theorem ac_byte : (Cond.arrayClass FieldType.byte) ∈ zWS := zin_t2 112 rfl rfl
theorem ml_Lw_20 : (Cond.methodLink "RationalSessionLaw" (20 : Nat) ({ cls := "RationalSession", name := "types", desc := "(J)I" } : MethodName)) ∈ zWS := zin_t2 113 rfl rfl
theorem im_S_types : (Cond.instanceMethod ({ cls := "RationalSession", name := "types", desc := "(J)I" } : MethodName)) ∈ zWS := zin_t2 114 rfl rfl
theorem se_S_types : (Cond.selects "RationalSession" ({ cls := "RationalSession", name := "types", desc := "(J)I" } : MethodName) ({ cls := "RationalSession", name := "types", desc := "(J)I" } : MethodName)) ∈ zWS := zin_t2 115 rfl rfl
theorem k_S_types : (Cond.code ({ cls := "RationalSession", name := "types", desc := "(J)I" } : MethodName) prog_1_method_3_code (6 : Nat) (Option.some FieldType.int)) ∈ zWS := zin_t2 116 rfl rfl
theorem ml_S_66 : (Cond.methodLink "RationalSession" (66 : Nat) ({ cls := "RationalSession", name := "type", desc := "(I)I" } : MethodName)) ∈ zWS := zin_t2 117 rfl rfl
theorem ml_Lw_25 : (Cond.methodLink "RationalSessionLaw" (25 : Nat) ({ cls := "RationalSession", name := "back", desc := "()I" } : MethodName)) ∈ zWS := zin_t2 118 rfl rfl
theorem im_S_back : (Cond.instanceMethod ({ cls := "RationalSession", name := "back", desc := "()I" } : MethodName)) ∈ zWS := zin_t2 119 rfl rfl
theorem se_S_back : (Cond.selects "RationalSession" ({ cls := "RationalSession", name := "back", desc := "()I" } : MethodName) ({ cls := "RationalSession", name := "back", desc := "()I" } : MethodName)) ∈ zWS := zin_t2 120 rfl rfl
theorem k_S_back : (Cond.code ({ cls := "RationalSession", name := "back", desc := "()I" } : MethodName) prog_1_method_4_code (1 : Nat) (Option.some FieldType.int)) ∈ zWS := zin_t2 121 rfl rfl
theorem ml_S_70 : (Cond.methodLink "RationalSession" (70 : Nat) ({ cls := "RationalSession$Line", name := "dropLast", desc := "()Z" } : MethodName)) ∈ zWS := zin_t2 122 rfl rfl
theorem im_L_dropLast : (Cond.instanceMethod ({ cls := "RationalSession$Line", name := "dropLast", desc := "()Z" } : MethodName)) ∈ zWS := zin_t2 123 rfl rfl
theorem se_L_dropLast : (Cond.selects "RationalSession$Line" ({ cls := "RationalSession$Line", name := "dropLast", desc := "()Z" } : MethodName) ({ cls := "RationalSession$Line", name := "dropLast", desc := "()Z" } : MethodName)) ∈ zWS := zin_t2 124 rfl rfl
theorem k_L_dropLast : (Cond.code ({ cls := "RationalSession$Line", name := "dropLast", desc := "()Z" } : MethodName) prog_3_method_4_code (1 : Nat) (Option.some FieldType.boolean)) ∈ zWS := zin_t2 125 rfl rfl
theorem ml_Lw_30 : (Cond.methodLink "RationalSessionLaw" (30 : Nat) ({ cls := "RationalSession", name := "enter", desc := "()I" } : MethodName)) ∈ zWS := zin_t2 126 rfl rfl
theorem im_S_enter : (Cond.instanceMethod ({ cls := "RationalSession", name := "enter", desc := "()I" } : MethodName)) ∈ zWS := zin_t2 127 rfl rfl
theorem se_S_enter : (Cond.selects "RationalSession" ({ cls := "RationalSession", name := "enter", desc := "()I" } : MethodName) ({ cls := "RationalSession", name := "enter", desc := "()I" } : MethodName)) ∈ zWS := zin_t2 128 rfl rfl
theorem k_S_enter : (Cond.code ({ cls := "RationalSession", name := "enter", desc := "()I" } : MethodName) prog_1_method_5_code (4 : Nat) (Option.some FieldType.int)) ∈ zWS := zin_t2 129 rfl rfl
theorem ml_S_74 : (Cond.methodLink "RationalSession" (74 : Nat) ({ cls := "RationalSession$Reader", name := "read", desc := "(LRationalSession$Line;LRationalSession$Program;)I" } : MethodName)) ∈ zWS := zin_t2 130 rfl rfl
theorem im_R_read : (Cond.instanceMethod ({ cls := "RationalSession$Reader", name := "read", desc := "(LRationalSession$Line;LRationalSession$Program;)I" } : MethodName)) ∈ zWS := zin_t2 131 rfl rfl
theorem se_R_read : (Cond.selects "RationalSession$Reader" ({ cls := "RationalSession$Reader", name := "read", desc := "(LRationalSession$Line;LRationalSession$Program;)I" } : MethodName) ({ cls := "RationalSession$Reader", name := "read", desc := "(LRationalSession$Line;LRationalSession$Program;)I" } : MethodName)) ∈ zWS := zin_t2 132 rfl rfl
theorem k_R_read : (Cond.code ({ cls := "RationalSession$Reader", name := "read", desc := "(LRationalSession$Line;LRationalSession$Program;)I" } : MethodName) prog_6_method_2_code (4 : Nat) (Option.some FieldType.int)) ∈ zWS := zin_t2 133 rfl rfl
theorem ml_R_30 : (Cond.methodLink "RationalSession$Reader" (30 : Nat) ({ cls := "RationalSession$Program", name := "clear", desc := "()V" } : MethodName)) ∈ zWS := zin_t2 134 rfl rfl
theorem im_G_clear : (Cond.instanceMethod ({ cls := "RationalSession$Program", name := "clear", desc := "()V" } : MethodName)) ∈ zWS := zin_t2 135 rfl rfl
theorem se_G_clear : (Cond.selects "RationalSession$Program" ({ cls := "RationalSession$Program", name := "clear", desc := "()V" } : MethodName) ({ cls := "RationalSession$Program", name := "clear", desc := "()V" } : MethodName)) ∈ zWS := zin_t2 136 rfl rfl
theorem k_G_clear : (Cond.code ({ cls := "RationalSession$Program", name := "clear", desc := "()V" } : MethodName) prog_5_method_2_code (1 : Nat) (Option.none : Option Jvm.ClassFile.FieldType)) ∈ zWS := zin_t2 137 rfl rfl
theorem ml_R_46 : (Cond.methodLink "RationalSession$Reader" (46 : Nat) ({ cls := "RationalSession$Reader", name := "startSum", desc := "()V" } : MethodName)) ∈ zWS := zin_t2 138 rfl rfl
theorem im_R_startSum : (Cond.instanceMethod ({ cls := "RationalSession$Reader", name := "startSum", desc := "()V" } : MethodName)) ∈ zWS := zin_t2 140 rfl rfl
theorem k_R_startSum : (Cond.code ({ cls := "RationalSession$Reader", name := "startSum", desc := "()V" } : MethodName) prog_6_method_6_code (1 : Nat) (Option.none : Option Jvm.ClassFile.FieldType)) ∈ zWS := zin_t2 141 rfl rfl
theorem ml_R_49 : (Cond.methodLink "RationalSession$Reader" (49 : Nat) ({ cls := "RationalSession$Reader", name := "readTarget", desc := "()V" } : MethodName)) ∈ zWS := zin_t2 142 rfl rfl
theorem im_R_readTarget : (Cond.instanceMethod ({ cls := "RationalSession$Reader", name := "readTarget", desc := "()V" } : MethodName)) ∈ zWS := zin_t2 144 rfl rfl
theorem k_R_readTarget : (Cond.code ({ cls := "RationalSession$Reader", name := "readTarget", desc := "()V" } : MethodName) prog_6_method_3_code (1 : Nat) (Option.none : Option Jvm.ClassFile.FieldType)) ∈ zWS := zin_t2 145 rfl rfl
theorem ml_R_60 : (Cond.methodLink "RationalSession$Reader" (60 : Nat) ({ cls := "RationalSession$Line", name := "at", desc := "(I)C" } : MethodName)) ∈ zWS := zin_t2 146 rfl rfl
theorem im_L_at : (Cond.instanceMethod ({ cls := "RationalSession$Line", name := "at", desc := "(I)C" } : MethodName)) ∈ zWS := zin_t2 147 rfl rfl
theorem se_L_at : (Cond.selects "RationalSession$Line" ({ cls := "RationalSession$Line", name := "at", desc := "(I)C" } : MethodName) ({ cls := "RationalSession$Line", name := "at", desc := "(I)C" } : MethodName)) ∈ zWS := zin_t2 148 rfl rfl
theorem k_L_at : (Cond.code ({ cls := "RationalSession$Line", name := "at", desc := "(I)C" } : MethodName) prog_3_method_6_code (2 : Nat) (Option.some FieldType.char)) ∈ zWS := zin_t2 149 rfl rfl
theorem ml_R_74 : (Cond.methodLink "RationalSession$Reader" (74 : Nat) ({ cls := "RationalSession$Reader", name := "isName", desc := "(C)Z" } : MethodName)) ∈ zWS := zin_t2 150 rfl rfl
theorem sm_R_isName : (Cond.static ({ cls := "RationalSession$Reader", name := "isName", desc := "(C)Z" } : MethodName)) ∈ zWS := zin_t2 151 rfl rfl
theorem k_R_isName : (Cond.code ({ cls := "RationalSession$Reader", name := "isName", desc := "(C)Z" } : MethodName) prog_6_method_16_code (1 : Nat) (Option.some FieldType.boolean)) ∈ zWS := zin_t2 152 rfl rfl
theorem ml_R_64 : (Cond.methodLink "RationalSession$Reader" (64 : Nat) ({ cls := "RationalSession$Reader", name := "readBeforeAtom", desc := "(C)V" } : MethodName)) ∈ zWS := zin_t2 153 rfl rfl
theorem im_R_readBeforeAtom : (Cond.instanceMethod ({ cls := "RationalSession$Reader", name := "readBeforeAtom", desc := "(C)V" } : MethodName)) ∈ zWS := zin_t2 155 rfl rfl
theorem k_R_readBeforeAtom : (Cond.code ({ cls := "RationalSession$Reader", name := "readBeforeAtom", desc := "(C)V" } : MethodName) prog_6_method_4_code (2 : Nat) (Option.none : Option Jvm.ClassFile.FieldType)) ∈ zWS := zin_t2 156 rfl rfl
theorem ml_R_84 : (Cond.methodLink "RationalSession$Reader" (84 : Nat) ({ cls := "RationalSession$Reader", name := "isDigit", desc := "(C)Z" } : MethodName)) ∈ zWS := zin_t2 157 rfl rfl
theorem sm_R_isDigit : (Cond.static ({ cls := "RationalSession$Reader", name := "isDigit", desc := "(C)Z" } : MethodName)) ∈ zWS := zin_t2 158 rfl rfl
theorem k_R_isDigit : (Cond.code ({ cls := "RationalSession$Reader", name := "isDigit", desc := "(C)Z" } : MethodName) prog_6_method_15_code (1 : Nat) (Option.some FieldType.boolean)) ∈ zWS := zin_t2 159 rfl rfl
theorem kc_R_87 : (Cond.constant "RationalSession$Reader" (87 : Nat) (99999 : Int32)) ∈ zWS := zin_t2 160 rfl rfl
theorem ml_R_88 : (Cond.methodLink "RationalSession$Reader" (88 : Nat) ({ cls := "RationalSession$Reader", name := "readNumber", desc := "(II)I" } : MethodName)) ∈ zWS := zin_t2 161 rfl rfl
theorem im_R_readNumber : (Cond.instanceMethod ({ cls := "RationalSession$Reader", name := "readNumber", desc := "(II)I" } : MethodName)) ∈ zWS := zin_t2 163 rfl rfl
theorem k_R_readNumber : (Cond.code ({ cls := "RationalSession$Reader", name := "readNumber", desc := "(II)I" } : MethodName) prog_6_method_12_code (6 : Nat) (Option.some FieldType.int)) ∈ zWS := zin_t2 164 rfl rfl
theorem ml_R_92 : (Cond.methodLink "RationalSession$Reader" (92 : Nat) ({ cls := "RationalSession$Reader", name := "endAtom", desc := "(II)V" } : MethodName)) ∈ zWS := zin_t2 165 rfl rfl
theorem im_R_endAtom : (Cond.instanceMethod ({ cls := "RationalSession$Reader", name := "endAtom", desc := "(II)V" } : MethodName)) ∈ zWS := zin_t2 167 rfl rfl
theorem k_R_endAtom : (Cond.code ({ cls := "RationalSession$Reader", name := "endAtom", desc := "(II)V" } : MethodName) prog_6_method_8_code (3 : Nat) (Option.none : Option Jvm.ClassFile.FieldType)) ∈ zWS := zin_t2 168 rfl rfl
theorem ml_R_114 : (Cond.methodLink "RationalSession$Reader" (114 : Nat) ({ cls := "RationalSession$Program", name := "add", desc := "(II)V" } : MethodName)) ∈ zWS := zin_t2 169 rfl rfl
theorem im_G_add : (Cond.instanceMethod ({ cls := "RationalSession$Program", name := "add", desc := "(II)V" } : MethodName)) ∈ zWS := zin_t2 170 rfl rfl
theorem se_G_add : (Cond.selects "RationalSession$Program" ({ cls := "RationalSession$Program", name := "add", desc := "(II)V" } : MethodName) ({ cls := "RationalSession$Program", name := "add", desc := "(II)V" } : MethodName)) ∈ zWS := zin_t2 171 rfl rfl
theorem k_G_add : (Cond.code ({ cls := "RationalSession$Program", name := "add", desc := "(II)V" } : MethodName) prog_5_method_3_code (3 : Nat) (Option.none : Option Jvm.ClassFile.FieldType)) ∈ zWS := zin_t2 172 rfl rfl
theorem ml_R_96 : (Cond.methodLink "RationalSession$Reader" (96 : Nat) ({ cls := "RationalSession$Reader", name := "readOpening", desc := "(C)V" } : MethodName)) ∈ zWS := zin_t2 173 rfl rfl
theorem im_R_readOpening : (Cond.instanceMethod ({ cls := "RationalSession$Reader", name := "readOpening", desc := "(C)V" } : MethodName)) ∈ zWS := zin_t2 175 rfl rfl
theorem k_R_readOpening : (Cond.code ({ cls := "RationalSession$Reader", name := "readOpening", desc := "(C)V" } : MethodName) prog_6_method_9_code (2 : Nat) (Option.none : Option Jvm.ClassFile.FieldType)) ∈ zWS := zin_t2 176 rfl rfl
theorem ml_R_68 : (Cond.methodLink "RationalSession$Reader" (68 : Nat) ({ cls := "RationalSession$Reader", name := "readAfterAtom", desc := "(C)V" } : MethodName)) ∈ zWS := zin_t2 177 rfl rfl
theorem im_R_readAfterAtom : (Cond.instanceMethod ({ cls := "RationalSession$Reader", name := "readAfterAtom", desc := "(C)V" } : MethodName)) ∈ zWS := zin_t2 179 rfl rfl
theorem k_R_readAfterAtom : (Cond.code ({ cls := "RationalSession$Reader", name := "readAfterAtom", desc := "(C)V" } : MethodName) prog_6_method_5_code (2 : Nat) (Option.none : Option Jvm.ClassFile.FieldType)) ∈ zWS := zin_t2 180 rfl rfl
theorem ml_R_102 : (Cond.methodLink "RationalSession$Reader" (102 : Nat) ({ cls := "RationalSession$Reader", name := "readExponent", desc := "()V" } : MethodName)) ∈ zWS := zin_t2 181 rfl rfl
theorem im_R_readExponent : (Cond.instanceMethod ({ cls := "RationalSession$Reader", name := "readExponent", desc := "()V" } : MethodName)) ∈ zWS := zin_t2 183 rfl rfl
theorem k_R_readExponent : (Cond.code ({ cls := "RationalSession$Reader", name := "readExponent", desc := "()V" } : MethodName) prog_6_method_11_code (3 : Nat) (Option.none : Option Jvm.ClassFile.FieldType)) ∈ zWS := zin_t2 184 rfl rfl
theorem ml_R_105 : (Cond.methodLink "RationalSession$Reader" (105 : Nat) ({ cls := "RationalSession$Reader", name := "finishPower", desc := "()V" } : MethodName)) ∈ zWS := zin_t2 185 rfl rfl
theorem im_R_finishPower : (Cond.instanceMethod ({ cls := "RationalSession$Reader", name := "finishPower", desc := "()V" } : MethodName)) ∈ zWS := zin_t2 187 rfl rfl
theorem k_R_finishPower : (Cond.code ({ cls := "RationalSession$Reader", name := "finishPower", desc := "()V" } : MethodName) prog_6_method_13_code (1 : Nat) (Option.none : Option Jvm.ClassFile.FieldType)) ∈ zWS := zin_t2 188 rfl rfl
theorem ml_R_108 : (Cond.methodLink "RationalSession$Reader" (108 : Nat) ({ cls := "RationalSession$Reader", name := "startAtom", desc := "()V" } : MethodName)) ∈ zWS := zin_t2 189 rfl rfl
theorem im_R_startAtom : (Cond.instanceMethod ({ cls := "RationalSession$Reader", name := "startAtom", desc := "()V" } : MethodName)) ∈ zWS := zin_t2 191 rfl rfl
theorem k_R_startAtom : (Cond.code ({ cls := "RationalSession$Reader", name := "startAtom", desc := "()V" } : MethodName) prog_6_method_7_code (1 : Nat) (Option.none : Option Jvm.ClassFile.FieldType)) ∈ zWS := zin_t2 192 rfl rfl
theorem ml_R_71 : (Cond.methodLink "RationalSession$Reader" (71 : Nat) ({ cls := "RationalSession$Reader", name := "finishTerm", desc := "()V" } : MethodName)) ∈ zWS := zin_t2 193 rfl rfl
theorem im_R_finishTerm : (Cond.instanceMethod ({ cls := "RationalSession$Reader", name := "finishTerm", desc := "()V" } : MethodName)) ∈ zWS := zin_t2 195 rfl rfl
theorem k_R_finishTerm : (Cond.code ({ cls := "RationalSession$Reader", name := "finishTerm", desc := "()V" } : MethodName) prog_6_method_14_code (1 : Nat) (Option.none : Option Jvm.ClassFile.FieldType)) ∈ zWS := zin_t2 196 rfl rfl
theorem ml_R_111 : (Cond.methodLink "RationalSession$Reader" (111 : Nat) ({ cls := "RationalSession$Reader", name := "closeOpening", desc := "()V" } : MethodName)) ∈ zWS := zin_t2 197 rfl rfl
theorem im_R_closeOpening : (Cond.instanceMethod ({ cls := "RationalSession$Reader", name := "closeOpening", desc := "()V" } : MethodName)) ∈ zWS := zin_t2 199 rfl rfl
theorem k_R_closeOpening : (Cond.code ({ cls := "RationalSession$Reader", name := "closeOpening", desc := "()V" } : MethodName) prog_6_method_10_code (2 : Nat) (Option.none : Option Jvm.ClassFile.FieldType)) ∈ zWS := zin_t2 200 rfl rfl
theorem ml_S_78 : (Cond.methodLink "RationalSession" (78 : Nat) ({ cls := "RationalSession$Line", name := "clear", desc := "()V" } : MethodName)) ∈ zWS := zin_t2 201 rfl rfl
theorem im_L_clear : (Cond.instanceMethod ({ cls := "RationalSession$Line", name := "clear", desc := "()V" } : MethodName)) ∈ zWS := zin_t2 202 rfl rfl
theorem se_L_clear : (Cond.selects "RationalSession$Line" ({ cls := "RationalSession$Line", name := "clear", desc := "()V" } : MethodName) ({ cls := "RationalSession$Line", name := "clear", desc := "()V" } : MethodName)) ∈ zWS := zin_t2 203 rfl rfl
theorem k_L_clear : (Cond.code ({ cls := "RationalSession$Line", name := "clear", desc := "()V" } : MethodName) prog_3_method_5_code (1 : Nat) (Option.none : Option Jvm.ClassFile.FieldType)) ∈ zWS := zin_t2 204 rfl rfl
theorem ml_S_81 : (Cond.methodLink "RationalSession" (81 : Nat) ({ cls := "RationalSession$Shelf", name := "isFull", desc := "()Z" } : MethodName)) ∈ zWS := zin_t2 205 rfl rfl
theorem im_H_isFull : (Cond.instanceMethod ({ cls := "RationalSession$Shelf", name := "isFull", desc := "()Z" } : MethodName)) ∈ zWS := zin_t2 206 rfl rfl
theorem se_H_isFull : (Cond.selects "RationalSession$Shelf" ({ cls := "RationalSession$Shelf", name := "isFull", desc := "()Z" } : MethodName) ({ cls := "RationalSession$Shelf", name := "isFull", desc := "()Z" } : MethodName)) ∈ zWS := zin_t2 207 rfl rfl
theorem k_H_isFull : (Cond.code ({ cls := "RationalSession$Shelf", name := "isFull", desc := "()Z" } : MethodName) prog_7_method_3_code (1 : Nat) (Option.some FieldType.boolean)) ∈ zWS := zin_t2 208 rfl rfl
theorem ml_S_84 : (Cond.methodLink "RationalSession" (84 : Nat) ({ cls := "RationalSession$Worker", name := "run", desc := "(LRationalSession$Program;LRationalSession$Shelf;)I" } : MethodName)) ∈ zWS := zin_t2 209 rfl rfl
theorem im_K_run : (Cond.instanceMethod ({ cls := "RationalSession$Worker", name := "run", desc := "(LRationalSession$Program;LRationalSession$Shelf;)I" } : MethodName)) ∈ zWS := zin_t2 210 rfl rfl
theorem se_K_run : (Cond.selects "RationalSession$Worker" ({ cls := "RationalSession$Worker", name := "run", desc := "(LRationalSession$Program;LRationalSession$Shelf;)I" } : MethodName) ({ cls := "RationalSession$Worker", name := "run", desc := "(LRationalSession$Program;LRationalSession$Shelf;)I" } : MethodName)) ∈ zWS := zin_t2 211 rfl rfl
theorem k_K_run : (Cond.code ({ cls := "RationalSession$Worker", name := "run", desc := "(LRationalSession$Program;LRationalSession$Shelf;)I" } : MethodName) prog_9_method_2_code (6 : Nat) (Option.some FieldType.int)) ∈ zWS := zin_t2 212 rfl rfl
theorem ml_K_38 : (Cond.methodLink "RationalSession$Worker" (38 : Nat) ({ cls := "RationalSession$Program", name := "loads", desc := "(I)Z" } : MethodName)) ∈ zWS := zin_t2 213 rfl rfl
theorem sm_G_loads : (Cond.static ({ cls := "RationalSession$Program", name := "loads", desc := "(I)Z" } : MethodName)) ∈ zWS := zin_t2 214 rfl rfl
theorem k_G_loads : (Cond.code ({ cls := "RationalSession$Program", name := "loads", desc := "(I)Z" } : MethodName) prog_5_method_4_code (1 : Nat) (Option.some FieldType.boolean)) ∈ zWS := zin_t2 215 rfl rfl
theorem ml_K_45 : (Cond.methodLink "RationalSession$Worker" (45 : Nat) ({ cls := "RationalSession$Worker", name := "load", desc := "(IILRationalSession$Shelf;)I" } : MethodName)) ∈ zWS := zin_t2 216 rfl rfl
theorem im_K_load : (Cond.instanceMethod ({ cls := "RationalSession$Worker", name := "load", desc := "(IILRationalSession$Shelf;)I" } : MethodName)) ∈ zWS := zin_t2 218 rfl rfl
theorem k_K_load : (Cond.code ({ cls := "RationalSession$Worker", name := "load", desc := "(IILRationalSession$Shelf;)I" } : MethodName) prog_9_method_4_code (6 : Nat) (Option.some FieldType.int)) ∈ zWS := zin_t2 219 rfl rfl
theorem ml_K_53 : (Cond.methodLink "RationalSession$Worker" (53 : Nat) ({ cls := "RationalSession$Form", name := "setConstant", desc := "(I)V" } : MethodName)) ∈ zWS := zin_t2 220 rfl rfl
theorem im_F_setConstant : (Cond.instanceMethod ({ cls := "RationalSession$Form", name := "setConstant", desc := "(I)V" } : MethodName)) ∈ zWS := zin_t2 221 rfl rfl
theorem se_F_setConstant : (Cond.selects "RationalSession$Form" ({ cls := "RationalSession$Form", name := "setConstant", desc := "(I)V" } : MethodName) ({ cls := "RationalSession$Form", name := "setConstant", desc := "(I)V" } : MethodName)) ∈ zWS := zin_t2 222 rfl rfl
theorem k_F_setConstant : (Cond.code ({ cls := "RationalSession$Form", name := "setConstant", desc := "(I)V" } : MethodName) prog_2_method_5_code (2 : Nat) (Option.none : Option Jvm.ClassFile.FieldType)) ∈ zWS := zin_t2 223 rfl rfl
theorem ml_F_37 : (Cond.methodLink "RationalSession$Form" (37 : Nat) ({ cls := "RationalSession$Polynomial", name := "setConstant", desc := "(I)V" } : MethodName)) ∈ zWS := zin_t2 224 rfl rfl
theorem im_P_setConstant : (Cond.instanceMethod ({ cls := "RationalSession$Polynomial", name := "setConstant", desc := "(I)V" } : MethodName)) ∈ zWS := zin_t2 225 rfl rfl
theorem se_P_setConstant : (Cond.selects "RationalSession$Polynomial" ({ cls := "RationalSession$Polynomial", name := "setConstant", desc := "(I)V" } : MethodName) ({ cls := "RationalSession$Polynomial", name := "setConstant", desc := "(I)V" } : MethodName)) ∈ zWS := zin_t2 226 rfl rfl
theorem k_P_setConstant : (Cond.code ({ cls := "RationalSession$Polynomial", name := "setConstant", desc := "(I)V" } : MethodName) prog_4_method_5_code (2 : Nat) (Option.none : Option Jvm.ClassFile.FieldType)) ∈ zWS := zin_t2 227 rfl rfl
theorem ml_K_57 : (Cond.methodLink "RationalSession$Worker" (57 : Nat) ({ cls := "RationalSession$Form", name := "setLetter", desc := "()V" } : MethodName)) ∈ zWS := zin_t2 228 rfl rfl
theorem im_F_setLetter : (Cond.instanceMethod ({ cls := "RationalSession$Form", name := "setLetter", desc := "()V" } : MethodName)) ∈ zWS := zin_t2 229 rfl rfl
theorem se_F_setLetter : (Cond.selects "RationalSession$Form" ({ cls := "RationalSession$Form", name := "setLetter", desc := "()V" } : MethodName) ({ cls := "RationalSession$Form", name := "setLetter", desc := "()V" } : MethodName)) ∈ zWS := zin_t2 230 rfl rfl
theorem k_F_setLetter : (Cond.code ({ cls := "RationalSession$Form", name := "setLetter", desc := "()V" } : MethodName) prog_2_method_6_code (1 : Nat) (Option.none : Option Jvm.ClassFile.FieldType)) ∈ zWS := zin_t2 231 rfl rfl
theorem ml_F_40 : (Cond.methodLink "RationalSession$Form" (40 : Nat) ({ cls := "RationalSession$Polynomial", name := "setLetter", desc := "()V" } : MethodName)) ∈ zWS := zin_t2 232 rfl rfl
theorem im_P_setLetter : (Cond.instanceMethod ({ cls := "RationalSession$Polynomial", name := "setLetter", desc := "()V" } : MethodName)) ∈ zWS := zin_t2 233 rfl rfl
theorem se_P_setLetter : (Cond.selects "RationalSession$Polynomial" ({ cls := "RationalSession$Polynomial", name := "setLetter", desc := "()V" } : MethodName) ({ cls := "RationalSession$Polynomial", name := "setLetter", desc := "()V" } : MethodName)) ∈ zWS := zin_t2 234 rfl rfl
theorem k_P_setLetter : (Cond.code ({ cls := "RationalSession$Polynomial", name := "setLetter", desc := "()V" } : MethodName) prog_4_method_6_code (1 : Nat) (Option.none : Option Jvm.ClassFile.FieldType)) ∈ zWS := zin_t2 235 rfl rfl
theorem ml_K_60 : (Cond.methodLink "RationalSession$Worker" (60 : Nat) ({ cls := "RationalSession$Shelf", name := "labelBoundTo", desc := "(I)I" } : MethodName)) ∈ zWS := zin_t2 236 rfl rfl
theorem im_H_labelBoundTo : (Cond.instanceMethod ({ cls := "RationalSession$Shelf", name := "labelBoundTo", desc := "(I)I" } : MethodName)) ∈ zWS := zin_t2 237 rfl rfl
theorem se_H_labelBoundTo : (Cond.selects "RationalSession$Shelf" ({ cls := "RationalSession$Shelf", name := "labelBoundTo", desc := "(I)I" } : MethodName) ({ cls := "RationalSession$Shelf", name := "labelBoundTo", desc := "(I)I" } : MethodName)) ∈ zWS := zin_t2 238 rfl rfl
theorem k_H_labelBoundTo : (Cond.code ({ cls := "RationalSession$Shelf", name := "labelBoundTo", desc := "(I)I" } : MethodName) prog_7_method_6_code (2 : Nat) (Option.some FieldType.int)) ∈ zWS := zin_t2 239 rfl rfl
theorem ml_K_66 : (Cond.methodLink "RationalSession$Worker" (66 : Nat) ({ cls := "RationalSession$Shelf", name := "find", desc := "(I)LRationalSession$Form;" } : MethodName)) ∈ zWS := zin_t3 0 rfl rfl
theorem im_H_find : (Cond.instanceMethod ({ cls := "RationalSession$Shelf", name := "find", desc := "(I)LRationalSession$Form;" } : MethodName)) ∈ zWS := zin_t3 1 rfl rfl
theorem se_H_find : (Cond.selects "RationalSession$Shelf" ({ cls := "RationalSession$Shelf", name := "find", desc := "(I)LRationalSession$Form;" } : MethodName) ({ cls := "RationalSession$Shelf", name := "find", desc := "(I)LRationalSession$Form;" } : MethodName)) ∈ zWS := zin_t3 2 rfl rfl
theorem k_H_find : (Cond.code ({ cls := "RationalSession$Shelf", name := "find", desc := "(I)LRationalSession$Form;" } : MethodName) prog_7_method_4_code (2 : Nat) (Option.some (FieldType.object "RationalSession$Form"))) ∈ zWS := zin_t3 3 rfl rfl
theorem ml_K_70 : (Cond.methodLink "RationalSession$Worker" (70 : Nat) ({ cls := "RationalSession$Form", name := "copy", desc := "(LRationalSession$Form;)V" } : MethodName)) ∈ zWS := zin_t3 4 rfl rfl
theorem im_F_copy : (Cond.instanceMethod ({ cls := "RationalSession$Form", name := "copy", desc := "(LRationalSession$Form;)V" } : MethodName)) ∈ zWS := zin_t3 5 rfl rfl
theorem se_F_copy : (Cond.selects "RationalSession$Form" ({ cls := "RationalSession$Form", name := "copy", desc := "(LRationalSession$Form;)V" } : MethodName) ({ cls := "RationalSession$Form", name := "copy", desc := "(LRationalSession$Form;)V" } : MethodName)) ∈ zWS := zin_t3 6 rfl rfl
theorem k_F_copy : (Cond.code ({ cls := "RationalSession$Form", name := "copy", desc := "(LRationalSession$Form;)V" } : MethodName) prog_2_method_7_code (2 : Nat) (Option.none : Option Jvm.ClassFile.FieldType)) ∈ zWS := zin_t3 7 rfl rfl
theorem ml_F_43 : (Cond.methodLink "RationalSession$Form" (43 : Nat) ({ cls := "RationalSession$Polynomial", name := "copy", desc := "(LRationalSession$Polynomial;)V" } : MethodName)) ∈ zWS := zin_t3 8 rfl rfl
theorem im_P_copy : (Cond.instanceMethod ({ cls := "RationalSession$Polynomial", name := "copy", desc := "(LRationalSession$Polynomial;)V" } : MethodName)) ∈ zWS := zin_t3 9 rfl rfl
theorem se_P_copy : (Cond.selects "RationalSession$Polynomial" ({ cls := "RationalSession$Polynomial", name := "copy", desc := "(LRationalSession$Polynomial;)V" } : MethodName) ({ cls := "RationalSession$Polynomial", name := "copy", desc := "(LRationalSession$Polynomial;)V" } : MethodName)) ∈ zWS := zin_t3 10 rfl rfl
theorem k_P_copy : (Cond.code ({ cls := "RationalSession$Polynomial", name := "copy", desc := "(LRationalSession$Polynomial;)V" } : MethodName) prog_4_method_7_code (3 : Nat) (Option.none : Option Jvm.ClassFile.FieldType)) ∈ zWS := zin_t3 11 rfl rfl
theorem ml_P_23 : (Cond.methodLink "RationalSession$Polynomial" (23 : Nat) ({ cls := "java/lang/Math", name := "min", desc := "(II)I" } : MethodName)) ∈ zWS := zin_t3 12 rfl rfl
theorem ml_K_49 : (Cond.methodLink "RationalSession$Worker" (49 : Nat) ({ cls := "RationalSession$Worker", name := "operate", desc := "(II)I" } : MethodName)) ∈ zWS := zin_t3 13 rfl rfl
theorem im_K_operate : (Cond.instanceMethod ({ cls := "RationalSession$Worker", name := "operate", desc := "(II)I" } : MethodName)) ∈ zWS := zin_t3 15 rfl rfl
theorem k_K_operate : (Cond.code ({ cls := "RationalSession$Worker", name := "operate", desc := "(II)I" } : MethodName) prog_9_method_5_code (7 : Nat) (Option.some FieldType.int)) ∈ zWS := zin_t3 16 rfl rfl
theorem ml_K_74 : (Cond.methodLink "RationalSession$Worker" (74 : Nat) ({ cls := "RationalSession$Program", name := "hasTwoSides", desc := "(I)Z" } : MethodName)) ∈ zWS := zin_t3 17 rfl rfl
theorem sm_G_hasTwoSides : (Cond.static ({ cls := "RationalSession$Program", name := "hasTwoSides", desc := "(I)Z" } : MethodName)) ∈ zWS := zin_t3 18 rfl rfl
theorem k_G_hasTwoSides : (Cond.code ({ cls := "RationalSession$Program", name := "hasTwoSides", desc := "(I)Z" } : MethodName) prog_5_method_5_code (1 : Nat) (Option.some FieldType.boolean)) ∈ zWS := zin_t3 19 rfl rfl
theorem ml_K_77 : (Cond.methodLink "RationalSession$Worker" (77 : Nat) ({ cls := "RationalSession$Workshop", name := "add", desc := "(LRationalSession$Form;LRationalSession$Form;I)V" } : MethodName)) ∈ zWS := zin_t3 20 rfl rfl
theorem im_W_add : (Cond.instanceMethod ({ cls := "RationalSession$Workshop", name := "add", desc := "(LRationalSession$Form;LRationalSession$Form;I)V" } : MethodName)) ∈ zWS := zin_t3 21 rfl rfl
theorem se_W_add : (Cond.selects "RationalSession$Workshop" ({ cls := "RationalSession$Workshop", name := "add", desc := "(LRationalSession$Form;LRationalSession$Form;I)V" } : MethodName) ({ cls := "RationalSession$Workshop", name := "add", desc := "(LRationalSession$Form;LRationalSession$Form;I)V" } : MethodName)) ∈ zWS := zin_t3 22 rfl rfl
theorem k_W_add : (Cond.code ({ cls := "RationalSession$Workshop", name := "add", desc := "(LRationalSession$Form;LRationalSession$Form;I)V" } : MethodName) prog_10_method_2_code (4 : Nat) (Option.none : Option Jvm.ClassFile.FieldType)) ∈ zWS := zin_t3 23 rfl rfl
theorem ml_W_42 : (Cond.methodLink "RationalSession$Workshop" (42 : Nat) ({ cls := "RationalSession$Polynomial", name := "setProduct", desc := "(LRationalSession$Polynomial;LRationalSession$Polynomial;)V" } : MethodName)) ∈ zWS := zin_t3 24 rfl rfl
theorem im_P_setProduct : (Cond.instanceMethod ({ cls := "RationalSession$Polynomial", name := "setProduct", desc := "(LRationalSession$Polynomial;LRationalSession$Polynomial;)V" } : MethodName)) ∈ zWS := zin_t3 25 rfl rfl
theorem se_P_setProduct : (Cond.selects "RationalSession$Polynomial" ({ cls := "RationalSession$Polynomial", name := "setProduct", desc := "(LRationalSession$Polynomial;LRationalSession$Polynomial;)V" } : MethodName) ({ cls := "RationalSession$Polynomial", name := "setProduct", desc := "(LRationalSession$Polynomial;LRationalSession$Polynomial;)V" } : MethodName)) ∈ zWS := zin_t3 26 rfl rfl
theorem k_P_setProduct : (Cond.code ({ cls := "RationalSession$Polynomial", name := "setProduct", desc := "(LRationalSession$Polynomial;LRationalSession$Polynomial;)V" } : MethodName) prog_4_method_9_code (6 : Nat) (Option.none : Option Jvm.ClassFile.FieldType)) ∈ zWS := zin_t3 27 rfl rfl
theorem ml_P_29 : (Cond.methodLink "RationalSession$Polynomial" (29 : Nat) ({ cls := "RationalSession$Polynomial", name := "isZero", desc := "()Z" } : MethodName)) ∈ zWS := zin_t3 28 rfl rfl
theorem im_P_isZero : (Cond.instanceMethod ({ cls := "RationalSession$Polynomial", name := "isZero", desc := "()Z" } : MethodName)) ∈ zWS := zin_t3 29 rfl rfl
theorem se_P_isZero : (Cond.selects "RationalSession$Polynomial" ({ cls := "RationalSession$Polynomial", name := "isZero", desc := "()Z" } : MethodName) ({ cls := "RationalSession$Polynomial", name := "isZero", desc := "()Z" } : MethodName)) ∈ zWS := zin_t3 30 rfl rfl
theorem k_P_isZero : (Cond.code ({ cls := "RationalSession$Polynomial", name := "isZero", desc := "()Z" } : MethodName) prog_4_method_2_code (1 : Nat) (Option.some FieldType.boolean)) ∈ zWS := zin_t3 31 rfl rfl
theorem ml_W_46 : (Cond.methodLink "RationalSession$Workshop" (46 : Nat) ({ cls := "RationalSession$Polynomial", name := "addMultiple", desc := "(LRationalSession$Polynomial;I)V" } : MethodName)) ∈ zWS := zin_t3 32 rfl rfl
theorem im_P_addMultiple : (Cond.instanceMethod ({ cls := "RationalSession$Polynomial", name := "addMultiple", desc := "(LRationalSession$Polynomial;I)V" } : MethodName)) ∈ zWS := zin_t3 33 rfl rfl
theorem se_P_addMultiple : (Cond.selects "RationalSession$Polynomial" ({ cls := "RationalSession$Polynomial", name := "addMultiple", desc := "(LRationalSession$Polynomial;I)V" } : MethodName) ({ cls := "RationalSession$Polynomial", name := "addMultiple", desc := "(LRationalSession$Polynomial;I)V" } : MethodName)) ∈ zWS := zin_t3 34 rfl rfl
theorem k_P_addMultiple : (Cond.code ({ cls := "RationalSession$Polynomial", name := "addMultiple", desc := "(LRationalSession$Polynomial;I)V" } : MethodName) prog_4_method_12_code (5 : Nat) (Option.none : Option Jvm.ClassFile.FieldType)) ∈ zWS := zin_t3 35 rfl rfl
theorem ml_P_37 : (Cond.methodLink "RationalSession$Polynomial" (37 : Nat) ({ cls := "java/lang/Math", name := "max", desc := "(II)I" } : MethodName)) ∈ zWS := zin_t3 36 rfl rfl
theorem ml_P_19 : (Cond.methodLink "RationalSession$Polynomial" (19 : Nat) ({ cls := "RationalSession$Polynomial", name := "get", desc := "(I)I" } : MethodName)) ∈ zWS := zin_t3 37 rfl rfl
theorem im_P_get : (Cond.instanceMethod ({ cls := "RationalSession$Polynomial", name := "get", desc := "(I)I" } : MethodName)) ∈ zWS := zin_t3 38 rfl rfl
theorem se_P_get : (Cond.selects "RationalSession$Polynomial" ({ cls := "RationalSession$Polynomial", name := "get", desc := "(I)I" } : MethodName) ({ cls := "RationalSession$Polynomial", name := "get", desc := "(I)I" } : MethodName)) ∈ zWS := zin_t3 39 rfl rfl
theorem k_P_get : (Cond.code ({ cls := "RationalSession$Polynomial", name := "get", desc := "(I)I" } : MethodName) prog_4_method_3_code (2 : Nat) (Option.some FieldType.int)) ∈ zWS := zin_t3 40 rfl rfl
theorem ml_P_33 : (Cond.methodLink "RationalSession$Polynomial" (33 : Nat) ({ cls := "RationalSession$Polynomial", name := "trimFrom", desc := "(I)V" } : MethodName)) ∈ zWS := zin_t3 41 rfl rfl
theorem im_P_trimFrom : (Cond.instanceMethod ({ cls := "RationalSession$Polynomial", name := "trimFrom", desc := "(I)V" } : MethodName)) ∈ zWS := zin_t3 43 rfl rfl
theorem k_P_trimFrom : (Cond.code ({ cls := "RationalSession$Polynomial", name := "trimFrom", desc := "(I)V" } : MethodName) prog_4_method_15_code (3 : Nat) (Option.none : Option Jvm.ClassFile.FieldType)) ∈ zWS := zin_t3 44 rfl rfl
theorem ml_K_81 : (Cond.methodLink "RationalSession$Worker" (81 : Nat) ({ cls := "RationalSession$Workshop", name := "multiply", desc := "(LRationalSession$Form;LRationalSession$Form;)V" } : MethodName)) ∈ zWS := zin_t3 45 rfl rfl
theorem im_W_multiply : (Cond.instanceMethod ({ cls := "RationalSession$Workshop", name := "multiply", desc := "(LRationalSession$Form;LRationalSession$Form;)V" } : MethodName)) ∈ zWS := zin_t3 46 rfl rfl
theorem se_W_multiply : (Cond.selects "RationalSession$Workshop" ({ cls := "RationalSession$Workshop", name := "multiply", desc := "(LRationalSession$Form;LRationalSession$Form;)V" } : MethodName) ({ cls := "RationalSession$Workshop", name := "multiply", desc := "(LRationalSession$Form;LRationalSession$Form;)V" } : MethodName)) ∈ zWS := zin_t3 47 rfl rfl
theorem k_W_multiply : (Cond.code ({ cls := "RationalSession$Workshop", name := "multiply", desc := "(LRationalSession$Form;LRationalSession$Form;)V" } : MethodName) prog_10_method_3_code (3 : Nat) (Option.none : Option Jvm.ClassFile.FieldType)) ∈ zWS := zin_t3 48 rfl rfl
theorem ml_K_85 : (Cond.methodLink "RationalSession$Worker" (85 : Nat) ({ cls := "RationalSession$Workshop", name := "divide", desc := "(LRationalSession$Form;LRationalSession$Form;)I" } : MethodName)) ∈ zWS := zin_t3 49 rfl rfl
theorem im_W_divide : (Cond.instanceMethod ({ cls := "RationalSession$Workshop", name := "divide", desc := "(LRationalSession$Form;LRationalSession$Form;)I" } : MethodName)) ∈ zWS := zin_t3 50 rfl rfl
theorem se_W_divide : (Cond.selects "RationalSession$Workshop" ({ cls := "RationalSession$Workshop", name := "divide", desc := "(LRationalSession$Form;LRationalSession$Form;)I" } : MethodName) ({ cls := "RationalSession$Workshop", name := "divide", desc := "(LRationalSession$Form;LRationalSession$Form;)I" } : MethodName)) ∈ zWS := zin_t3 51 rfl rfl
theorem k_W_divide : (Cond.code ({ cls := "RationalSession$Workshop", name := "divide", desc := "(LRationalSession$Form;LRationalSession$Form;)I" } : MethodName) prog_10_method_4_code (3 : Nat) (Option.some FieldType.int)) ∈ zWS := zin_t3 52 rfl rfl
theorem ml_W_50 : (Cond.methodLink "RationalSession$Workshop" (50 : Nat) ({ cls := "RationalSession$Form", name := "isZero", desc := "()Z" } : MethodName)) ∈ zWS := zin_t3 53 rfl rfl
theorem im_F_isZero : (Cond.instanceMethod ({ cls := "RationalSession$Form", name := "isZero", desc := "()Z" } : MethodName)) ∈ zWS := zin_t3 54 rfl rfl
theorem se_F_isZero : (Cond.selects "RationalSession$Form" ({ cls := "RationalSession$Form", name := "isZero", desc := "()Z" } : MethodName) ({ cls := "RationalSession$Form", name := "isZero", desc := "()Z" } : MethodName)) ∈ zWS := zin_t3 55 rfl rfl
theorem k_F_isZero : (Cond.code ({ cls := "RationalSession$Form", name := "isZero", desc := "()Z" } : MethodName) prog_2_method_3_code (1 : Nat) (Option.some FieldType.boolean)) ∈ zWS := zin_t3 56 rfl rfl
theorem ml_F_23 : (Cond.methodLink "RationalSession$Form" (23 : Nat) ({ cls := "RationalSession$Polynomial", name := "isZero", desc := "()Z" } : MethodName)) ∈ zWS := zin_t3 57 rfl rfl
theorem ml_K_89 : (Cond.methodLink "RationalSession$Worker" (89 : Nat) ({ cls := "RationalSession$Workshop", name := "compose", desc := "(LRationalSession$Form;LRationalSession$Form;)I" } : MethodName)) ∈ zWS := zin_t3 58 rfl rfl
theorem im_W_compose : (Cond.instanceMethod ({ cls := "RationalSession$Workshop", name := "compose", desc := "(LRationalSession$Form;LRationalSession$Form;)I" } : MethodName)) ∈ zWS := zin_t3 59 rfl rfl
theorem se_W_compose : (Cond.selects "RationalSession$Workshop" ({ cls := "RationalSession$Workshop", name := "compose", desc := "(LRationalSession$Form;LRationalSession$Form;)I" } : MethodName) ({ cls := "RationalSession$Workshop", name := "compose", desc := "(LRationalSession$Form;LRationalSession$Form;)I" } : MethodName)) ∈ zWS := zin_t3 60 rfl rfl
theorem k_W_compose : (Cond.code ({ cls := "RationalSession$Workshop", name := "compose", desc := "(LRationalSession$Form;LRationalSession$Form;)I" } : MethodName) prog_10_method_9_code (4 : Nat) (Option.some FieldType.int)) ∈ zWS := zin_t3 61 rfl rfl
theorem ml_W_70 : (Cond.methodLink "RationalSession$Workshop" (70 : Nat) ({ cls := "RationalSession$Form", name := "height", desc := "()I" } : MethodName)) ∈ zWS := zin_t3 62 rfl rfl
theorem im_F_height : (Cond.instanceMethod ({ cls := "RationalSession$Form", name := "height", desc := "()I" } : MethodName)) ∈ zWS := zin_t3 63 rfl rfl
theorem se_F_height : (Cond.selects "RationalSession$Form" ({ cls := "RationalSession$Form", name := "height", desc := "()I" } : MethodName) ({ cls := "RationalSession$Form", name := "height", desc := "()I" } : MethodName)) ∈ zWS := zin_t3 64 rfl rfl
theorem k_F_height : (Cond.code ({ cls := "RationalSession$Form", name := "height", desc := "()I" } : MethodName) prog_2_method_4_code (1 : Nat) (Option.some FieldType.int)) ∈ zWS := zin_t3 65 rfl rfl
theorem ml_F_31 : (Cond.methodLink "RationalSession$Form" (31 : Nat) ({ cls := "java/lang/Math", name := "max", desc := "(II)I" } : MethodName)) ∈ zWS := zin_t3 66 rfl rfl
theorem ml_W_81 : (Cond.methodLink "RationalSession$Workshop" (81 : Nat) ({ cls := "RationalSession$Workshop", name := "putInto", desc := "(LRationalSession$Polynomial;ILRationalSession$Form;LRationalSession$Polynomial;)V" } : MethodName)) ∈ zWS := zin_t3 67 rfl rfl
theorem im_W_putInto : (Cond.instanceMethod ({ cls := "RationalSession$Workshop", name := "putInto", desc := "(LRationalSession$Polynomial;ILRationalSession$Form;LRationalSession$Polynomial;)V" } : MethodName)) ∈ zWS := zin_t3 69 rfl rfl
theorem k_W_putInto : (Cond.code ({ cls := "RationalSession$Workshop", name := "putInto", desc := "(LRationalSession$Polynomial;ILRationalSession$Form;LRationalSession$Polynomial;)V" } : MethodName) prog_10_method_10_code (6 : Nat) (Option.none : Option Jvm.ClassFile.FieldType)) ∈ zWS := zin_t3 70 rfl rfl
theorem ml_W_86 : (Cond.methodLink "RationalSession$Workshop" (86 : Nat) ({ cls := "RationalSession$Polynomial", name := "get", desc := "(I)I" } : MethodName)) ∈ zWS := zin_t3 71 rfl rfl
theorem ml_W_78 : (Cond.methodLink "RationalSession$Workshop" (78 : Nat) ({ cls := "RationalSession$Polynomial", name := "setConstant", desc := "(I)V" } : MethodName)) ∈ zWS := zin_t3 72 rfl rfl
theorem ml_W_54 : (Cond.methodLink "RationalSession$Workshop" (54 : Nat) ({ cls := "RationalSession$Polynomial", name := "copy", desc := "(LRationalSession$Polynomial;)V" } : MethodName)) ∈ zWS := zin_t3 73 rfl rfl
theorem ml_W_85 : (Cond.methodLink "RationalSession$Workshop" (85 : Nat) ({ cls := "RationalSession$Polynomial", name := "isZero", desc := "()Z" } : MethodName)) ∈ zWS := zin_t3 74 rfl rfl
theorem ml_K_92 : (Cond.methodLink "RationalSession$Worker" (92 : Nat) ({ cls := "RationalSession$Workshop", name := "power", desc := "(LRationalSession$Form;I)I" } : MethodName)) ∈ zWS := zin_t3 75 rfl rfl
theorem im_W_power : (Cond.instanceMethod ({ cls := "RationalSession$Workshop", name := "power", desc := "(LRationalSession$Form;I)I" } : MethodName)) ∈ zWS := zin_t3 76 rfl rfl
theorem se_W_power : (Cond.selects "RationalSession$Workshop" ({ cls := "RationalSession$Workshop", name := "power", desc := "(LRationalSession$Form;I)I" } : MethodName) ({ cls := "RationalSession$Workshop", name := "power", desc := "(LRationalSession$Form;I)I" } : MethodName)) ∈ zWS := zin_t3 77 rfl rfl
theorem k_W_power : (Cond.code ({ cls := "RationalSession$Workshop", name := "power", desc := "(LRationalSession$Form;I)I" } : MethodName) prog_10_method_7_code (4 : Nat) (Option.some FieldType.int)) ∈ zWS := zin_t3 78 rfl rfl
theorem ml_W_64 : (Cond.methodLink "RationalSession$Workshop" (64 : Nat) ({ cls := "java/lang/Math", name := "abs", desc := "(I)I" } : MethodName)) ∈ zWS := zin_t3 79 rfl rfl
theorem sm_jM_abs : (Cond.static ({ cls := "java/lang/Math", name := "abs", desc := "(I)I" } : MethodName)) ∈ zWS := zin_t3 80 rfl rfl
theorem k_jM_abs : (Cond.code ({ cls := "java/lang/Math", name := "abs", desc := "(I)I" } : MethodName) prog_14_method_59_code (1 : Nat) (Option.some FieldType.int)) ∈ zWS := zin_t3 81 rfl rfl
theorem ml_W_74 : (Cond.methodLink "RationalSession$Workshop" (74 : Nat) ({ cls := "RationalSession$Workshop", name := "raise", desc := "(LRationalSession$Polynomial;ILRationalSession$Polynomial;)V" } : MethodName)) ∈ zWS := zin_t3 82 rfl rfl
theorem im_W_raise : (Cond.instanceMethod ({ cls := "RationalSession$Workshop", name := "raise", desc := "(LRationalSession$Polynomial;ILRationalSession$Polynomial;)V" } : MethodName)) ∈ zWS := zin_t3 84 rfl rfl
theorem k_W_raise : (Cond.code ({ cls := "RationalSession$Workshop", name := "raise", desc := "(LRationalSession$Polynomial;ILRationalSession$Polynomial;)V" } : MethodName) prog_10_method_8_code (5 : Nat) (Option.none : Option Jvm.ClassFile.FieldType)) ∈ zWS := zin_t3 85 rfl rfl
theorem ml_K_96 : (Cond.methodLink "RationalSession$Worker" (96 : Nat) ({ cls := "RationalSession$Workshop", name := "derive", desc := "(LRationalSession$Form;)V" } : MethodName)) ∈ zWS := zin_t3 86 rfl rfl
theorem im_W_derive : (Cond.instanceMethod ({ cls := "RationalSession$Workshop", name := "derive", desc := "(LRationalSession$Form;)V" } : MethodName)) ∈ zWS := zin_t3 87 rfl rfl
theorem se_W_derive : (Cond.selects "RationalSession$Workshop" ({ cls := "RationalSession$Workshop", name := "derive", desc := "(LRationalSession$Form;)V" } : MethodName) ({ cls := "RationalSession$Workshop", name := "derive", desc := "(LRationalSession$Form;)V" } : MethodName)) ∈ zWS := zin_t3 88 rfl rfl
theorem k_W_derive : (Cond.code ({ cls := "RationalSession$Workshop", name := "derive", desc := "(LRationalSession$Form;)V" } : MethodName) prog_10_method_6_code (2 : Nat) (Option.none : Option Jvm.ClassFile.FieldType)) ∈ zWS := zin_t3 89 rfl rfl
theorem ml_W_61 : (Cond.methodLink "RationalSession$Workshop" (61 : Nat) ({ cls := "RationalSession$Polynomial", name := "setDerivative", desc := "(LRationalSession$Polynomial;)V" } : MethodName)) ∈ zWS := zin_t3 90 rfl rfl
theorem im_P_setDerivative : (Cond.instanceMethod ({ cls := "RationalSession$Polynomial", name := "setDerivative", desc := "(LRationalSession$Polynomial;)V" } : MethodName)) ∈ zWS := zin_t3 91 rfl rfl
theorem se_P_setDerivative : (Cond.selects "RationalSession$Polynomial" ({ cls := "RationalSession$Polynomial", name := "setDerivative", desc := "(LRationalSession$Polynomial;)V" } : MethodName) ({ cls := "RationalSession$Polynomial", name := "setDerivative", desc := "(LRationalSession$Polynomial;)V" } : MethodName)) ∈ zWS := zin_t3 92 rfl rfl
theorem k_P_setDerivative : (Cond.code ({ cls := "RationalSession$Polynomial", name := "setDerivative", desc := "(LRationalSession$Polynomial;)V" } : MethodName) prog_4_method_10_code (4 : Nat) (Option.none : Option Jvm.ClassFile.FieldType)) ∈ zWS := zin_t3 93 rfl rfl
theorem ml_K_99 : (Cond.methodLink "RationalSession$Worker" (99 : Nat) ({ cls := "RationalSession$Workshop", name := "negate", desc := "(LRationalSession$Form;)V" } : MethodName)) ∈ zWS := zin_t3 94 rfl rfl
theorem im_W_negate : (Cond.instanceMethod ({ cls := "RationalSession$Workshop", name := "negate", desc := "(LRationalSession$Form;)V" } : MethodName)) ∈ zWS := zin_t3 95 rfl rfl
theorem se_W_negate : (Cond.selects "RationalSession$Workshop" ({ cls := "RationalSession$Workshop", name := "negate", desc := "(LRationalSession$Form;)V" } : MethodName) ({ cls := "RationalSession$Workshop", name := "negate", desc := "(LRationalSession$Form;)V" } : MethodName)) ∈ zWS := zin_t3 96 rfl rfl
theorem k_W_negate : (Cond.code ({ cls := "RationalSession$Workshop", name := "negate", desc := "(LRationalSession$Form;)V" } : MethodName) prog_10_method_5_code (2 : Nat) (Option.none : Option Jvm.ClassFile.FieldType)) ∈ zWS := zin_t3 97 rfl rfl
theorem ml_W_58 : (Cond.methodLink "RationalSession$Workshop" (58 : Nat) ({ cls := "RationalSession$Polynomial", name := "scale", desc := "(I)V" } : MethodName)) ∈ zWS := zin_t3 98 rfl rfl
theorem im_P_scale : (Cond.instanceMethod ({ cls := "RationalSession$Polynomial", name := "scale", desc := "(I)V" } : MethodName)) ∈ zWS := zin_t3 99 rfl rfl
theorem se_P_scale : (Cond.selects "RationalSession$Polynomial" ({ cls := "RationalSession$Polynomial", name := "scale", desc := "(I)V" } : MethodName) ({ cls := "RationalSession$Polynomial", name := "scale", desc := "(I)V" } : MethodName)) ∈ zWS := zin_t3 100 rfl rfl
theorem k_P_scale : (Cond.code ({ cls := "RationalSession$Polynomial", name := "scale", desc := "(I)V" } : MethodName) prog_4_method_11_code (3 : Nat) (Option.none : Option Jvm.ClassFile.FieldType)) ∈ zWS := zin_t3 101 rfl rfl
theorem ml_K_102 : (Cond.methodLink "RationalSession$Worker" (102 : Nat) ({ cls := "RationalSession$Workshop", name := "settle", desc := "(LRationalSession$Form;)I" } : MethodName)) ∈ zWS := zin_t3 102 rfl rfl
theorem im_W_settle : (Cond.instanceMethod ({ cls := "RationalSession$Workshop", name := "settle", desc := "(LRationalSession$Form;)I" } : MethodName)) ∈ zWS := zin_t3 103 rfl rfl
theorem se_W_settle : (Cond.selects "RationalSession$Workshop" ({ cls := "RationalSession$Workshop", name := "settle", desc := "(LRationalSession$Form;)I" } : MethodName) ({ cls := "RationalSession$Workshop", name := "settle", desc := "(LRationalSession$Form;)I" } : MethodName)) ∈ zWS := zin_t3 104 rfl rfl
theorem k_W_settle : (Cond.code ({ cls := "RationalSession$Workshop", name := "settle", desc := "(LRationalSession$Form;)I" } : MethodName) prog_10_method_11_code (4 : Nat) (Option.some FieldType.int)) ∈ zWS := zin_t3 105 rfl rfl
theorem ml_W_89 : (Cond.methodLink "RationalSession$Workshop" (89 : Nat) ({ cls := "RationalSession$Form", name := "setConstant", desc := "(I)V" } : MethodName)) ∈ zWS := zin_t3 106 rfl rfl
theorem ml_W_90 : (Cond.methodLink "RationalSession$Workshop" (90 : Nat) ({ cls := "RationalSession$Workshop", name := "commonDivisor", desc := "()LRationalSession$Polynomial;" } : MethodName)) ∈ zWS := zin_t3 107 rfl rfl
theorem im_W_commonDivisor : (Cond.instanceMethod ({ cls := "RationalSession$Workshop", name := "commonDivisor", desc := "()LRationalSession$Polynomial;" } : MethodName)) ∈ zWS := zin_t3 109 rfl rfl
theorem k_W_commonDivisor : (Cond.code ({ cls := "RationalSession$Workshop", name := "commonDivisor", desc := "()LRationalSession$Polynomial;" } : MethodName) prog_10_method_12_code (5 : Nat) (Option.some (FieldType.object "RationalSession$Polynomial"))) ∈ zWS := zin_t3 110 rfl rfl
theorem ml_W_101 : (Cond.methodLink "RationalSession$Workshop" (101 : Nat) ({ cls := "RationalSession$Polynomial", name := "lead", desc := "()I" } : MethodName)) ∈ zWS := zin_t3 111 rfl rfl
theorem im_P_lead : (Cond.instanceMethod ({ cls := "RationalSession$Polynomial", name := "lead", desc := "()I" } : MethodName)) ∈ zWS := zin_t3 112 rfl rfl
theorem se_P_lead : (Cond.selects "RationalSession$Polynomial" ({ cls := "RationalSession$Polynomial", name := "lead", desc := "()I" } : MethodName) ({ cls := "RationalSession$Polynomial", name := "lead", desc := "()I" } : MethodName)) ∈ zWS := zin_t3 113 rfl rfl
theorem k_P_lead : (Cond.code ({ cls := "RationalSession$Polynomial", name := "lead", desc := "()I" } : MethodName) prog_4_method_4_code (1 : Nat) (Option.some FieldType.int)) ∈ zWS := zin_t3 114 rfl rfl
theorem ml_W_104 : (Cond.methodLinkNest "RationalSession$Workshop" (104 : Nat) ({ cls := "RationalSession", name := "inverse", desc := "(I)I" } : MethodName) "RationalSession") ∈ zN := zin_n3 115 rfl rfl
theorem sm_S_inverse : (Cond.static ({ cls := "RationalSession", name := "inverse", desc := "(I)I" } : MethodName)) ∈ zWS := zin_t3 116 rfl rfl
theorem k_S_inverse : (Cond.code ({ cls := "RationalSession", name := "inverse", desc := "(I)I" } : MethodName) prog_1_method_17_code (4 : Nat) (Option.some FieldType.int)) ∈ zWS := zin_t3 117 rfl rfl
theorem ml_W_98 : (Cond.methodLink "RationalSession$Workshop" (98 : Nat) ({ cls := "RationalSession$Polynomial", name := "divideBy", desc := "(LRationalSession$Polynomial;LRationalSession$Polynomial;)V" } : MethodName)) ∈ zWS := zin_t3 118 rfl rfl
theorem im_P_divideBy : (Cond.instanceMethod ({ cls := "RationalSession$Polynomial", name := "divideBy", desc := "(LRationalSession$Polynomial;LRationalSession$Polynomial;)V" } : MethodName)) ∈ zWS := zin_t3 119 rfl rfl
theorem se_P_divideBy : (Cond.selects "RationalSession$Polynomial" ({ cls := "RationalSession$Polynomial", name := "divideBy", desc := "(LRationalSession$Polynomial;LRationalSession$Polynomial;)V" } : MethodName) ({ cls := "RationalSession$Polynomial", name := "divideBy", desc := "(LRationalSession$Polynomial;LRationalSession$Polynomial;)V" } : MethodName)) ∈ zWS := zin_t3 120 rfl rfl
theorem k_P_divideBy : (Cond.code ({ cls := "RationalSession$Polynomial", name := "divideBy", desc := "(LRationalSession$Polynomial;LRationalSession$Polynomial;)V" } : MethodName) prog_4_method_13_code (7 : Nat) (Option.none : Option Jvm.ClassFile.FieldType)) ∈ zWS := zin_t3 121 rfl rfl
theorem ml_S_88 : (Cond.methodLink "RationalSession" (88 : Nat) ({ cls := "RationalSession$Worker", name := "result", desc := "()LRationalSession$Form;" } : MethodName)) ∈ zWS := zin_t3 122 rfl rfl
theorem im_K_result : (Cond.instanceMethod ({ cls := "RationalSession$Worker", name := "result", desc := "()LRationalSession$Form;" } : MethodName)) ∈ zWS := zin_t3 123 rfl rfl
theorem se_K_result : (Cond.selects "RationalSession$Worker" ({ cls := "RationalSession$Worker", name := "result", desc := "()LRationalSession$Form;" } : MethodName) ({ cls := "RationalSession$Worker", name := "result", desc := "()LRationalSession$Form;" } : MethodName)) ∈ zWS := zin_t3 124 rfl rfl
theorem k_K_result : (Cond.code ({ cls := "RationalSession$Worker", name := "result", desc := "()LRationalSession$Form;" } : MethodName) prog_9_method_3_code (1 : Nat) (Option.some (FieldType.object "RationalSession$Form"))) ∈ zWS := zin_t3 125 rfl rfl
theorem ml_S_92 : (Cond.methodLink "RationalSession" (92 : Nat) ({ cls := "RationalSession$Shelf", name := "keep", desc := "(LRationalSession$Form;)I" } : MethodName)) ∈ zWS := zin_t3 126 rfl rfl
theorem im_H_keep : (Cond.instanceMethod ({ cls := "RationalSession$Shelf", name := "keep", desc := "(LRationalSession$Form;)I" } : MethodName)) ∈ zWS := zin_t3 127 rfl rfl
theorem se_H_keep : (Cond.selects "RationalSession$Shelf" ({ cls := "RationalSession$Shelf", name := "keep", desc := "(LRationalSession$Form;)I" } : MethodName) ({ cls := "RationalSession$Shelf", name := "keep", desc := "(LRationalSession$Form;)I" } : MethodName)) ∈ zWS := zin_t3 128 rfl rfl
theorem k_H_keep : (Cond.code ({ cls := "RationalSession$Shelf", name := "keep", desc := "(LRationalSession$Form;)I" } : MethodName) prog_7_method_8_code (2 : Nat) (Option.some FieldType.int)) ∈ zWS := zin_t3 129 rfl rfl
theorem ml_H_32 : (Cond.methodLink "RationalSession$Shelf" (32 : Nat) ({ cls := "RationalSession$Shelf", name := "isFull", desc := "()Z" } : MethodName)) ∈ zWS := zin_t3 130 rfl rfl
theorem ml_H_36 : (Cond.methodLink "RationalSession$Shelf" (36 : Nat) ({ cls := "RationalSession$Form", name := "copy", desc := "(LRationalSession$Form;)V" } : MethodName)) ∈ zWS := zin_t3 131 rfl rfl
theorem ml_H_40 : (Cond.methodLink "RationalSession$Shelf" (40 : Nat) ({ cls := "RationalSession$Shelf", name := "shapeNumberFor", desc := "(LRationalSession$Form;)I" } : MethodName)) ∈ zWS := zin_t3 132 rfl rfl
theorem im_H_shapeNumberFor : (Cond.instanceMethod ({ cls := "RationalSession$Shelf", name := "shapeNumberFor", desc := "(LRationalSession$Form;)I" } : MethodName)) ∈ zWS := zin_t3 134 rfl rfl
theorem k_H_shapeNumberFor : (Cond.code ({ cls := "RationalSession$Shelf", name := "shapeNumberFor", desc := "(LRationalSession$Form;)I" } : MethodName) prog_7_method_9_code (3 : Nat) (Option.some FieldType.int)) ∈ zWS := zin_t3 135 rfl rfl
theorem ml_H_44 : (Cond.methodLink "RationalSession$Shelf" (44 : Nat) ({ cls := "RationalSession$Form", name := "isSame", desc := "(LRationalSession$Form;)Z" } : MethodName)) ∈ zWS := zin_t3 136 rfl rfl
theorem im_F_isSame : (Cond.instanceMethod ({ cls := "RationalSession$Form", name := "isSame", desc := "(LRationalSession$Form;)Z" } : MethodName)) ∈ zWS := zin_t3 137 rfl rfl
theorem se_F_isSame : (Cond.selects "RationalSession$Form" ({ cls := "RationalSession$Form", name := "isSame", desc := "(LRationalSession$Form;)Z" } : MethodName) ({ cls := "RationalSession$Form", name := "isSame", desc := "(LRationalSession$Form;)Z" } : MethodName)) ∈ zWS := zin_t3 138 rfl rfl
theorem k_F_isSame : (Cond.code ({ cls := "RationalSession$Form", name := "isSame", desc := "(LRationalSession$Form;)Z" } : MethodName) prog_2_method_8_code (2 : Nat) (Option.some FieldType.boolean)) ∈ zWS := zin_t3 139 rfl rfl
theorem ml_F_47 : (Cond.methodLink "RationalSession$Form" (47 : Nat) ({ cls := "RationalSession$Polynomial", name := "isSame", desc := "(LRationalSession$Polynomial;)Z" } : MethodName)) ∈ zWS := zin_t3 140 rfl rfl
theorem im_P_isSame : (Cond.instanceMethod ({ cls := "RationalSession$Polynomial", name := "isSame", desc := "(LRationalSession$Polynomial;)Z" } : MethodName)) ∈ zWS := zin_t3 141 rfl rfl
theorem se_P_isSame : (Cond.selects "RationalSession$Polynomial" ({ cls := "RationalSession$Polynomial", name := "isSame", desc := "(LRationalSession$Polynomial;)Z" } : MethodName) ({ cls := "RationalSession$Polynomial", name := "isSame", desc := "(LRationalSession$Polynomial;)Z" } : MethodName)) ∈ zWS := zin_t3 142 rfl rfl
theorem k_P_isSame : (Cond.code ({ cls := "RationalSession$Polynomial", name := "isSame", desc := "(LRationalSession$Polynomial;)Z" } : MethodName) prog_4_method_8_code (3 : Nat) (Option.some FieldType.boolean)) ∈ zWS := zin_t3 143 rfl rfl
theorem ml_S_99 : (Cond.methodLink "RationalSession" (99 : Nat) ({ cls := "RationalSession$Shelf", name := "bind", desc := "(II)V" } : MethodName)) ∈ zWS := zin_t3 144 rfl rfl
theorem im_H_bind : (Cond.instanceMethod ({ cls := "RationalSession$Shelf", name := "bind", desc := "(II)V" } : MethodName)) ∈ zWS := zin_t3 145 rfl rfl
theorem se_H_bind : (Cond.selects "RationalSession$Shelf" ({ cls := "RationalSession$Shelf", name := "bind", desc := "(II)V" } : MethodName) ({ cls := "RationalSession$Shelf", name := "bind", desc := "(II)V" } : MethodName)) ∈ zWS := zin_t3 146 rfl rfl
theorem k_H_bind : (Cond.code ({ cls := "RationalSession$Shelf", name := "bind", desc := "(II)V" } : MethodName) prog_7_method_7_code (3 : Nat) (Option.none : Option Jvm.ClassFile.FieldType)) ∈ zWS := zin_t3 147 rfl rfl
theorem ml_Lw_34 : (Cond.methodLink "RationalSessionLaw" (34 : Nat) ({ cls := "RationalSession", name := "badPlace", desc := "()I" } : MethodName)) ∈ zWS := zin_t3 148 rfl rfl
theorem im_S_badPlace : (Cond.instanceMethod ({ cls := "RationalSession", name := "badPlace", desc := "()I" } : MethodName)) ∈ zWS := zin_t3 149 rfl rfl
theorem se_S_badPlace : (Cond.selects "RationalSession" ({ cls := "RationalSession", name := "badPlace", desc := "()I" } : MethodName) ({ cls := "RationalSession", name := "badPlace", desc := "()I" } : MethodName)) ∈ zWS := zin_t3 150 rfl rfl
theorem k_S_badPlace : (Cond.code ({ cls := "RationalSession", name := "badPlace", desc := "()I" } : MethodName) prog_1_method_6_code (1 : Nat) (Option.some FieldType.int)) ∈ zWS := zin_t3 151 rfl rfl
theorem ml_Lw_38 : (Cond.methodLink "RationalSessionLaw" (38 : Nat) ({ cls := "RationalSession", name := "degree", desc := "(IZ)I" } : MethodName)) ∈ zWS := zin_t3 152 rfl rfl
theorem im_S_degree : (Cond.instanceMethod ({ cls := "RationalSession", name := "degree", desc := "(IZ)I" } : MethodName)) ∈ zWS := zin_t3 153 rfl rfl
theorem se_S_degree : (Cond.selects "RationalSession" ({ cls := "RationalSession", name := "degree", desc := "(IZ)I" } : MethodName) ({ cls := "RationalSession", name := "degree", desc := "(IZ)I" } : MethodName)) ∈ zWS := zin_t3 154 rfl rfl
theorem k_S_degree : (Cond.code ({ cls := "RationalSession", name := "degree", desc := "(IZ)I" } : MethodName) prog_1_method_7_code (4 : Nat) (Option.some FieldType.int)) ∈ zWS := zin_t3 155 rfl rfl
theorem ml_S_103 : (Cond.methodLink "RationalSession" (103 : Nat) ({ cls := "RationalSession$Shelf", name := "find", desc := "(I)LRationalSession$Form;" } : MethodName)) ∈ zWS := zin_t3 156 rfl rfl
theorem ml_S_107 : (Cond.methodLink "RationalSession" (107 : Nat) ({ cls := "RationalSession$Form", name := "part", desc := "(Z)LRationalSession$Polynomial;" } : MethodName)) ∈ zWS := zin_t3 157 rfl rfl
theorem im_F_part : (Cond.instanceMethod ({ cls := "RationalSession$Form", name := "part", desc := "(Z)LRationalSession$Polynomial;" } : MethodName)) ∈ zWS := zin_t3 158 rfl rfl
theorem se_F_part : (Cond.selects "RationalSession$Form" ({ cls := "RationalSession$Form", name := "part", desc := "(Z)LRationalSession$Polynomial;" } : MethodName) ({ cls := "RationalSession$Form", name := "part", desc := "(Z)LRationalSession$Polynomial;" } : MethodName)) ∈ zWS := zin_t3 159 rfl rfl
theorem k_F_part : (Cond.code ({ cls := "RationalSession$Form", name := "part", desc := "(Z)LRationalSession$Polynomial;" } : MethodName) prog_2_method_2_code (2 : Nat) (Option.some (FieldType.object "RationalSession$Polynomial"))) ∈ zWS := zin_t3 160 rfl rfl
theorem ml_Lw_43 : (Cond.methodLink "RationalSessionLaw" (43 : Nat) ({ cls := "RationalSession", name := "coefficient", desc := "(IZI)I" } : MethodName)) ∈ zWS := zin_t3 161 rfl rfl
theorem im_S_coefficient : (Cond.instanceMethod ({ cls := "RationalSession", name := "coefficient", desc := "(IZI)I" } : MethodName)) ∈ zWS := zin_t3 162 rfl rfl
theorem se_S_coefficient : (Cond.selects "RationalSession" ({ cls := "RationalSession", name := "coefficient", desc := "(IZI)I" } : MethodName) ({ cls := "RationalSession", name := "coefficient", desc := "(IZI)I" } : MethodName)) ∈ zWS := zin_t3 163 rfl rfl
theorem k_S_coefficient : (Cond.code ({ cls := "RationalSession", name := "coefficient", desc := "(IZI)I" } : MethodName) prog_1_method_8_code (5 : Nat) (Option.some FieldType.int)) ∈ zWS := zin_t3 164 rfl rfl
theorem ml_S_118 : (Cond.methodLink "RationalSession" (118 : Nat) ({ cls := "RationalSession$Polynomial", name := "get", desc := "(I)I" } : MethodName)) ∈ zWS := zin_t3 165 rfl rfl
theorem ml_Lw_48 : (Cond.methodLink "RationalSessionLaw" (48 : Nat) ({ cls := "RationalSession", name := "shape", desc := "(I)I" } : MethodName)) ∈ zWS := zin_t3 166 rfl rfl
theorem im_S_shape : (Cond.instanceMethod ({ cls := "RationalSession", name := "shape", desc := "(I)I" } : MethodName)) ∈ zWS := zin_t3 167 rfl rfl
theorem se_S_shape : (Cond.selects "RationalSession" ({ cls := "RationalSession", name := "shape", desc := "(I)I" } : MethodName) ({ cls := "RationalSession", name := "shape", desc := "(I)I" } : MethodName)) ∈ zWS := zin_t3 168 rfl rfl
theorem k_S_shape : (Cond.code ({ cls := "RationalSession", name := "shape", desc := "(I)I" } : MethodName) prog_1_method_9_code (2 : Nat) (Option.some FieldType.int)) ∈ zWS := zin_t3 169 rfl rfl
theorem ml_S_121 : (Cond.methodLink "RationalSession" (121 : Nat) ({ cls := "RationalSession$Shelf", name := "shapeOf", desc := "(I)I" } : MethodName)) ∈ zWS := zin_t3 170 rfl rfl
theorem im_H_shapeOf : (Cond.instanceMethod ({ cls := "RationalSession$Shelf", name := "shapeOf", desc := "(I)I" } : MethodName)) ∈ zWS := zin_t3 171 rfl rfl
theorem se_H_shapeOf : (Cond.selects "RationalSession$Shelf" ({ cls := "RationalSession$Shelf", name := "shapeOf", desc := "(I)I" } : MethodName) ({ cls := "RationalSession$Shelf", name := "shapeOf", desc := "(I)I" } : MethodName)) ∈ zWS := zin_t3 172 rfl rfl
theorem k_H_shapeOf : (Cond.code ({ cls := "RationalSession$Shelf", name := "shapeOf", desc := "(I)I" } : MethodName) prog_7_method_5_code (2 : Nat) (Option.some FieldType.int)) ∈ zWS := zin_t3 173 rfl rfl
theorem ml_Lw_52 : (Cond.methodLink "RationalSessionLaw" (52 : Nat) ({ cls := "RationalSession", name := "shapes", desc := "()I" } : MethodName)) ∈ zWS := zin_t3 174 rfl rfl
theorem im_S_shapes : (Cond.instanceMethod ({ cls := "RationalSession", name := "shapes", desc := "()I" } : MethodName)) ∈ zWS := zin_t3 175 rfl rfl
theorem se_S_shapes : (Cond.selects "RationalSession" ({ cls := "RationalSession", name := "shapes", desc := "()I" } : MethodName) ({ cls := "RationalSession", name := "shapes", desc := "()I" } : MethodName)) ∈ zWS := zin_t3 176 rfl rfl
theorem k_S_shapes : (Cond.code ({ cls := "RationalSession", name := "shapes", desc := "()I" } : MethodName) prog_1_method_10_code (1 : Nat) (Option.some FieldType.int)) ∈ zWS := zin_t3 177 rfl rfl
theorem ml_Lw_56 : (Cond.methodLink "RationalSessionLaw" (56 : Nat) ({ cls := "RationalSession", name := "labels", desc := "()I" } : MethodName)) ∈ zWS := zin_t3 178 rfl rfl
theorem im_S_labels : (Cond.instanceMethod ({ cls := "RationalSession", name := "labels", desc := "()I" } : MethodName)) ∈ zWS := zin_t3 179 rfl rfl
theorem se_S_labels : (Cond.selects "RationalSession" ({ cls := "RationalSession", name := "labels", desc := "()I" } : MethodName) ({ cls := "RationalSession", name := "labels", desc := "()I" } : MethodName)) ∈ zWS := zin_t3 180 rfl rfl
theorem k_S_labels : (Cond.code ({ cls := "RationalSession", name := "labels", desc := "()I" } : MethodName) prog_1_method_11_code (1 : Nat) (Option.some FieldType.int)) ∈ zWS := zin_t3 181 rfl rfl
theorem ml_Lw_60 : (Cond.methodLink "RationalSessionLaw" (60 : Nat) ({ cls := "RationalSession", name := "bound", desc := "(I)I" } : MethodName)) ∈ zWS := zin_t3 182 rfl rfl
theorem im_S_bound : (Cond.instanceMethod ({ cls := "RationalSession", name := "bound", desc := "(I)I" } : MethodName)) ∈ zWS := zin_t3 183 rfl rfl
theorem se_S_bound : (Cond.selects "RationalSession" ({ cls := "RationalSession", name := "bound", desc := "(I)I" } : MethodName) ({ cls := "RationalSession", name := "bound", desc := "(I)I" } : MethodName)) ∈ zWS := zin_t3 184 rfl rfl
theorem k_S_bound : (Cond.code ({ cls := "RationalSession", name := "bound", desc := "(I)I" } : MethodName) prog_1_method_12_code (2 : Nat) (Option.some FieldType.int)) ∈ zWS := zin_t3 185 rfl rfl
theorem ml_S_130 : (Cond.methodLink "RationalSession" (130 : Nat) ({ cls := "RationalSession$Shelf", name := "labelBoundTo", desc := "(I)I" } : MethodName)) ∈ zWS := zin_t3 186 rfl rfl
theorem ml_Lw_64 : (Cond.methodLink "RationalSessionLaw" (64 : Nat) ({ cls := "RationalSession", name := "value", desc := "(II)I" } : MethodName)) ∈ zWS := zin_t3 187 rfl rfl
theorem im_S_value : (Cond.instanceMethod ({ cls := "RationalSession", name := "value", desc := "(II)I" } : MethodName)) ∈ zWS := zin_t3 188 rfl rfl
theorem se_S_value : (Cond.selects "RationalSession" ({ cls := "RationalSession", name := "value", desc := "(II)I" } : MethodName) ({ cls := "RationalSession", name := "value", desc := "(II)I" } : MethodName)) ∈ zWS := zin_t3 189 rfl rfl
theorem k_S_value : (Cond.code ({ cls := "RationalSession", name := "value", desc := "(II)I" } : MethodName) prog_1_method_13_code (6 : Nat) (Option.some FieldType.int)) ∈ zWS := zin_t3 190 rfl rfl
theorem ml_S_133 : (Cond.methodLink "RationalSession" (133 : Nat) ({ cls := "java/lang/Math", name := "floorMod", desc := "(II)I" } : MethodName)) ∈ zWS := zin_t3 191 rfl rfl
theorem sm_jM_floorMod : (Cond.static ({ cls := "java/lang/Math", name := "floorMod", desc := "(II)I" } : MethodName)) ∈ zWS := zin_t3 192 rfl rfl
theorem k_jM_floorMod : (Cond.code ({ cls := "java/lang/Math", name := "floorMod", desc := "(II)I" } : MethodName) prog_14_method_50_code (3 : Nat) (Option.some FieldType.int)) ∈ zWS := zin_t3 193 rfl rfl
theorem ml_S_143 : (Cond.methodLink "RationalSession" (143 : Nat) ({ cls := "RationalSession$Polynomial", name := "valueAt", desc := "(I)I" } : MethodName)) ∈ zWS := zin_t3 194 rfl rfl
theorem im_P_valueAt : (Cond.instanceMethod ({ cls := "RationalSession$Polynomial", name := "valueAt", desc := "(I)I" } : MethodName)) ∈ zWS := zin_t3 195 rfl rfl
theorem se_P_valueAt : (Cond.selects "RationalSession$Polynomial" ({ cls := "RationalSession$Polynomial", name := "valueAt", desc := "(I)I" } : MethodName) ({ cls := "RationalSession$Polynomial", name := "valueAt", desc := "(I)I" } : MethodName)) ∈ zWS := zin_t3 196 rfl rfl
theorem k_P_valueAt : (Cond.code ({ cls := "RationalSession$Polynomial", name := "valueAt", desc := "(I)I" } : MethodName) prog_4_method_14_code (4 : Nat) (Option.some FieldType.int)) ∈ zWS := zin_t3 197 rfl rfl
theorem ml_S_149 : (Cond.methodLink "RationalSession" (149 : Nat) ({ cls := "RationalSession", name := "inverse", desc := "(I)I" } : MethodName)) ∈ zWS := zin_t3 198 rfl rfl
theorem ml_Lw_69 : (Cond.methodLink "RationalSessionLaw" (69 : Nat) ({ cls := "RationalSession", name := "text", desc := "(II)I" } : MethodName)) ∈ zWS := zin_t3 199 rfl rfl
theorem im_S_text : (Cond.instanceMethod ({ cls := "RationalSession", name := "text", desc := "(II)I" } : MethodName)) ∈ zWS := zin_t3 200 rfl rfl
theorem se_S_text : (Cond.selects "RationalSession" ({ cls := "RationalSession", name := "text", desc := "(II)I" } : MethodName) ({ cls := "RationalSession", name := "text", desc := "(II)I" } : MethodName)) ∈ zWS := zin_t3 201 rfl rfl
theorem k_S_text : (Cond.code ({ cls := "RationalSession", name := "text", desc := "(II)I" } : MethodName) prog_1_method_14_code (4 : Nat) (Option.some FieldType.int)) ∈ zWS := zin_t3 202 rfl rfl
theorem ml_S_152 : (Cond.methodLink "RationalSession" (152 : Nat) ({ cls := "RationalSession$TextSeeker", name := "seek", desc := "(LRationalSession$Form;I)I" } : MethodName)) ∈ zWS := zin_t3 203 rfl rfl
theorem im_T_seek : (Cond.instanceMethod ({ cls := "RationalSession$TextSeeker", name := "seek", desc := "(LRationalSession$Form;I)I" } : MethodName)) ∈ zWS := zin_t3 204 rfl rfl
theorem se_T_seek : (Cond.selects "RationalSession$TextSeeker" ({ cls := "RationalSession$TextSeeker", name := "seek", desc := "(LRationalSession$Form;I)I" } : MethodName) ({ cls := "RationalSession$TextSeeker", name := "seek", desc := "(LRationalSession$Form;I)I" } : MethodName)) ∈ zWS := zin_t3 205 rfl rfl
theorem k_T_seek : (Cond.code ({ cls := "RationalSession$TextSeeker", name := "seek", desc := "(LRationalSession$Form;I)I" } : MethodName) prog_8_method_2_code (3 : Nat) (Option.some FieldType.int)) ∈ zWS := zin_t3 206 rfl rfl
theorem ml_T_33 : (Cond.methodLink "RationalSession$TextSeeker" (33 : Nat) ({ cls := "RationalSession$TextSeeker", name := "spell", desc := "(LRationalSession$Polynomial;)V" } : MethodName)) ∈ zWS := zin_t3 207 rfl rfl
theorem im_T_spell : (Cond.instanceMethod ({ cls := "RationalSession$TextSeeker", name := "spell", desc := "(LRationalSession$Polynomial;)V" } : MethodName)) ∈ zWS := zin_t3 209 rfl rfl
theorem k_T_spell : (Cond.code ({ cls := "RationalSession$TextSeeker", name := "spell", desc := "(LRationalSession$Polynomial;)V" } : MethodName) prog_8_method_3_code (4 : Nat) (Option.none : Option Jvm.ClassFile.FieldType)) ∈ zWS := zin_t3 210 rfl rfl
theorem ml_T_41 : (Cond.methodLink "RationalSession$TextSeeker" (41 : Nat) ({ cls := "RationalSession$Polynomial", name := "isZero", desc := "()Z" } : MethodName)) ∈ zWS := zin_t3 211 rfl rfl
theorem ml_T_37 : (Cond.methodLink "RationalSession$TextSeeker" (37 : Nat) ({ cls := "RationalSession$TextSeeker", name := "put", desc := "(C)V" } : MethodName)) ∈ zWS := zin_t3 212 rfl rfl
theorem im_T_put : (Cond.instanceMethod ({ cls := "RationalSession$TextSeeker", name := "put", desc := "(C)V" } : MethodName)) ∈ zWS := zin_t3 214 rfl rfl
theorem k_T_put : (Cond.code ({ cls := "RationalSession$TextSeeker", name := "put", desc := "(C)V" } : MethodName) prog_8_method_6_code (2 : Nat) (Option.none : Option Jvm.ClassFile.FieldType)) ∈ zWS := zin_t3 215 rfl rfl
theorem ml_T_45 : (Cond.methodLink "RationalSession$TextSeeker" (45 : Nat) ({ cls := "RationalSession$Polynomial", name := "get", desc := "(I)I" } : MethodName)) ∈ zWS := zin_t3 216 rfl rfl
theorem ml_T_49 : (Cond.methodLink "RationalSession$TextSeeker" (49 : Nat) ({ cls := "RationalSession$TextSeeker", name := "spellPart", desc := "(II)V" } : MethodName)) ∈ zWS := zin_t3 217 rfl rfl
theorem im_T_spellPart : (Cond.instanceMethod ({ cls := "RationalSession$TextSeeker", name := "spellPart", desc := "(II)V" } : MethodName)) ∈ zWS := zin_t3 219 rfl rfl
theorem k_T_spellPart : (Cond.code ({ cls := "RationalSession$TextSeeker", name := "spellPart", desc := "(II)V" } : MethodName) prog_8_method_4_code (3 : Nat) (Option.none : Option Jvm.ClassFile.FieldType)) ∈ zWS := zin_t3 220 rfl rfl
theorem ml_T_53 : (Cond.methodLink "RationalSession$TextSeeker" (53 : Nat) ({ cls := "RationalSession$TextSeeker", name := "spellNumber", desc := "(I)V" } : MethodName)) ∈ zWS := zin_t3 221 rfl rfl
theorem im_T_spellNumber : (Cond.instanceMethod ({ cls := "RationalSession$TextSeeker", name := "spellNumber", desc := "(I)V" } : MethodName)) ∈ zWS := zin_t3 223 rfl rfl
theorem k_T_spellNumber : (Cond.code ({ cls := "RationalSession$TextSeeker", name := "spellNumber", desc := "(I)V" } : MethodName) prog_8_method_5_code (3 : Nat) (Option.none : Option Jvm.ClassFile.FieldType)) ∈ zWS := zin_t3 224 rfl rfl
theorem ml_Lw_73 : (Cond.methodLink "RationalSessionLaw" (73 : Nat) ({ cls := "RationalSession", name := "line", desc := "(I)I" } : MethodName)) ∈ zWS := zin_t3 225 rfl rfl
theorem im_S_line : (Cond.instanceMethod ({ cls := "RationalSession", name := "line", desc := "(I)I" } : MethodName)) ∈ zWS := zin_t3 226 rfl rfl
theorem se_S_line : (Cond.selects "RationalSession" ({ cls := "RationalSession", name := "line", desc := "(I)I" } : MethodName) ({ cls := "RationalSession", name := "line", desc := "(I)I" } : MethodName)) ∈ zWS := zin_t3 227 rfl rfl
theorem k_S_line : (Cond.code ({ cls := "RationalSession", name := "line", desc := "(I)I" } : MethodName) prog_1_method_15_code (2 : Nat) (Option.some FieldType.int)) ∈ zWS := zin_t3 228 rfl rfl
theorem ml_S_156 : (Cond.methodLink "RationalSession" (156 : Nat) ({ cls := "RationalSession$Line", name := "at", desc := "(I)C" } : MethodName)) ∈ zWS := zin_t3 229 rfl rfl
theorem ml_Lw_77 : (Cond.methodLink "RationalSessionLaw" (77 : Nat) ({ cls := "RationalSession", name := "reset", desc := "()V" } : MethodName)) ∈ zWS := zin_t3 230 rfl rfl
theorem im_S_reset : (Cond.instanceMethod ({ cls := "RationalSession", name := "reset", desc := "()V" } : MethodName)) ∈ zWS := zin_t3 231 rfl rfl
theorem se_S_reset : (Cond.selects "RationalSession" ({ cls := "RationalSession", name := "reset", desc := "()V" } : MethodName) ({ cls := "RationalSession", name := "reset", desc := "()V" } : MethodName)) ∈ zWS := zin_t3 232 rfl rfl
theorem k_S_reset : (Cond.code ({ cls := "RationalSession", name := "reset", desc := "()V" } : MethodName) prog_1_method_16_code (1 : Nat) (Option.none : Option Jvm.ClassFile.FieldType)) ∈ zWS := zin_t3 233 rfl rfl
theorem ml_S_160 : (Cond.methodLink "RationalSession" (160 : Nat) ({ cls := "RationalSession$Shelf", name := "clear", desc := "()V" } : MethodName)) ∈ zWS := zin_t3 234 rfl rfl
theorem im_H_clear : (Cond.instanceMethod ({ cls := "RationalSession$Shelf", name := "clear", desc := "()V" } : MethodName)) ∈ zWS := zin_t3 235 rfl rfl
theorem se_H_clear : (Cond.selects "RationalSession$Shelf" ({ cls := "RationalSession$Shelf", name := "clear", desc := "()V" } : MethodName) ({ cls := "RationalSession$Shelf", name := "clear", desc := "()V" } : MethodName)) ∈ zWS := zin_t3 236 rfl rfl
theorem k_H_clear : (Cond.code ({ cls := "RationalSession$Shelf", name := "clear", desc := "()V" } : MethodName) prog_7_method_2_code (2 : Nat) (Option.none : Option Jvm.ClassFile.FieldType)) ∈ zWS := zin_t3 237 rfl rfl
theorem cl_Lw_10 : (Cond.classLink "RationalSessionLaw" (10 : Nat) "RationalSessionModel") ∈ zWS := zin_t3 238 rfl rfl
theorem in_M_made : (Cond.instantiable "RationalSessionModel" (22 : Nat)) ∈ zWS := zin_t3 239 rfl rfl
theorem ml_Lw_12 : (Cond.methodLink "RationalSessionLaw" (12 : Nat) ({ cls := "RationalSessionModel", name := "<init>", desc := "()V" } : MethodName)) ∈ zWS := zin_t4 0 rfl rfl
theorem im_M_init : (Cond.instanceMethod ({ cls := "RationalSessionModel", name := "<init>", desc := "()V" } : MethodName)) ∈ zWS := zin_t4 1 rfl rfl
theorem k_M_init : (Cond.code ({ cls := "RationalSessionModel", name := "<init>", desc := "()V" } : MethodName) prog_12_method_1_code (1 : Nat) (Option.none : Option Jvm.ClassFile.FieldType)) ∈ zWS := zin_t4 2 rfl rfl
theorem ml_M_1 : (Cond.methodLink "RationalSessionModel" (1 : Nat) ({ cls := "java/lang/Object", name := "<init>", desc := "()V" } : MethodName)) ∈ zWS := zin_t4 3 rfl rfl
theorem fl_M_7 : (Cond.fieldLink "RationalSessionModel" (7 : Nat) "RationalSessionModel" "line" "[I") ∈ zWS := zin_t4 4 rfl rfl
theorem fl_M_67 : (Cond.fieldLink "RationalSessionModel" (67 : Nat) "RationalSessionModel" "length" "I") ∈ zWS := zin_t4 5 rfl rfl
theorem fl_M_167 : (Cond.fieldLink "RationalSessionModel" (167 : Nat) "RationalSessionModel" "labels" "I") ∈ zWS := zin_t4 6 rfl rfl
theorem fl_M_13 : (Cond.fieldLink "RationalSessionModel" (13 : Nat) "RationalSessionModel" "bad" "I") ∈ zWS := zin_t4 7 rfl rfl
theorem fl_M_85 : (Cond.fieldLink "RationalSessionModel" (85 : Nat) "RationalSessionModel" "level" "I") ∈ zWS := zin_t4 8 rfl rfl
theorem fl_M_119 : (Cond.fieldLink "RationalSessionModel" (119 : Nat) "RationalSessionModel" "trouble" "I") ∈ zWS := zin_t4 9 rfl rfl
theorem fl_M_211 : (Cond.fieldLink "RationalSessionModel" (211 : Nat) "RationalSessionModel" "wanted" "I") ∈ zWS := zin_t4 10 rfl rfl
theorem fl_M_208 : (Cond.fieldLink "RationalSessionModel" (208 : Nat) "RationalSessionModel" "place" "I") ∈ zWS := zin_t4 11 rfl rfl
theorem fl_M_214 : (Cond.fieldLink "RationalSessionModel" (214 : Nat) "RationalSessionModel" "found" "I") ∈ zWS := zin_t4 12 rfl rfl
theorem fl_M_17 : (Cond.fieldLink "RationalSessionModel" (17 : Nat) "RationalSessionModel" "shapeOf" "[I") ∈ zWS := zin_t4 13 rfl rfl
theorem fl_M_20 : (Cond.fieldLink "RationalSessionModel" (20 : Nat) "RationalSessionModel" "boundTo" "[I") ∈ zWS := zin_t4 14 rfl rfl
theorem fl_M_23 : (Cond.fieldLink "RationalSessionModel" (23 : Nat) "RationalSessionModel" "num" "[I") ∈ zWS := zin_t4 15 rfl rfl
theorem fl_M_26 : (Cond.fieldLink "RationalSessionModel" (26 : Nat) "RationalSessionModel" "den" "[I") ∈ zWS := zin_t4 16 rfl rfl
theorem fl_M_29 : (Cond.fieldLink "RationalSessionModel" (29 : Nat) "RationalSessionModel" "p" "[I") ∈ zWS := zin_t4 17 rfl rfl
theorem fl_M_32 : (Cond.fieldLink "RationalSessionModel" (32 : Nat) "RationalSessionModel" "q" "[I") ∈ zWS := zin_t4 18 rfl rfl
theorem fl_M_35 : (Cond.fieldLink "RationalSessionModel" (35 : Nat) "RationalSessionModel" "m" "[I") ∈ zWS := zin_t4 19 rfl rfl
theorem fl_M_38 : (Cond.fieldLink "RationalSessionModel" (38 : Nat) "RationalSessionModel" "solved" "[I") ∈ zWS := zin_t4 20 rfl rfl
theorem fl_M_41 : (Cond.fieldLink "RationalSessionModel" (41 : Nat) "RationalSessionModel" "kind" "[I") ∈ zWS := zin_t4 21 rfl rfl
theorem fl_M_44 : (Cond.fieldLink "RationalSessionModel" (44 : Nat) "RationalSessionModel" "hasSum" "[Z") ∈ zWS := zin_t4 22 rfl rfl
theorem fl_M_48 : (Cond.fieldLink "RationalSessionModel" (48 : Nat) "RationalSessionModel" "hasTerm" "[Z") ∈ zWS := zin_t4 23 rfl rfl
theorem fl_M_51 : (Cond.fieldLink "RationalSessionModel" (51 : Nat) "RationalSessionModel" "sumSign" "[I") ∈ zWS := zin_t4 24 rfl rfl
theorem fl_M_54 : (Cond.fieldLink "RationalSessionModel" (54 : Nat) "RationalSessionModel" "dividing" "[Z") ∈ zWS := zin_t4 25 rfl rfl
theorem ac_boolean : (Cond.arrayClass FieldType.boolean) ∈ zWS := zin_t4 71 rfl rfl
theorem ml_Lw_17 : (Cond.methodLink "RationalSessionLaw" (17 : Nat) ({ cls := "RationalSessionModel", name := "type", desc := "(I)I" } : MethodName)) ∈ zWS := zin_t4 72 rfl rfl
theorem im_M_type : (Cond.instanceMethod ({ cls := "RationalSessionModel", name := "type", desc := "(I)I" } : MethodName)) ∈ zWS := zin_t4 73 rfl rfl
theorem se_M_type : (Cond.selects "RationalSessionModel" ({ cls := "RationalSessionModel", name := "type", desc := "(I)I" } : MethodName) ({ cls := "RationalSessionModel", name := "type", desc := "(I)I" } : MethodName)) ∈ zWS := zin_t4 74 rfl rfl
theorem k_M_type : (Cond.code ({ cls := "RationalSessionModel", name := "type", desc := "(I)I" } : MethodName) prog_12_method_5_code (2 : Nat) (Option.some FieldType.int)) ∈ zWS := zin_t4 75 rfl rfl
theorem ml_M_64 : (Cond.methodLink "RationalSessionModel" (64 : Nat) ({ cls := "RationalSessionModel", name := "known", desc := "(I)Z" } : MethodName)) ∈ zWS := zin_t4 76 rfl rfl
theorem im_M_known : (Cond.instanceMethod ({ cls := "RationalSessionModel", name := "known", desc := "(I)Z" } : MethodName)) ∈ zWS := zin_t4 78 rfl rfl
theorem k_M_known : (Cond.code ({ cls := "RationalSessionModel", name := "known", desc := "(I)Z" } : MethodName) prog_12_method_4_code (2 : Nat) (Option.some FieldType.boolean)) ∈ zWS := zin_t4 79 rfl rfl
theorem ml_M_57 : (Cond.methodLink "RationalSessionModel" (57 : Nat) ({ cls := "RationalSessionModel", name := "digit", desc := "(I)Z" } : MethodName)) ∈ zWS := zin_t4 80 rfl rfl
theorem im_M_digit : (Cond.instanceMethod ({ cls := "RationalSessionModel", name := "digit", desc := "(I)Z" } : MethodName)) ∈ zWS := zin_t4 82 rfl rfl
theorem k_M_digit : (Cond.code ({ cls := "RationalSessionModel", name := "digit", desc := "(I)Z" } : MethodName) prog_12_method_2_code (2 : Nat) (Option.some FieldType.boolean)) ∈ zWS := zin_t4 83 rfl rfl
theorem ml_M_61 : (Cond.methodLink "RationalSessionModel" (61 : Nat) ({ cls := "RationalSessionModel", name := "name", desc := "(I)Z" } : MethodName)) ∈ zWS := zin_t4 84 rfl rfl
theorem im_M_name : (Cond.instanceMethod ({ cls := "RationalSessionModel", name := "name", desc := "(I)Z" } : MethodName)) ∈ zWS := zin_t4 86 rfl rfl
theorem k_M_name : (Cond.code ({ cls := "RationalSessionModel", name := "name", desc := "(I)Z" } : MethodName) prog_12_method_3_code (2 : Nat) (Option.some FieldType.boolean)) ∈ zWS := zin_t4 87 rfl rfl
theorem ml_Lw_24 : (Cond.methodLink "RationalSessionLaw" (24 : Nat) ({ cls := "RationalSessionModel", name := "types", desc := "(J)I" } : MethodName)) ∈ zWS := zin_t4 88 rfl rfl
theorem im_M_types : (Cond.instanceMethod ({ cls := "RationalSessionModel", name := "types", desc := "(J)I" } : MethodName)) ∈ zWS := zin_t4 89 rfl rfl
theorem se_M_types : (Cond.selects "RationalSessionModel" ({ cls := "RationalSessionModel", name := "types", desc := "(J)I" } : MethodName) ({ cls := "RationalSessionModel", name := "types", desc := "(J)I" } : MethodName)) ∈ zWS := zin_t4 90 rfl rfl
theorem k_M_types : (Cond.code ({ cls := "RationalSessionModel", name := "types", desc := "(J)I" } : MethodName) prog_12_method_6_code (6 : Nat) (Option.some FieldType.int)) ∈ zWS := zin_t4 91 rfl rfl
theorem ml_M_70 : (Cond.methodLink "RationalSessionModel" (70 : Nat) ({ cls := "RationalSessionModel", name := "type", desc := "(I)I" } : MethodName)) ∈ zWS := zin_t4 92 rfl rfl
theorem ml_Lw_29 : (Cond.methodLink "RationalSessionLaw" (29 : Nat) ({ cls := "RationalSessionModel", name := "back", desc := "()I" } : MethodName)) ∈ zWS := zin_t4 93 rfl rfl
theorem im_M_back : (Cond.instanceMethod ({ cls := "RationalSessionModel", name := "back", desc := "()I" } : MethodName)) ∈ zWS := zin_t4 94 rfl rfl
theorem se_M_back : (Cond.selects "RationalSessionModel" ({ cls := "RationalSessionModel", name := "back", desc := "()I" } : MethodName) ({ cls := "RationalSessionModel", name := "back", desc := "()I" } : MethodName)) ∈ zWS := zin_t4 95 rfl rfl
theorem k_M_back : (Cond.code ({ cls := "RationalSessionModel", name := "back", desc := "()I" } : MethodName) prog_12_method_7_code (1 : Nat) (Option.some FieldType.int)) ∈ zWS := zin_t4 96 rfl rfl
theorem ml_Lw_33 : (Cond.methodLink "RationalSessionLaw" (33 : Nat) ({ cls := "RationalSessionModel", name := "enter", desc := "()I" } : MethodName)) ∈ zWS := zin_t4 97 rfl rfl
theorem im_M_enter : (Cond.instanceMethod ({ cls := "RationalSessionModel", name := "enter", desc := "()I" } : MethodName)) ∈ zWS := zin_t4 98 rfl rfl
theorem se_M_enter : (Cond.selects "RationalSessionModel" ({ cls := "RationalSessionModel", name := "enter", desc := "()I" } : MethodName) ({ cls := "RationalSessionModel", name := "enter", desc := "()I" } : MethodName)) ∈ zWS := zin_t4 99 rfl rfl
theorem k_M_enter : (Cond.code ({ cls := "RationalSessionModel", name := "enter", desc := "()I" } : MethodName) prog_12_method_41_code (2 : Nat) (Option.some FieldType.int)) ∈ zWS := zin_t4 100 rfl rfl
theorem ml_M_189 : (Cond.methodLink "RationalSessionModel" (189 : Nat) ({ cls := "RationalSessionModel", name := "work", desc := "()I" } : MethodName)) ∈ zWS := zin_t4 101 rfl rfl
theorem im_M_work : (Cond.instanceMethod ({ cls := "RationalSessionModel", name := "work", desc := "()I" } : MethodName)) ∈ zWS := zin_t4 103 rfl rfl
theorem k_M_work : (Cond.code ({ cls := "RationalSessionModel", name := "work", desc := "()I" } : MethodName) prog_12_method_42_code (6 : Nat) (Option.some FieldType.int)) ∈ zWS := zin_t4 104 rfl rfl
theorem ml_M_192 : (Cond.methodLink "RationalSessionModel" (192 : Nat) ({ cls := "RationalSessionModel", name := "badPlaceOf", desc := "()I" } : MethodName)) ∈ zWS := zin_t4 105 rfl rfl
theorem im_M_badPlaceOf : (Cond.instanceMethod ({ cls := "RationalSessionModel", name := "badPlaceOf", desc := "()I" } : MethodName)) ∈ zWS := zin_t4 107 rfl rfl
theorem k_M_badPlaceOf : (Cond.code ({ cls := "RationalSessionModel", name := "badPlaceOf", desc := "()I" } : MethodName) prog_12_method_13_code (3 : Nat) (Option.some FieldType.int)) ∈ zWS := zin_t4 108 rfl rfl
theorem ml_M_88 : (Cond.methodLink "RationalSessionModel" (88 : Nat) ({ cls := "RationalSessionModel", name := "stateAt", desc := "(II)I" } : MethodName)) ∈ zWS := zin_t4 109 rfl rfl
theorem im_M_stateAt : (Cond.instanceMethod ({ cls := "RationalSessionModel", name := "stateAt", desc := "(II)I" } : MethodName)) ∈ zWS := zin_t4 111 rfl rfl
theorem k_M_stateAt : (Cond.code ({ cls := "RationalSessionModel", name := "stateAt", desc := "(II)I" } : MethodName) prog_12_method_8_code (3 : Nat) (Option.some FieldType.int)) ∈ zWS := zin_t4 112 rfl rfl
theorem ml_M_74 : (Cond.methodLink "RationalSessionModel" (74 : Nat) ({ cls := "RationalSessionModel", name := "open", desc := "(I)I" } : MethodName)) ∈ zWS := zin_t4 113 rfl rfl
theorem im_M_open : (Cond.instanceMethod ({ cls := "RationalSessionModel", name := "open", desc := "(I)I" } : MethodName)) ∈ zWS := zin_t4 115 rfl rfl
theorem k_M_open : (Cond.code ({ cls := "RationalSessionModel", name := "open", desc := "(I)I" } : MethodName) prog_12_method_10_code (2 : Nat) (Option.some FieldType.int)) ∈ zWS := zin_t4 116 rfl rfl
theorem ml_M_77 : (Cond.methodLink "RationalSessionModel" (77 : Nat) ({ cls := "RationalSessionModel", name := "begin", desc := "(II)I" } : MethodName)) ∈ zWS := zin_t4 117 rfl rfl
theorem im_M_begin : (Cond.instanceMethod ({ cls := "RationalSessionModel", name := "begin", desc := "(II)I" } : MethodName)) ∈ zWS := zin_t4 119 rfl rfl
theorem k_M_begin : (Cond.code ({ cls := "RationalSessionModel", name := "begin", desc := "(II)I" } : MethodName) prog_12_method_9_code (3 : Nat) (Option.some FieldType.int)) ∈ zWS := zin_t4 120 rfl rfl
theorem ml_M_81 : (Cond.methodLink "RationalSessionModel" (81 : Nat) ({ cls := "RationalSessionModel", name := "close", desc := "()I" } : MethodName)) ∈ zWS := zin_t4 121 rfl rfl
theorem im_M_close : (Cond.instanceMethod ({ cls := "RationalSessionModel", name := "close", desc := "()I" } : MethodName)) ∈ zWS := zin_t4 123 rfl rfl
theorem k_M_close : (Cond.code ({ cls := "RationalSessionModel", name := "close", desc := "()I" } : MethodName) prog_12_method_11_code (1 : Nat) (Option.some FieldType.int)) ∈ zWS := zin_t4 124 rfl rfl
theorem ml_M_91 : (Cond.methodLink "RationalSessionModel" (91 : Nat) ({ cls := "RationalSessionModel", name := "complete", desc := "(I)Z" } : MethodName)) ∈ zWS := zin_t4 125 rfl rfl
theorem im_M_complete : (Cond.instanceMethod ({ cls := "RationalSessionModel", name := "complete", desc := "(I)Z" } : MethodName)) ∈ zWS := zin_t4 127 rfl rfl
theorem k_M_complete : (Cond.code ({ cls := "RationalSessionModel", name := "complete", desc := "(I)Z" } : MethodName) prog_12_method_12_code (2 : Nat) (Option.some FieldType.boolean)) ∈ zWS := zin_t4 128 rfl rfl
theorem ml_M_177 : (Cond.methodLink "RationalSessionModel" (177 : Nat) ({ cls := "RationalSessionModel", name := "start", desc := "(I)V" } : MethodName)) ∈ zWS := zin_t4 129 rfl rfl
theorem im_M_start : (Cond.instanceMethod ({ cls := "RationalSessionModel", name := "start", desc := "(I)V" } : MethodName)) ∈ zWS := zin_t4 131 rfl rfl
theorem k_M_start : (Cond.code ({ cls := "RationalSessionModel", name := "start", desc := "(I)V" } : MethodName) prog_12_method_32_code (2 : Nat) (Option.none : Option Jvm.ClassFile.FieldType)) ∈ zWS := zin_t4 132 rfl rfl
theorem ml_M_195 : (Cond.methodLink "RationalSessionModel" (195 : Nat) ({ cls := "RationalSessionModel", name := "advance", desc := "(I)I" } : MethodName)) ∈ zWS := zin_t4 133 rfl rfl
theorem im_M_advance : (Cond.instanceMethod ({ cls := "RationalSessionModel", name := "advance", desc := "(I)I" } : MethodName)) ∈ zWS := zin_t4 135 rfl rfl
theorem k_M_advance : (Cond.code ({ cls := "RationalSessionModel", name := "advance", desc := "(I)I" } : MethodName) prog_12_method_40_code (4 : Nat) (Option.some FieldType.int)) ∈ zWS := zin_t4 136 rfl rfl
theorem ml_M_152 : (Cond.methodLink "RationalSessionModel" (152 : Nat) ({ cls := "RationalSessionModel", name := "term", desc := "()V" } : MethodName)) ∈ zWS := zin_t4 137 rfl rfl
theorem im_M_term : (Cond.instanceMethod ({ cls := "RationalSessionModel", name := "term", desc := "()V" } : MethodName)) ∈ zWS := zin_t4 139 rfl rfl
theorem k_M_term : (Cond.code ({ cls := "RationalSessionModel", name := "term", desc := "()V" } : MethodName) prog_12_method_34_code (3 : Nat) (Option.none : Option Jvm.ClassFile.FieldType)) ∈ zWS := zin_t4 140 rfl rfl
theorem ml_M_144 : (Cond.methodLink "RationalSessionModel" (144 : Nat) ({ cls := "RationalSessionModel", name := "add", desc := "(IIII)V" } : MethodName)) ∈ zWS := zin_t4 141 rfl rfl
theorem im_M_add : (Cond.instanceMethod ({ cls := "RationalSessionModel", name := "add", desc := "(IIII)V" } : MethodName)) ∈ zWS := zin_t4 143 rfl rfl
theorem k_M_add : (Cond.code ({ cls := "RationalSessionModel", name := "add", desc := "(IIII)V" } : MethodName) prog_12_method_26_code (5 : Nat) (Option.none : Option Jvm.ClassFile.FieldType)) ∈ zWS := zin_t4 144 rfl rfl
theorem ml_M_122 : (Cond.methodLink "RationalSessionModel" (122 : Nat) ({ cls := "RationalSessionModel", name := "blank", desc := "()V" } : MethodName)) ∈ zWS := zin_t4 145 rfl rfl
theorem im_M_blank : (Cond.instanceMethod ({ cls := "RationalSessionModel", name := "blank", desc := "()V" } : MethodName)) ∈ zWS := zin_t4 147 rfl rfl
theorem k_M_blank : (Cond.code ({ cls := "RationalSessionModel", name := "blank", desc := "()V" } : MethodName) prog_12_method_18_code (2 : Nat) (Option.none : Option Jvm.ClassFile.FieldType)) ∈ zWS := zin_t4 148 rfl rfl
theorem ml_M_125 : (Cond.methodLink "RationalSessionModel" (125 : Nat) ({ cls := "RationalSessionModel", name := "product", desc := "(IZIZIZ)V" } : MethodName)) ∈ zWS := zin_t4 149 rfl rfl
theorem im_M_product : (Cond.instanceMethod ({ cls := "RationalSessionModel", name := "product", desc := "(IZIZIZ)V" } : MethodName)) ∈ zWS := zin_t4 151 rfl rfl
theorem k_M_product : (Cond.code ({ cls := "RationalSessionModel", name := "product", desc := "(IZIZIZ)V" } : MethodName) prog_12_method_25_code (13 : Nat) (Option.none : Option Jvm.ClassFile.FieldType)) ∈ zWS := zin_t4 152 rfl rfl
theorem ml_M_129 : (Cond.methodLink "RationalSessionModel" (129 : Nat) ({ cls := "RationalSessionModel", name := "form", desc := "(I)V" } : MethodName)) ∈ zWS := zin_t4 153 rfl rfl
theorem im_M_form : (Cond.instanceMethod ({ cls := "RationalSessionModel", name := "form", desc := "(I)V" } : MethodName)) ∈ zWS := zin_t4 155 rfl rfl
theorem k_M_form : (Cond.code ({ cls := "RationalSessionModel", name := "form", desc := "(I)V" } : MethodName) prog_12_method_23_code (7 : Nat) (Option.none : Option Jvm.ClassFile.FieldType)) ∈ zWS := zin_t4 156 rfl rfl
theorem ml_M_104 : (Cond.methodLink "RationalSessionModel" (104 : Nat) ({ cls := "RationalSessionModel", name := "topOf", desc := "(Z)I" } : MethodName)) ∈ zWS := zin_t4 157 rfl rfl
theorem im_M_topOf : (Cond.instanceMethod ({ cls := "RationalSessionModel", name := "topOf", desc := "(Z)I" } : MethodName)) ∈ zWS := zin_t4 159 rfl rfl
theorem k_M_topOf : (Cond.code ({ cls := "RationalSessionModel", name := "topOf", desc := "(Z)I" } : MethodName) prog_12_method_22_code (3 : Nat) (Option.some FieldType.int)) ∈ zWS := zin_t4 160 rfl rfl
theorem ml_M_108 : (Cond.methodLink "RationalSessionModel" (108 : Nat) ({ cls := "RationalSessionModel", name := "constant", desc := "(II)V" } : MethodName)) ∈ zWS := zin_t4 161 rfl rfl
theorem im_M_constant : (Cond.instanceMethod ({ cls := "RationalSessionModel", name := "constant", desc := "(II)V" } : MethodName)) ∈ zWS := zin_t4 163 rfl rfl
theorem k_M_constant : (Cond.code ({ cls := "RationalSessionModel", name := "constant", desc := "(II)V" } : MethodName) prog_12_method_16_code (4 : Nat) (Option.none : Option Jvm.ClassFile.FieldType)) ∈ zWS := zin_t4 164 rfl rfl
theorem ml_M_112 : (Cond.methodLink "RationalSessionModel" (112 : Nat) ({ cls := "RationalSessionModel", name := "solve", desc := "(III)Z" } : MethodName)) ∈ zWS := zin_t4 165 rfl rfl
theorem im_M_solve : (Cond.instanceMethod ({ cls := "RationalSessionModel", name := "solve", desc := "(III)Z" } : MethodName)) ∈ zWS := zin_t4 167 rfl rfl
theorem k_M_solve : (Cond.code ({ cls := "RationalSessionModel", name := "solve", desc := "(III)Z" } : MethodName) prog_12_method_19_code (9 : Nat) (Option.some FieldType.boolean)) ∈ zWS := zin_t4 168 rfl rfl
theorem ml_M_94 : (Cond.methodLink "RationalSessionModel" (94 : Nat) ({ cls := "RationalSessionModel", name := "eliminate", desc := "(III)V" } : MethodName)) ∈ zWS := zin_t4 169 rfl rfl
theorem im_M_eliminate : (Cond.instanceMethod ({ cls := "RationalSessionModel", name := "eliminate", desc := "(III)V" } : MethodName)) ∈ zWS := zin_t4 171 rfl rfl
theorem k_M_eliminate : (Cond.code ({ cls := "RationalSessionModel", name := "eliminate", desc := "(III)V" } : MethodName) prog_12_method_20_code (6 : Nat) (Option.none : Option Jvm.ClassFile.FieldType)) ∈ zWS := zin_t4 172 rfl rfl
theorem ml_M_98 : (Cond.methodLink "RationalSessionModel" (98 : Nat) ({ cls := "RationalSessionModel", name := "inverse", desc := "(I)I" } : MethodName)) ∈ zWS := zin_t4 173 rfl rfl
theorem im_M_inverse : (Cond.instanceMethod ({ cls := "RationalSessionModel", name := "inverse", desc := "(I)I" } : MethodName)) ∈ zWS := zin_t4 175 rfl rfl
theorem k_M_inverse : (Cond.code ({ cls := "RationalSessionModel", name := "inverse", desc := "(I)I" } : MethodName) prog_12_method_17_code (4 : Nat) (Option.some FieldType.int)) ∈ zWS := zin_t4 176 rfl rfl
theorem ml_M_101 : (Cond.methodLink "RationalSessionModel" (101 : Nat) ({ cls := "RationalSessionModel", name := "subtract", desc := "(III)V" } : MethodName)) ∈ zWS := zin_t4 177 rfl rfl
theorem im_M_subtract : (Cond.instanceMethod ({ cls := "RationalSessionModel", name := "subtract", desc := "(III)V" } : MethodName)) ∈ zWS := zin_t4 179 rfl rfl
theorem k_M_subtract : (Cond.code ({ cls := "RationalSessionModel", name := "subtract", desc := "(III)V" } : MethodName) prog_12_method_21_code (5 : Nat) (Option.none : Option Jvm.ClassFile.FieldType)) ∈ zWS := zin_t4 180 rfl rfl
theorem ml_M_116 : (Cond.methodLink "RationalSessionModel" (116 : Nat) ({ cls := "RationalSessionModel", name := "unknown", desc := "(II)I" } : MethodName)) ∈ zWS := zin_t4 181 rfl rfl
theorem im_M_unknown : (Cond.instanceMethod ({ cls := "RationalSessionModel", name := "unknown", desc := "(II)I" } : MethodName)) ∈ zWS := zin_t4 183 rfl rfl
theorem k_M_unknown : (Cond.code ({ cls := "RationalSessionModel", name := "unknown", desc := "(II)I" } : MethodName) prog_12_method_24_code (3 : Nat) (Option.some FieldType.int)) ∈ zWS := zin_t4 184 rfl rfl
theorem ml_M_137 : (Cond.methodLink "RationalSessionModel" (137 : Nat) ({ cls := "RationalSessionModel", name := "copy", desc := "(II)V" } : MethodName)) ∈ zWS := zin_t4 185 rfl rfl
theorem im_M_copy : (Cond.instanceMethod ({ cls := "RationalSessionModel", name := "copy", desc := "(II)V" } : MethodName)) ∈ zWS := zin_t4 187 rfl rfl
theorem k_M_copy : (Cond.code ({ cls := "RationalSessionModel", name := "copy", desc := "(II)V" } : MethodName) prog_12_method_15_code (4 : Nat) (Option.none : Option Jvm.ClassFile.FieldType)) ∈ zWS := zin_t4 188 rfl rfl
theorem ml_M_180 : (Cond.methodLink "RationalSessionModel" (180 : Nat) ({ cls := "RationalSessionModel", name := "closed", desc := "()V" } : MethodName)) ∈ zWS := zin_t4 189 rfl rfl
theorem im_M_closed : (Cond.instanceMethod ({ cls := "RationalSessionModel", name := "closed", desc := "()V" } : MethodName)) ∈ zWS := zin_t4 191 rfl rfl
theorem k_M_closed : (Cond.code ({ cls := "RationalSessionModel", name := "closed", desc := "()V" } : MethodName) prog_12_method_35_code (2 : Nat) (Option.none : Option Jvm.ClassFile.FieldType)) ∈ zWS := zin_t4 192 rfl rfl
theorem ml_M_155 : (Cond.methodLink "RationalSessionModel" (155 : Nat) ({ cls := "RationalSessionModel", name := "derive", desc := "(II)V" } : MethodName)) ∈ zWS := zin_t4 193 rfl rfl
theorem im_M_derive : (Cond.instanceMethod ({ cls := "RationalSessionModel", name := "derive", desc := "(II)V" } : MethodName)) ∈ zWS := zin_t4 195 rfl rfl
theorem k_M_derive : (Cond.code ({ cls := "RationalSessionModel", name := "derive", desc := "(II)V" } : MethodName) prog_12_method_29_code (4 : Nat) (Option.none : Option Jvm.ClassFile.FieldType)) ∈ zWS := zin_t4 196 rfl rfl
theorem ml_M_158 : (Cond.methodLink "RationalSessionModel" (158 : Nat) ({ cls := "RationalSessionModel", name := "substitute", desc := "(III)V" } : MethodName)) ∈ zWS := zin_t4 197 rfl rfl
theorem im_M_substitute : (Cond.instanceMethod ({ cls := "RationalSessionModel", name := "substitute", desc := "(III)V" } : MethodName)) ∈ zWS := zin_t4 199 rfl rfl
theorem k_M_substitute : (Cond.code ({ cls := "RationalSessionModel", name := "substitute", desc := "(III)V" } : MethodName) prog_12_method_31_code (6 : Nat) (Option.none : Option Jvm.ClassFile.FieldType)) ∈ zWS := zin_t4 200 rfl rfl
theorem ml_M_133 : (Cond.methodLink "RationalSessionModel" (133 : Nat) ({ cls := "RationalSessionModel", name := "top", desc := "(IZ)I" } : MethodName)) ∈ zWS := zin_t4 201 rfl rfl
theorem im_M_top : (Cond.instanceMethod ({ cls := "RationalSessionModel", name := "top", desc := "(IZ)I" } : MethodName)) ∈ zWS := zin_t4 203 rfl rfl
theorem k_M_top : (Cond.code ({ cls := "RationalSessionModel", name := "top", desc := "(IZ)I" } : MethodName) prog_12_method_14_code (4 : Nat) (Option.some FieldType.int)) ∈ zWS := zin_t4 204 rfl rfl
theorem ml_M_148 : (Cond.methodLink "RationalSessionModel" (148 : Nat) ({ cls := "RationalSessionModel", name := "put", desc := "(IZII)V" } : MethodName)) ∈ zWS := zin_t4 205 rfl rfl
theorem im_M_put : (Cond.instanceMethod ({ cls := "RationalSessionModel", name := "put", desc := "(IZII)V" } : MethodName)) ∈ zWS := zin_t4 207 rfl rfl
theorem k_M_put : (Cond.code ({ cls := "RationalSessionModel", name := "put", desc := "(IZII)V" } : MethodName) prog_12_method_30_code (6 : Nat) (Option.none : Option Jvm.ClassFile.FieldType)) ∈ zWS := zin_t4 208 rfl rfl
theorem ml_M_140 : (Cond.methodLink "RationalSessionModel" (140 : Nat) ({ cls := "RationalSessionModel", name := "times", desc := "(IIZI)V" } : MethodName)) ∈ zWS := zin_t4 209 rfl rfl
theorem im_M_times : (Cond.instanceMethod ({ cls := "RationalSessionModel", name := "times", desc := "(IIZI)V" } : MethodName)) ∈ zWS := zin_t4 211 rfl rfl
theorem k_M_times : (Cond.code ({ cls := "RationalSessionModel", name := "times", desc := "(IIZI)V" } : MethodName) prog_12_method_27_code (5 : Nat) (Option.none : Option Jvm.ClassFile.FieldType)) ∈ zWS := zin_t4 212 rfl rfl
theorem ml_M_183 : (Cond.methodLink "RationalSessionModel" (183 : Nat) ({ cls := "RationalSessionModel", name := "raise", desc := "(I)I" } : MethodName)) ∈ zWS := zin_t4 213 rfl rfl
theorem im_M_raise : (Cond.instanceMethod ({ cls := "RationalSessionModel", name := "raise", desc := "(I)I" } : MethodName)) ∈ zWS := zin_t4 215 rfl rfl
theorem k_M_raise : (Cond.code ({ cls := "RationalSessionModel", name := "raise", desc := "(I)I" } : MethodName) prog_12_method_39_code (6 : Nat) (Option.some FieldType.int)) ∈ zWS := zin_t4 216 rfl rfl
theorem ml_M_161 : (Cond.methodLink "RationalSessionModel" (161 : Nat) ({ cls := "RationalSessionModel", name := "digits", desc := "(I)I" } : MethodName)) ∈ zWS := zin_t4 217 rfl rfl
theorem im_M_digits : (Cond.instanceMethod ({ cls := "RationalSessionModel", name := "digits", desc := "(I)I" } : MethodName)) ∈ zWS := zin_t4 219 rfl rfl
theorem k_M_digits : (Cond.code ({ cls := "RationalSessionModel", name := "digits", desc := "(I)I" } : MethodName) prog_12_method_36_code (4 : Nat) (Option.some FieldType.int)) ∈ zWS := zin_t4 220 rfl rfl
theorem ml_M_164 : (Cond.methodLink "RationalSessionModel" (164 : Nat) ({ cls := "RationalSessionModel", name := "worth", desc := "(II)I" } : MethodName)) ∈ zWS := zin_t4 221 rfl rfl
theorem im_M_worth : (Cond.instanceMethod ({ cls := "RationalSessionModel", name := "worth", desc := "(II)I" } : MethodName)) ∈ zWS := zin_t4 223 rfl rfl
theorem k_M_worth : (Cond.code ({ cls := "RationalSessionModel", name := "worth", desc := "(II)I" } : MethodName) prog_12_method_37_code (5 : Nat) (Option.some FieldType.int)) ∈ zWS := zin_t4 224 rfl rfl
theorem ml_M_170 : (Cond.methodLink "RationalSessionModel" (170 : Nat) ({ cls := "RationalSessionModel", name := "power", desc := "(IZ)V" } : MethodName)) ∈ zWS := zin_t4 225 rfl rfl
theorem im_M_power : (Cond.instanceMethod ({ cls := "RationalSessionModel", name := "power", desc := "(IZ)V" } : MethodName)) ∈ zWS := zin_t4 227 rfl rfl
theorem k_M_power : (Cond.code ({ cls := "RationalSessionModel", name := "power", desc := "(IZ)V" } : MethodName) prog_12_method_28_code (4 : Nat) (Option.none : Option Jvm.ClassFile.FieldType)) ∈ zWS := zin_t4 228 rfl rfl
theorem ml_M_174 : (Cond.methodLink "RationalSessionModel" (174 : Nat) ({ cls := "RationalSessionModel", name := "factor", desc := "()V" } : MethodName)) ∈ zWS := zin_t4 229 rfl rfl
theorem im_M_factor : (Cond.instanceMethod ({ cls := "RationalSessionModel", name := "factor", desc := "()V" } : MethodName)) ∈ zWS := zin_t4 231 rfl rfl
theorem k_M_factor : (Cond.code ({ cls := "RationalSessionModel", name := "factor", desc := "()V" } : MethodName) prog_12_method_33_code (1 : Nat) (Option.none : Option Jvm.ClassFile.FieldType)) ∈ zWS := zin_t4 232 rfl rfl
theorem ml_M_186 : (Cond.methodLink "RationalSessionModel" (186 : Nat) ({ cls := "RationalSessionModel", name := "atom", desc := "(I)I" } : MethodName)) ∈ zWS := zin_t4 233 rfl rfl
theorem im_M_atom : (Cond.instanceMethod ({ cls := "RationalSessionModel", name := "atom", desc := "(I)I" } : MethodName)) ∈ zWS := zin_t4 235 rfl rfl
theorem k_M_atom : (Cond.code ({ cls := "RationalSessionModel", name := "atom", desc := "(I)I" } : MethodName) prog_12_method_38_code (5 : Nat) (Option.some FieldType.int)) ∈ zWS := zin_t4 236 rfl rfl
theorem ml_M_198 : (Cond.methodLink "RationalSessionModel" (198 : Nat) ({ cls := "RationalSessionModel", name := "shapes", desc := "()I" } : MethodName)) ∈ zWS := zin_t4 237 rfl rfl
theorem im_M_shapes : (Cond.instanceMethod ({ cls := "RationalSessionModel", name := "shapes", desc := "()I" } : MethodName)) ∈ zWS := zin_t4 238 rfl rfl
theorem se_M_shapes : (Cond.selects "RationalSessionModel" ({ cls := "RationalSessionModel", name := "shapes", desc := "()I" } : MethodName) ({ cls := "RationalSessionModel", name := "shapes", desc := "()I" } : MethodName)) ∈ zWS := zin_t4 239 rfl rfl
theorem k_M_shapes : (Cond.code ({ cls := "RationalSessionModel", name := "shapes", desc := "()I" } : MethodName) prog_12_method_49_code (3 : Nat) (Option.some FieldType.int)) ∈ zWS := zin_t5 0 rfl rfl
theorem ml_M_201 : (Cond.methodLink "RationalSessionModel" (201 : Nat) ({ cls := "RationalSessionModel", name := "alike", desc := "(II)Z" } : MethodName)) ∈ zWS := zin_t5 1 rfl rfl
theorem im_M_alike : (Cond.instanceMethod ({ cls := "RationalSessionModel", name := "alike", desc := "(II)Z" } : MethodName)) ∈ zWS := zin_t5 3 rfl rfl
theorem k_M_alike : (Cond.code ({ cls := "RationalSessionModel", name := "alike", desc := "(II)Z" } : MethodName) prog_12_method_43_code (4 : Nat) (Option.some FieldType.boolean)) ∈ zWS := zin_t5 4 rfl rfl
theorem ml_Lw_37 : (Cond.methodLink "RationalSessionLaw" (37 : Nat) ({ cls := "RationalSessionModel", name := "badPlace", desc := "()I" } : MethodName)) ∈ zWS := zin_t5 5 rfl rfl
theorem im_M_badPlace : (Cond.instanceMethod ({ cls := "RationalSessionModel", name := "badPlace", desc := "()I" } : MethodName)) ∈ zWS := zin_t5 6 rfl rfl
theorem se_M_badPlace : (Cond.selects "RationalSessionModel" ({ cls := "RationalSessionModel", name := "badPlace", desc := "()I" } : MethodName) ({ cls := "RationalSessionModel", name := "badPlace", desc := "()I" } : MethodName)) ∈ zWS := zin_t5 7 rfl rfl
theorem k_M_badPlace : (Cond.code ({ cls := "RationalSessionModel", name := "badPlace", desc := "()I" } : MethodName) prog_12_method_45_code (1 : Nat) (Option.some FieldType.int)) ∈ zWS := zin_t5 8 rfl rfl
theorem ml_Lw_42 : (Cond.methodLink "RationalSessionLaw" (42 : Nat) ({ cls := "RationalSessionModel", name := "degree", desc := "(IZ)I" } : MethodName)) ∈ zWS := zin_t5 9 rfl rfl
theorem im_M_degree : (Cond.instanceMethod ({ cls := "RationalSessionModel", name := "degree", desc := "(IZ)I" } : MethodName)) ∈ zWS := zin_t5 10 rfl rfl
theorem se_M_degree : (Cond.selects "RationalSessionModel" ({ cls := "RationalSessionModel", name := "degree", desc := "(IZ)I" } : MethodName) ({ cls := "RationalSessionModel", name := "degree", desc := "(IZ)I" } : MethodName)) ∈ zWS := zin_t5 11 rfl rfl
theorem k_M_degree : (Cond.code ({ cls := "RationalSessionModel", name := "degree", desc := "(IZ)I" } : MethodName) prog_12_method_46_code (3 : Nat) (Option.some FieldType.int)) ∈ zWS := zin_t5 12 rfl rfl
theorem ml_M_205 : (Cond.methodLink "RationalSessionModel" (205 : Nat) ({ cls := "RationalSessionModel", name := "noLabel", desc := "(I)Z" } : MethodName)) ∈ zWS := zin_t5 13 rfl rfl
theorem im_M_noLabel : (Cond.instanceMethod ({ cls := "RationalSessionModel", name := "noLabel", desc := "(I)Z" } : MethodName)) ∈ zWS := zin_t5 15 rfl rfl
theorem k_M_noLabel : (Cond.code ({ cls := "RationalSessionModel", name := "noLabel", desc := "(I)Z" } : MethodName) prog_12_method_44_code (2 : Nat) (Option.some FieldType.boolean)) ∈ zWS := zin_t5 16 rfl rfl
theorem ml_Lw_47 : (Cond.methodLink "RationalSessionLaw" (47 : Nat) ({ cls := "RationalSessionModel", name := "coefficient", desc := "(IZI)I" } : MethodName)) ∈ zWS := zin_t5 17 rfl rfl
theorem im_M_coefficient : (Cond.instanceMethod ({ cls := "RationalSessionModel", name := "coefficient", desc := "(IZI)I" } : MethodName)) ∈ zWS := zin_t5 18 rfl rfl
theorem se_M_coefficient : (Cond.selects "RationalSessionModel" ({ cls := "RationalSessionModel", name := "coefficient", desc := "(IZI)I" } : MethodName) ({ cls := "RationalSessionModel", name := "coefficient", desc := "(IZI)I" } : MethodName)) ∈ zWS := zin_t5 19 rfl rfl
theorem k_M_coefficient : (Cond.code ({ cls := "RationalSessionModel", name := "coefficient", desc := "(IZI)I" } : MethodName) prog_12_method_47_code (4 : Nat) (Option.some FieldType.int)) ∈ zWS := zin_t5 20 rfl rfl
theorem ml_Lw_51 : (Cond.methodLink "RationalSessionLaw" (51 : Nat) ({ cls := "RationalSessionModel", name := "shape", desc := "(I)I" } : MethodName)) ∈ zWS := zin_t5 21 rfl rfl
theorem im_M_shape : (Cond.instanceMethod ({ cls := "RationalSessionModel", name := "shape", desc := "(I)I" } : MethodName)) ∈ zWS := zin_t5 22 rfl rfl
theorem se_M_shape : (Cond.selects "RationalSessionModel" ({ cls := "RationalSessionModel", name := "shape", desc := "(I)I" } : MethodName) ({ cls := "RationalSessionModel", name := "shape", desc := "(I)I" } : MethodName)) ∈ zWS := zin_t5 23 rfl rfl
theorem k_M_shape : (Cond.code ({ cls := "RationalSessionModel", name := "shape", desc := "(I)I" } : MethodName) prog_12_method_48_code (2 : Nat) (Option.some FieldType.int)) ∈ zWS := zin_t5 24 rfl rfl
theorem ml_Lw_55 : (Cond.methodLink "RationalSessionLaw" (55 : Nat) ({ cls := "RationalSessionModel", name := "shapes", desc := "()I" } : MethodName)) ∈ zWS := zin_t5 25 rfl rfl
theorem ml_Lw_59 : (Cond.methodLink "RationalSessionLaw" (59 : Nat) ({ cls := "RationalSessionModel", name := "labels", desc := "()I" } : MethodName)) ∈ zWS := zin_t5 26 rfl rfl
theorem im_M_labels : (Cond.instanceMethod ({ cls := "RationalSessionModel", name := "labels", desc := "()I" } : MethodName)) ∈ zWS := zin_t5 27 rfl rfl
theorem se_M_labels : (Cond.selects "RationalSessionModel" ({ cls := "RationalSessionModel", name := "labels", desc := "()I" } : MethodName) ({ cls := "RationalSessionModel", name := "labels", desc := "()I" } : MethodName)) ∈ zWS := zin_t5 28 rfl rfl
theorem k_M_labels : (Cond.code ({ cls := "RationalSessionModel", name := "labels", desc := "()I" } : MethodName) prog_12_method_50_code (1 : Nat) (Option.some FieldType.int)) ∈ zWS := zin_t5 29 rfl rfl
theorem ml_Lw_63 : (Cond.methodLink "RationalSessionLaw" (63 : Nat) ({ cls := "RationalSessionModel", name := "bound", desc := "(I)I" } : MethodName)) ∈ zWS := zin_t5 30 rfl rfl
theorem im_M_bound : (Cond.instanceMethod ({ cls := "RationalSessionModel", name := "bound", desc := "(I)I" } : MethodName)) ∈ zWS := zin_t5 31 rfl rfl
theorem se_M_bound : (Cond.selects "RationalSessionModel" ({ cls := "RationalSessionModel", name := "bound", desc := "(I)I" } : MethodName) ({ cls := "RationalSessionModel", name := "bound", desc := "(I)I" } : MethodName)) ∈ zWS := zin_t5 32 rfl rfl
theorem k_M_bound : (Cond.code ({ cls := "RationalSessionModel", name := "bound", desc := "(I)I" } : MethodName) prog_12_method_51_code (2 : Nat) (Option.some FieldType.int)) ∈ zWS := zin_t5 33 rfl rfl
theorem ml_Lw_68 : (Cond.methodLink "RationalSessionLaw" (68 : Nat) ({ cls := "RationalSessionModel", name := "value", desc := "(II)I" } : MethodName)) ∈ zWS := zin_t5 34 rfl rfl
theorem im_M_value : (Cond.instanceMethod ({ cls := "RationalSessionModel", name := "value", desc := "(II)I" } : MethodName)) ∈ zWS := zin_t5 35 rfl rfl
theorem se_M_value : (Cond.selects "RationalSessionModel" ({ cls := "RationalSessionModel", name := "value", desc := "(II)I" } : MethodName) ({ cls := "RationalSessionModel", name := "value", desc := "(II)I" } : MethodName)) ∈ zWS := zin_t5 36 rfl rfl
theorem k_M_value : (Cond.code ({ cls := "RationalSessionModel", name := "value", desc := "(II)I" } : MethodName) prog_12_method_52_code (8 : Nat) (Option.some FieldType.int)) ∈ zWS := zin_t5 37 rfl rfl
theorem ml_Lw_72 : (Cond.methodLink "RationalSessionLaw" (72 : Nat) ({ cls := "RationalSessionModel", name := "text", desc := "(II)I" } : MethodName)) ∈ zWS := zin_t5 38 rfl rfl
theorem im_M_text : (Cond.instanceMethod ({ cls := "RationalSessionModel", name := "text", desc := "(II)I" } : MethodName)) ∈ zWS := zin_t5 39 rfl rfl
theorem se_M_text : (Cond.selects "RationalSessionModel" ({ cls := "RationalSessionModel", name := "text", desc := "(II)I" } : MethodName) ({ cls := "RationalSessionModel", name := "text", desc := "(II)I" } : MethodName)) ∈ zWS := zin_t5 40 rfl rfl
theorem k_M_text : (Cond.code ({ cls := "RationalSessionModel", name := "text", desc := "(II)I" } : MethodName) prog_12_method_56_code (4 : Nat) (Option.some FieldType.int)) ∈ zWS := zin_t5 41 rfl rfl
theorem ml_M_217 : (Cond.methodLink "RationalSessionModel" (217 : Nat) ({ cls := "RationalSessionModel", name := "emit", desc := "(I)V" } : MethodName)) ∈ zWS := zin_t5 42 rfl rfl
theorem im_M_emit : (Cond.instanceMethod ({ cls := "RationalSessionModel", name := "emit", desc := "(I)V" } : MethodName)) ∈ zWS := zin_t5 44 rfl rfl
theorem k_M_emit : (Cond.code ({ cls := "RationalSessionModel", name := "emit", desc := "(I)V" } : MethodName) prog_12_method_53_code (2 : Nat) (Option.none : Option Jvm.ClassFile.FieldType)) ∈ zWS := zin_t5 45 rfl rfl
theorem ml_M_223 : (Cond.methodLink "RationalSessionModel" (223 : Nat) ({ cls := "RationalSessionModel", name := "emitPolynomial", desc := "(IZ)V" } : MethodName)) ∈ zWS := zin_t5 46 rfl rfl
theorem im_M_emitPolynomial : (Cond.instanceMethod ({ cls := "RationalSessionModel", name := "emitPolynomial", desc := "(IZ)V" } : MethodName)) ∈ zWS := zin_t5 48 rfl rfl
theorem k_M_emitPolynomial : (Cond.code ({ cls := "RationalSessionModel", name := "emitPolynomial", desc := "(IZ)V" } : MethodName) prog_12_method_55_code (6 : Nat) (Option.none : Option Jvm.ClassFile.FieldType)) ∈ zWS := zin_t5 49 rfl rfl
theorem ml_M_220 : (Cond.methodLink "RationalSessionModel" (220 : Nat) ({ cls := "RationalSessionModel", name := "emitNumber", desc := "(I)V" } : MethodName)) ∈ zWS := zin_t5 50 rfl rfl
theorem im_M_emitNumber : (Cond.instanceMethod ({ cls := "RationalSessionModel", name := "emitNumber", desc := "(I)V" } : MethodName)) ∈ zWS := zin_t5 52 rfl rfl
theorem k_M_emitNumber : (Cond.code ({ cls := "RationalSessionModel", name := "emitNumber", desc := "(I)V" } : MethodName) prog_12_method_54_code (3 : Nat) (Option.none : Option Jvm.ClassFile.FieldType)) ∈ zWS := zin_t5 53 rfl rfl
theorem ml_Lw_76 : (Cond.methodLink "RationalSessionLaw" (76 : Nat) ({ cls := "RationalSessionModel", name := "line", desc := "(I)I" } : MethodName)) ∈ zWS := zin_t5 54 rfl rfl
theorem im_M_line : (Cond.instanceMethod ({ cls := "RationalSessionModel", name := "line", desc := "(I)I" } : MethodName)) ∈ zWS := zin_t5 55 rfl rfl
theorem se_M_line : (Cond.selects "RationalSessionModel" ({ cls := "RationalSessionModel", name := "line", desc := "(I)I" } : MethodName) ({ cls := "RationalSessionModel", name := "line", desc := "(I)I" } : MethodName)) ∈ zWS := zin_t5 56 rfl rfl
theorem k_M_line : (Cond.code ({ cls := "RationalSessionModel", name := "line", desc := "(I)I" } : MethodName) prog_12_method_57_code (2 : Nat) (Option.some FieldType.int)) ∈ zWS := zin_t5 57 rfl rfl
theorem ml_Lw_80 : (Cond.methodLink "RationalSessionLaw" (80 : Nat) ({ cls := "RationalSessionModel", name := "reset", desc := "()V" } : MethodName)) ∈ zWS := zin_t5 58 rfl rfl
theorem im_M_reset : (Cond.instanceMethod ({ cls := "RationalSessionModel", name := "reset", desc := "()V" } : MethodName)) ∈ zWS := zin_t5 59 rfl rfl
theorem se_M_reset : (Cond.selects "RationalSessionModel" ({ cls := "RationalSessionModel", name := "reset", desc := "()V" } : MethodName) ({ cls := "RationalSessionModel", name := "reset", desc := "()V" } : MethodName)) ∈ zWS := zin_t5 60 rfl rfl
theorem k_M_reset : (Cond.code ({ cls := "RationalSessionModel", name := "reset", desc := "()V" } : MethodName) prog_12_method_58_code (2 : Nat) (Option.none : Option Jvm.ClassFile.FieldType)) ∈ zWS := zin_t5 61 rfl rfl
theorem kl_Lw_18 : (Cond.constantLong "RationalSessionLaw" (18 : Nat) (4294967295 : Int64)) ∈ zWS := zin_t5 62 rfl rfl
theorem fl_jS_15 : (Cond.fieldLink "java/lang/String" (15 : Nat) "java/lang/String" "coder" "B") ∈ zWS := zin_t5 63 rfl rfl
theorem fl_jS_9 : (Cond.fieldLink "java/lang/String" (9 : Nat) "java/lang/String" "value" "[B") ∈ zWS := zin_t5 64 rfl rfl
theorem in_S_0 : u_lay R_S T_S 0 ∈ zWS := zin_t1 239 rfl rfl
theorem in_S_1 : u_lay R_S T_S 1 ∈ zWS := zin_t2 1 rfl rfl
theorem in_S_2 : u_lay R_S T_S 2 ∈ zWS := zin_t2 3 rfl rfl
theorem in_S_3 : u_lay R_S T_S 3 ∈ zWS := zin_t2 5 rfl rfl
theorem in_S_4 : u_lay R_S T_S 4 ∈ zWS := zin_t2 7 rfl rfl
theorem in_S_5 : u_lay R_S T_S 5 ∈ zWS := zin_t2 9 rfl rfl
theorem in_S_6 : u_lay R_S T_S 6 ∈ zWS := zin_t2 11 rfl rfl
theorem in_S : ∀ w ∈ u_ws R_S T_S 7, w ∈ zWS := by
  intro w hw
  obtain ⟨k, hk, rfl⟩ := List.mem_map.mp hw
  have hk := List.mem_range.mp hk
  match k, hk with
  | 0, _ => exact in_S_0
  | 1, _ => exact in_S_1
  | 2, _ => exact in_S_2
  | 3, _ => exact in_S_3
  | 4, _ => exact in_S_4
  | 5, _ => exact in_S_5
  | 6, _ => exact in_S_6
  | k + 7, h => exact absurd h (by omega)
theorem in_F_0 : u_lay R_F T_F 0 ∈ zWS := zin_t1 175 rfl rfl
theorem in_F_1 : u_lay R_F T_F 1 ∈ zWS := zin_t1 177 rfl rfl
theorem in_F : ∀ w ∈ u_ws R_F T_F 2, w ∈ zWS := by
  intro w hw
  obtain ⟨k, hk, rfl⟩ := List.mem_map.mp hw
  have hk := List.mem_range.mp hk
  match k, hk with
  | 0, _ => exact in_F_0
  | 1, _ => exact in_F_1
  | k + 2, h => exact absurd h (by omega)
theorem in_L_0 : u_lay R_L T_L 0 ∈ zWS := zin_t1 36 rfl rfl
theorem in_L_1 : u_lay R_L T_L 1 ∈ zWS := zin_t1 38 rfl rfl
theorem in_L : ∀ w ∈ u_ws R_L T_L 2, w ∈ zWS := by
  intro w hw
  obtain ⟨k, hk, rfl⟩ := List.mem_map.mp hw
  have hk := List.mem_range.mp hk
  match k, hk with
  | 0, _ => exact in_L_0
  | 1, _ => exact in_L_1
  | k + 2, h => exact absurd h (by omega)
theorem in_P_0 : u_lay R_P T_P 0 ∈ zWS := zin_t1 131 rfl rfl
theorem in_P_1 : u_lay R_P T_P 1 ∈ zWS := zin_t1 133 rfl rfl
theorem in_P : ∀ w ∈ u_ws R_P T_P 2, w ∈ zWS := by
  intro w hw
  obtain ⟨k, hk, rfl⟩ := List.mem_map.mp hw
  have hk := List.mem_range.mp hk
  match k, hk with
  | 0, _ => exact in_P_0
  | 1, _ => exact in_P_1
  | k + 2, h => exact absurd h (by omega)
theorem in_G_0 : u_lay R_G T_G 0 ∈ zWS := zin_t1 98 rfl rfl
theorem in_G_1 : u_lay R_G T_G 1 ∈ zWS := zin_t1 100 rfl rfl
theorem in_G_2 : u_lay R_G T_G 2 ∈ zWS := zin_t1 102 rfl rfl
theorem in_G_3 : u_lay R_G T_G 3 ∈ zWS := zin_t1 104 rfl rfl
theorem in_G : ∀ w ∈ u_ws R_G T_G 4, w ∈ zWS := by
  intro w hw
  obtain ⟨k, hk, rfl⟩ := List.mem_map.mp hw
  have hk := List.mem_range.mp hk
  match k, hk with
  | 0, _ => exact in_G_0
  | 1, _ => exact in_G_1
  | 2, _ => exact in_G_2
  | 3, _ => exact in_G_3
  | k + 4, h => exact absurd h (by omega)
theorem in_R_0 : u_lay R_R T_R 0 ∈ zWS := zin_t1 59 rfl rfl
theorem in_R_1 : u_lay R_R T_R 1 ∈ zWS := zin_t1 61 rfl rfl
theorem in_R_2 : u_lay R_R T_R 2 ∈ zWS := zin_t1 63 rfl rfl
theorem in_R_3 : u_lay R_R T_R 3 ∈ zWS := zin_t1 65 rfl rfl
theorem in_R_4 : u_lay R_R T_R 4 ∈ zWS := zin_t1 67 rfl rfl
theorem in_R_5 : u_lay R_R T_R 5 ∈ zWS := zin_t1 69 rfl rfl
theorem in_R_6 : u_lay R_R T_R 6 ∈ zWS := zin_t1 71 rfl rfl
theorem in_R_7 : u_lay R_R T_R 7 ∈ zWS := zin_t1 73 rfl rfl
theorem in_R_8 : u_lay R_R T_R 8 ∈ zWS := zin_t1 75 rfl rfl
theorem in_R_9 : u_lay R_R T_R 9 ∈ zWS := zin_t1 77 rfl rfl
theorem in_R_10 : u_lay R_R T_R 10 ∈ zWS := zin_t1 79 rfl rfl
theorem in_R : ∀ w ∈ u_ws R_R T_R 11, w ∈ zWS := by
  intro w hw
  obtain ⟨k, hk, rfl⟩ := List.mem_map.mp hw
  have hk := List.mem_range.mp hk
  match k, hk with
  | 0, _ => exact in_R_0
  | 1, _ => exact in_R_1
  | 2, _ => exact in_R_2
  | 3, _ => exact in_R_3
  | 4, _ => exact in_R_4
  | 5, _ => exact in_R_5
  | 6, _ => exact in_R_6
  | 7, _ => exact in_R_7
  | 8, _ => exact in_R_8
  | 9, _ => exact in_R_9
  | 10, _ => exact in_R_10
  | k + 11, h => exact absurd h (by omega)
theorem in_H_0 : u_lay R_H T_H 0 ∈ zWS := zin_t1 205 rfl rfl
theorem in_H_1 : u_lay R_H T_H 1 ∈ zWS := zin_t1 207 rfl rfl
theorem in_H_2 : u_lay R_H T_H 2 ∈ zWS := zin_t1 209 rfl rfl
theorem in_H_3 : u_lay R_H T_H 3 ∈ zWS := zin_t1 211 rfl rfl
theorem in_H_4 : u_lay R_H T_H 4 ∈ zWS := zin_t1 213 rfl rfl
theorem in_H : ∀ w ∈ u_ws R_H T_H 5, w ∈ zWS := by
  intro w hw
  obtain ⟨k, hk, rfl⟩ := List.mem_map.mp hw
  have hk := List.mem_range.mp hk
  match k, hk with
  | 0, _ => exact in_H_0
  | 1, _ => exact in_H_1
  | 2, _ => exact in_H_2
  | 3, _ => exact in_H_3
  | 4, _ => exact in_H_4
  | k + 5, h => exact absurd h (by omega)
theorem in_T_0 : u_lay R_T T_T 0 ∈ zWS := zin_t1 225 rfl rfl
theorem in_T_1 : u_lay R_T T_T 1 ∈ zWS := zin_t1 227 rfl rfl
theorem in_T_2 : u_lay R_T T_T 2 ∈ zWS := zin_t1 229 rfl rfl
theorem in_T : ∀ w ∈ u_ws R_T T_T 3, w ∈ zWS := by
  intro w hw
  obtain ⟨k, hk, rfl⟩ := List.mem_map.mp hw
  have hk := List.mem_range.mp hk
  match k, hk with
  | 0, _ => exact in_T_0
  | 1, _ => exact in_T_1
  | 2, _ => exact in_T_2
  | k + 3, h => exact absurd h (by omega)
theorem in_K_0 : u_lay R_K T_K 0 ∈ zWS := zin_t1 183 rfl rfl
theorem in_K_1 : u_lay R_K T_K 1 ∈ zWS := zin_t1 185 rfl rfl
theorem in_K_2 : u_lay R_K T_K 2 ∈ zWS := zin_t1 187 rfl rfl
theorem in_K : ∀ w ∈ u_ws R_K T_K 3, w ∈ zWS := by
  intro w hw
  obtain ⟨k, hk, rfl⟩ := List.mem_map.mp hw
  have hk := List.mem_range.mp hk
  match k, hk with
  | 0, _ => exact in_K_0
  | 1, _ => exact in_K_1
  | 2, _ => exact in_K_2
  | k + 3, h => exact absurd h (by omega)
theorem in_W_0 : u_lay R_W T_W 0 ∈ zWS := zin_t1 143 rfl rfl
theorem in_W_1 : u_lay R_W T_W 1 ∈ zWS := zin_t1 145 rfl rfl
theorem in_W_2 : u_lay R_W T_W 2 ∈ zWS := zin_t1 147 rfl rfl
theorem in_W_3 : u_lay R_W T_W 3 ∈ zWS := zin_t1 149 rfl rfl
theorem in_W_4 : u_lay R_W T_W 4 ∈ zWS := zin_t1 151 rfl rfl
theorem in_W_5 : u_lay R_W T_W 5 ∈ zWS := zin_t1 153 rfl rfl
theorem in_W_6 : u_lay R_W T_W 6 ∈ zWS := zin_t1 155 rfl rfl
theorem in_W : ∀ w ∈ u_ws R_W T_W 7, w ∈ zWS := by
  intro w hw
  obtain ⟨k, hk, rfl⟩ := List.mem_map.mp hw
  have hk := List.mem_range.mp hk
  match k, hk with
  | 0, _ => exact in_W_0
  | 1, _ => exact in_W_1
  | 2, _ => exact in_W_2
  | 3, _ => exact in_W_3
  | 4, _ => exact in_W_4
  | 5, _ => exact in_W_5
  | 6, _ => exact in_W_6
  | k + 7, h => exact absurd h (by omega)
theorem in_M_0 : u_lay R_M T_M 0 ∈ zWS := zin_t4 26 rfl rfl
theorem in_M_1 : u_lay R_M T_M 1 ∈ zWS := zin_t4 28 rfl rfl
theorem in_M_2 : u_lay R_M T_M 2 ∈ zWS := zin_t4 30 rfl rfl
theorem in_M_3 : u_lay R_M T_M 3 ∈ zWS := zin_t4 32 rfl rfl
theorem in_M_4 : u_lay R_M T_M 4 ∈ zWS := zin_t4 34 rfl rfl
theorem in_M_5 : u_lay R_M T_M 5 ∈ zWS := zin_t4 36 rfl rfl
theorem in_M_6 : u_lay R_M T_M 6 ∈ zWS := zin_t4 38 rfl rfl
theorem in_M_7 : u_lay R_M T_M 7 ∈ zWS := zin_t4 40 rfl rfl
theorem in_M_8 : u_lay R_M T_M 8 ∈ zWS := zin_t4 42 rfl rfl
theorem in_M_9 : u_lay R_M T_M 9 ∈ zWS := zin_t4 44 rfl rfl
theorem in_M_10 : u_lay R_M T_M 10 ∈ zWS := zin_t4 46 rfl rfl
theorem in_M_11 : u_lay R_M T_M 11 ∈ zWS := zin_t4 48 rfl rfl
theorem in_M_12 : u_lay R_M T_M 12 ∈ zWS := zin_t4 50 rfl rfl
theorem in_M_13 : u_lay R_M T_M 13 ∈ zWS := zin_t4 52 rfl rfl
theorem in_M_14 : u_lay R_M T_M 14 ∈ zWS := zin_t4 54 rfl rfl
theorem in_M_15 : u_lay R_M T_M 15 ∈ zWS := zin_t4 56 rfl rfl
theorem in_M_16 : u_lay R_M T_M 16 ∈ zWS := zin_t4 58 rfl rfl
theorem in_M_17 : u_lay R_M T_M 17 ∈ zWS := zin_t4 60 rfl rfl
theorem in_M_18 : u_lay R_M T_M 18 ∈ zWS := zin_t4 62 rfl rfl
theorem in_M_19 : u_lay R_M T_M 19 ∈ zWS := zin_t4 64 rfl rfl
theorem in_M_20 : u_lay R_M T_M 20 ∈ zWS := zin_t4 66 rfl rfl
theorem in_M_21 : u_lay R_M T_M 21 ∈ zWS := zin_t4 68 rfl rfl
theorem in_M : ∀ w ∈ u_ws R_M T_M 22, w ∈ zWS := by
  intro w hw
  obtain ⟨k, hk, rfl⟩ := List.mem_map.mp hw
  have hk := List.mem_range.mp hk
  match k, hk with
  | 0, _ => exact in_M_0
  | 1, _ => exact in_M_1
  | 2, _ => exact in_M_2
  | 3, _ => exact in_M_3
  | 4, _ => exact in_M_4
  | 5, _ => exact in_M_5
  | 6, _ => exact in_M_6
  | 7, _ => exact in_M_7
  | 8, _ => exact in_M_8
  | 9, _ => exact in_M_9
  | 10, _ => exact in_M_10
  | 11, _ => exact in_M_11
  | 12, _ => exact in_M_12
  | 13, _ => exact in_M_13
  | 14, _ => exact in_M_14
  | 15, _ => exact in_M_15
  | 16, _ => exact in_M_16
  | 17, _ => exact in_M_17
  | 18, _ => exact in_M_18
  | 19, _ => exact in_M_19
  | 20, _ => exact in_M_20
  | 21, _ => exact in_M_21
  | k + 22, h => exact absurd h (by omega)
theorem se_R_startSum : Cond.selects "RationalSession$Reader" y_R_startSum y_R_startSum ∈ zWS := zin_p 0 rfl rfl
theorem se_R_readTarget : Cond.selects "RationalSession$Reader" y_R_readTarget y_R_readTarget ∈ zWS := zin_p 1 rfl rfl
theorem se_R_readBeforeAtom : Cond.selects "RationalSession$Reader" y_R_readBeforeAtom y_R_readBeforeAtom ∈ zWS := zin_p 2 rfl rfl
theorem se_R_readNumber : Cond.selects "RationalSession$Reader" y_R_readNumber y_R_readNumber ∈ zWS := zin_p 3 rfl rfl
theorem se_R_endAtom : Cond.selects "RationalSession$Reader" y_R_endAtom y_R_endAtom ∈ zWS := zin_p 4 rfl rfl
theorem se_R_readOpening : Cond.selects "RationalSession$Reader" y_R_readOpening y_R_readOpening ∈ zWS := zin_p 5 rfl rfl
theorem se_R_readAfterAtom : Cond.selects "RationalSession$Reader" y_R_readAfterAtom y_R_readAfterAtom ∈ zWS := zin_p 6 rfl rfl
theorem se_R_readExponent : Cond.selects "RationalSession$Reader" y_R_readExponent y_R_readExponent ∈ zWS := zin_p 7 rfl rfl
theorem se_R_finishPower : Cond.selects "RationalSession$Reader" y_R_finishPower y_R_finishPower ∈ zWS := zin_p 8 rfl rfl
theorem se_R_startAtom : Cond.selects "RationalSession$Reader" y_R_startAtom y_R_startAtom ∈ zWS := zin_p 9 rfl rfl
theorem se_R_finishTerm : Cond.selects "RationalSession$Reader" y_R_finishTerm y_R_finishTerm ∈ zWS := zin_p 10 rfl rfl
theorem se_R_closeOpening : Cond.selects "RationalSession$Reader" y_R_closeOpening y_R_closeOpening ∈ zWS := zin_p 11 rfl rfl
theorem se_K_load : Cond.selects "RationalSession$Worker" y_K_load y_K_load ∈ zWS := zin_p 12 rfl rfl
theorem se_K_operate : Cond.selects "RationalSession$Worker" y_K_operate y_K_operate ∈ zWS := zin_p 13 rfl rfl
theorem se_P_trimFrom : Cond.selects "RationalSession$Polynomial" y_P_trimFrom y_P_trimFrom ∈ zWS := zin_p 14 rfl rfl
theorem se_W_putInto : Cond.selects "RationalSession$Workshop" y_W_putInto y_W_putInto ∈ zWS := zin_p 15 rfl rfl
theorem se_W_raise : Cond.selects "RationalSession$Workshop" y_W_raise y_W_raise ∈ zWS := zin_p 16 rfl rfl
theorem se_W_commonDivisor : Cond.selects "RationalSession$Workshop" y_W_commonDivisor y_W_commonDivisor ∈ zWS := zin_p 17 rfl rfl
theorem se_H_shapeNumberFor : Cond.selects "RationalSession$Shelf" y_H_shapeNumberFor y_H_shapeNumberFor ∈ zWS := zin_p 18 rfl rfl
theorem se_T_spell : Cond.selects "RationalSession$TextSeeker" y_T_spell y_T_spell ∈ zWS := zin_p 19 rfl rfl
theorem se_T_put : Cond.selects "RationalSession$TextSeeker" y_T_put y_T_put ∈ zWS := zin_p 20 rfl rfl
theorem se_T_spellPart : Cond.selects "RationalSession$TextSeeker" y_T_spellPart y_T_spellPart ∈ zWS := zin_p 21 rfl rfl
theorem se_T_spellNumber : Cond.selects "RationalSession$TextSeeker" y_T_spellNumber y_T_spellNumber ∈ zWS := zin_p 22 rfl rfl
theorem se_M_known : Cond.selects "RationalSessionModel" y_M_known y_M_known ∈ zWS := zin_p 23 rfl rfl
theorem se_M_digit : Cond.selects "RationalSessionModel" y_M_digit y_M_digit ∈ zWS := zin_p 24 rfl rfl
theorem se_M_name : Cond.selects "RationalSessionModel" y_M_name y_M_name ∈ zWS := zin_p 25 rfl rfl
theorem se_M_work : Cond.selects "RationalSessionModel" y_M_work y_M_work ∈ zWS := zin_p 26 rfl rfl
theorem se_M_badPlaceOf : Cond.selects "RationalSessionModel" y_M_badPlaceOf y_M_badPlaceOf ∈ zWS := zin_p 27 rfl rfl
theorem se_M_stateAt : Cond.selects "RationalSessionModel" y_M_stateAt y_M_stateAt ∈ zWS := zin_p 28 rfl rfl
theorem se_M_open : Cond.selects "RationalSessionModel" y_M_open y_M_open ∈ zWS := zin_p 29 rfl rfl
theorem se_M_begin : Cond.selects "RationalSessionModel" y_M_begin y_M_begin ∈ zWS := zin_p 30 rfl rfl
theorem se_M_close : Cond.selects "RationalSessionModel" y_M_close y_M_close ∈ zWS := zin_p 31 rfl rfl
theorem se_M_complete : Cond.selects "RationalSessionModel" y_M_complete y_M_complete ∈ zWS := zin_p 32 rfl rfl
theorem se_M_start : Cond.selects "RationalSessionModel" y_M_start y_M_start ∈ zWS := zin_p 33 rfl rfl
theorem se_M_advance : Cond.selects "RationalSessionModel" y_M_advance y_M_advance ∈ zWS := zin_p 34 rfl rfl
theorem se_M_term : Cond.selects "RationalSessionModel" y_M_term y_M_term ∈ zWS := zin_p 35 rfl rfl
theorem se_M_add : Cond.selects "RationalSessionModel" y_M_add y_M_add ∈ zWS := zin_p 36 rfl rfl
theorem se_M_blank : Cond.selects "RationalSessionModel" y_M_blank y_M_blank ∈ zWS := zin_p 37 rfl rfl
theorem se_M_product : Cond.selects "RationalSessionModel" y_M_product y_M_product ∈ zWS := zin_p 38 rfl rfl
theorem se_M_form : Cond.selects "RationalSessionModel" y_M_form y_M_form ∈ zWS := zin_p 39 rfl rfl
theorem se_M_topOf : Cond.selects "RationalSessionModel" y_M_topOf y_M_topOf ∈ zWS := zin_p 40 rfl rfl
theorem se_M_constant : Cond.selects "RationalSessionModel" y_M_constant y_M_constant ∈ zWS := zin_p 41 rfl rfl
theorem se_M_solve : Cond.selects "RationalSessionModel" y_M_solve y_M_solve ∈ zWS := zin_p 42 rfl rfl
theorem se_M_eliminate : Cond.selects "RationalSessionModel" y_M_eliminate y_M_eliminate ∈ zWS := zin_p 43 rfl rfl
theorem se_M_inverse : Cond.selects "RationalSessionModel" y_M_inverse y_M_inverse ∈ zWS := zin_p 44 rfl rfl
theorem se_M_subtract : Cond.selects "RationalSessionModel" y_M_subtract y_M_subtract ∈ zWS := zin_p 45 rfl rfl
theorem se_M_unknown : Cond.selects "RationalSessionModel" y_M_unknown y_M_unknown ∈ zWS := zin_p 46 rfl rfl
theorem se_M_copy : Cond.selects "RationalSessionModel" y_M_copy y_M_copy ∈ zWS := zin_p 47 rfl rfl
theorem se_M_closed : Cond.selects "RationalSessionModel" y_M_closed y_M_closed ∈ zWS := zin_p 48 rfl rfl
theorem se_M_derive : Cond.selects "RationalSessionModel" y_M_derive y_M_derive ∈ zWS := zin_p 49 rfl rfl
theorem se_M_substitute : Cond.selects "RationalSessionModel" y_M_substitute y_M_substitute ∈ zWS := zin_p 50 rfl rfl
theorem se_M_top : Cond.selects "RationalSessionModel" y_M_top y_M_top ∈ zWS := zin_p 51 rfl rfl
theorem se_M_put : Cond.selects "RationalSessionModel" y_M_put y_M_put ∈ zWS := zin_p 52 rfl rfl
theorem se_M_times : Cond.selects "RationalSessionModel" y_M_times y_M_times ∈ zWS := zin_p 53 rfl rfl
theorem se_M_raise : Cond.selects "RationalSessionModel" y_M_raise y_M_raise ∈ zWS := zin_p 54 rfl rfl
theorem se_M_digits : Cond.selects "RationalSessionModel" y_M_digits y_M_digits ∈ zWS := zin_p 55 rfl rfl
theorem se_M_worth : Cond.selects "RationalSessionModel" y_M_worth y_M_worth ∈ zWS := zin_p 56 rfl rfl
theorem se_M_power : Cond.selects "RationalSessionModel" y_M_power y_M_power ∈ zWS := zin_p 57 rfl rfl
theorem se_M_factor : Cond.selects "RationalSessionModel" y_M_factor y_M_factor ∈ zWS := zin_p 58 rfl rfl
theorem se_M_atom : Cond.selects "RationalSessionModel" y_M_atom y_M_atom ∈ zWS := zin_p 59 rfl rfl
theorem se_M_alike : Cond.selects "RationalSessionModel" y_M_alike y_M_alike ∈ zWS := zin_p 60 rfl rfl
theorem se_M_noLabel : Cond.selects "RationalSessionModel" y_M_noLabel y_M_noLabel ∈ zWS := zin_p 61 rfl rfl
theorem se_M_emit : Cond.selects "RationalSessionModel" y_M_emit y_M_emit ∈ zWS := zin_p 62 rfl rfl
theorem se_M_emitPolynomial : Cond.selects "RationalSessionModel" y_M_emitPolynomial y_M_emitPolynomial ∈ zWS := zin_p 63 rfl rfl
theorem se_M_emitNumber : Cond.selects "RationalSessionModel" y_M_emitNumber y_M_emitNumber ∈ zWS := zin_p 64 rfl rfl
end
section
/-! what is fixed for the whole proof: classes, array classes, the cells that may be written, the text of the line's characters -/
abbrev zM : Type := Nat → Option va_E
abbrev zE : Type := va_G × (Nat → ClassId) × (Nat → Prop) × (Nat → Nat) × (Nat → Nat)
abbrev zTy (c : Nat → ClassId) : List (ClassId × FieldType) := [(c 0, .int), (c 1, .char), (c 2, .boolean), (c 3, .object "RationalSession$Form")]
def zO : List String := ["RationalSession$Form"]
def zTx : String := "0123456789xabcds%+-*/^(),:"
def zBy : List Int32 := [48, 49, 50, 51, 52, 53, 54, 55, 56, 57, 120, 97, 98, 99, 100, 115, 37, 43, 45, 42, 47, 94, 40, 41, 44, 58]
theorem zN_tab {w : Cond} (h : w ∈ zN) : w.onTables = true := by
  have h2 := (List.mem_filter.mp h).2
  cases w <;> first | rfl | (simp [zisN] at h2)
def zJ (E : zE) (U : State) : Prop := (∀ w ∈ zN, va_Nw w U) ∧ (∀ C ∈ zO, va_AO C U) ∧ vk_R "RationalSession$Line" 19 zTx (E.2.2.2.1 0) U ∧ vk_S 1 [26] [zBy] E.2.2.2.1 E.2.2.2.2 E.2.2.1 U U.heap
theorem zJ_same {E : zE} {u U : State} (hv : u.vm = U.vm) (hh : u.heap = U.heap) (h : zJ E u) : zJ E U := by
  obtain ⟨h1, h2, h3, h4⟩ := h
  have ha : u.vm.Alike U.vm := by rw [hv]; exact Vm.Alike.refl _
  refine ⟨fun w hw => va_Nw.same (zN_tab hw) hv (h1 w hw), fun C hC => (h2 C hC).moved ha, h3.same hv.symm, ?_⟩
  rw [← hh]
  exact h4.moved ha
theorem zJ_warm {E : zE} {u U : State} (hW : u.WarmedH U.vm) (hk : ∀ q : Nat, q < u.heap.size → ¬ E.2.2.1 q → U.heap[q]? = u.heap[q]?) (h : zJ E u) : zJ E U := by
  obtain ⟨h1, h2, h3, h4⟩ := h
  refine ⟨fun w hw => ?_, fun C hC => (h2 C hC).moved hW.alike, h3.warm hW, (h4.moved hW.alike).kept hk⟩
  have h9 := h1 w hw
  have h8 := (List.mem_filter.mp hw).2
  cases w with
  | fieldLinkNest a b c d e f => exact va_Nw.warmF hW h9
  | methodLinkNest a b c d => exact va_Nw.warmM hW h9
  | _ => simp [zisN] at h8
end
section
/-! WORLDS AS FUNCTIONS: the heap and the array of locals are hidden; a goal is Z: program counter, locals, stack, world -/
def zU (M : zM) (a : Nat) (e : va_E) : zM := fun q => if q = a then some e else M q
theorem zU_eq {M : zM} {a : Nat} {e : va_E} : zU M a e a = some e := by simp [zU]
theorem zU_ne {M : zM} {a b : Nat} {e : va_E} (h : b ≠ a) : zU M a e b = M b := by simp [zU, h]
theorem zU_uu {M : zM} {a : Nat} {e e' : va_E} : zU (zU M a e) a e' = zU M a e' := by
  funext q
  by_cases h : q = a <;> simp [zU, h]
theorem zU_id {M : zM} {a : Nat} {e : va_E} (h : M a = some e) : zU M a e = M := by
  funext q
  by_cases hq : q = a
  · subst hq; simp [zU, h]
  · simp [zU, hq]
theorem zU_cm {M : zM} {a b : Nat} {e e' : va_E} (h : a ≠ b) : zU (zU M a e) b e' = zU (zU M b e') a e := by
  funext q
  by_cases h1 : q = a
  · subst h1; simp [zU, h]
  · by_cases h2 : q = b
    · subst h2; simp [zU, h1]
    · simp [zU, h1, h2]
abbrev zX : Type := Program × Launch × Env × Room × State × MethodId × Array Value × List Frame × Method × Code
/-- the heap holds the world -/
def zH (E : zE) (M : zM) (H : Heap) : Prop := ∀ (a : Nat) (e : va_E), M a = some e → E.2.2.1 a ∧ va_at E.1 vwCl (a, e) H
def zI (E : zE) (sz : Nat) (M : zM) (U : State) : Prop := U.heap.size = sz ∧ zH E M U.heap ∧ va_K E.1 vwCl (zTy E.2.1) U ∧ (∀ q : Nat, sz ≤ q → E.2.2.1 q) ∧ zJ E U
def zC (X : zX) (E : zE) (cc : ByteArray) (own : String) (nL : Nat) (ret : Option FieldType) (rm : Room) : Prop :=
  X.1.tables.exec = Jvm.exec ∧ X.2.2.2.2.2.2.2.2.2.code = cc ∧ X.2.2.2.2.2.2.2.2.2.maxLocals = nL ∧ X.2.2.2.2.1.vm.findClass own = some X.2.2.2.2.2.1.cls ∧ (∀ w ∈ zWS, w.before X.2.2.2.2.2.2.1 X.2.2.2.2.1 = true) ∧ va_K E.1 vwCl (zTy E.2.1) X.2.2.2.2.1 ∧ (∀ q : Nat, X.2.2.2.2.1.heap.size ≤ q → E.2.2.1 q) ∧ X.2.2.2.2.2.2.2.2.1.locks = false ∧ X.2.2.2.2.2.2.2.2.1.sig.returnType = ret ∧ X.2.2.2.1 = rm ∧ zJ E X.2.2.2.2.1
def Z (X : zX) (E : zE) (nL : Nat) (Q : State → Prop) (kc ks sz : Nat) (M : zM) (pc : Nat) (L : List (Nat × Value)) (st : List Value) : Prop :=
  ∀ (H : Heap) (locs : List Loc) (ls : Array Slot), H.size = sz → zH E M H → va_S E.2.2.1 X.2.2.2.2.1.heap H locs → lv_has ls nL L →
    W X.1 X.2.1 X.2.2.1 X.2.2.2.1 X.2.2.2.2.1 X.2.2.2.2.2.1 X.2.2.2.2.2.2.1 X.2.2.2.2.2.2.2.1 X.2.2.2.2.2.2.2.2.1 X.2.2.2.2.2.2.2.2.2 H locs kc ks Q (F0 X.2.2.2.2.2.1 pc ls st)
/-- a method's end: the answer, the new size, the new world -/
def zQc (E : zE) (post : Option Value → Nat → zM → Prop) : Array Value → State → Outcome → State → Prop := fun _ st oc t => (∃ (v : Option Value) (sz : Nat) (M : zM), oc = .returned v ∧ post v sz M ∧ zI E sz M t) ∧ va_F E.2.2.1 st t
/-- a method's contract -/
def zMet (E : zE) (l : Launch) (y : MethodName) (cc : ByteArray) (maxL : Nat) (ret : Option FieldType) (rm : Room) (mc ms : Nat) (av : List Value) (sz : Nat) (M : zM) (post : Option Value → Nat → zM → Prop) : Prop :=
  Met l y (Cond.code y cc maxL ret :: zWS) rm (va_Pc av (zI E sz M)) (zQc E post) mc ms E.2.2.1
def zQ (X : zX) (E : zE) (mc ms : Nat) (post : Option Value → Nat → zM → Prop) : State → Prop := MQ X.2.2.2.2.2.2.2.1 (zQc E post) X.2.2.2.2.2.2.1 X.2.2.2.2.1 mc ms E.2.2.1
theorem zH.one {E : zE} {M : zM} {H : Heap} {a : Nat} {e : va_E} (h : zH E M H) (he : M a = some e) : va_P E.1 vwCl [(a, e)] H := by
  intro k q hq
  cases k with
  | zero => cases hq; exact (h a e he).2
  | succ k => simp at hq
theorem zH.set {E : zE} {M : zM} {H H1 : Heap} {a : Nat} {e : va_E} (h : zH E M H) (hA : E.2.2.1 a) (he : va_at E.1 vwCl (a, e) H1) (oq : ∀ q : Nat, q ≠ a → H1[q]? = H[q]?) : zH E (zU M a e) H1 := by
  intro b e' hb
  by_cases hba : b = a
  · subst hba
    rw [zU_eq] at hb
    cases hb
    exact ⟨hA, he⟩
  · rw [zU_ne hba] at hb
    obtain ⟨x, y⟩ := h b e' hb
    exact ⟨x, y.kept (oq b hba)⟩
theorem zH.new {E : zE} {M : zM} {H H1 : Heap} {e : va_E} {h0 : Nat} (h : zH E M H) (hz : H.size = h0) (hA : E.2.2.1 h0) (he : va_at E.1 vwCl (h0, e) H1) (oq : ∀ q : Nat, q < h0 → H1[q]? = H[q]?) : zH E (zU M h0 e) H1 := by
  intro b e' hb
  by_cases hba : b = h0
  · subst hba
    rw [zU_eq] at hb
    cases hb
    exact ⟨hA, he⟩
  · rw [zU_ne hba] at hb
    obtain ⟨x, y⟩ := h b e' hb
    have hlt := y.lt
    exact ⟨x, y.kept (oq b (by rw [hz] at hlt; exact hlt))⟩
theorem zH.none {E : zE} {M : zM} {H : Heap} {h0 : Nat} (h : zH E M H) (hz : H.size = h0) : ∀ a : Nat, h0 ≤ a → M a = none := by
  intro a ha
  cases hm : M a with
  | none => rfl
  | some e =>
    have hlt : a < H.size := (h a e hm).2.lt
    omega
section ZR
variable {X : zX} {E : zE} {nL : Nat} {Q : State → Prop} {kc ks sz : Nat} {M : zM} {pc : Nat} {L : List (Nat × Value)} {rest : List Value} {cc : ByteArray} {own : String} {ret : Option FieldType} {rm : Room}
theorem z_iconst (C : zC X E cc own nL ret rm) {n : Int} {v : Int32} (hdg : decode cc pc = .ok (.iconst n, 1)) (hv : Int32.ofInt n = v) (kk : Z X E nL Q kc ks sz M (pc + 1) L (.int v :: rest)) : Z X E nL Q kc ks sz M pc L (rest) := fun H locs ls a1 a2 a3 a4 => lv_iconst C.1 C.2.1 hdg hv (kk H locs ls a1 a2 a3 a4)
theorem z_bipush (C : zC X E cc own nL ret rm) {n : Int} {v : Int32} (hdg : decode cc pc = .ok (.bipush n, 2)) (hv : (Int8.ofInt n).toInt32 = v) (kk : Z X E nL Q kc ks sz M (pc + 2) L (.int v :: rest)) : Z X E nL Q kc ks sz M pc L (rest) := fun H locs ls a1 a2 a3 a4 => lv_bipush C.1 C.2.1 hdg hv (kk H locs ls a1 a2 a3 a4)
theorem z_sipush (C : zC X E cc own nL ret rm) {n : Int} {v : Int32} (hdg : decode cc pc = .ok (.sipush n, 3)) (hv : (Int16.ofInt n).toInt32 = v) (kk : Z X E nL Q kc ks sz M (pc + 3) L (.int v :: rest)) : Z X E nL Q kc ks sz M pc L (rest) := fun H locs ls a1 a2 a3 a4 => lv_sipush C.1 C.2.1 hdg hv (kk H locs ls a1 a2 a3 a4)
theorem z_lconst (C : zC X E cc own nL ret rm) {n : Fin 2} {v : Int64} (hdg : decode cc pc = .ok (.lconst n, 1)) (hv : Int64.ofNat (n : Nat) = v) (kk : Z X E nL Q kc ks sz M (pc + 1) L (.long v :: rest)) : Z X E nL Q kc ks sz M pc L (rest) := fun H locs ls a1 a2 a3 a4 => lv_lconst C.1 C.2.1 hdg hv (kk H locs ls a1 a2 a3 a4)
theorem z_iadd (C : zC X E cc own nL ret rm) {x y : Int32} (hdg : decode cc pc = .ok (.iadd, 1)) (kk : Z X E nL Q kc ks sz M (pc + 1) L (.int (x + y) :: rest)) : Z X E nL Q kc ks sz M pc L (.int y :: .int x :: rest) := fun H locs ls a1 a2 a3 a4 => lv_iadd C.1 C.2.1 hdg (kk H locs ls a1 a2 a3 a4)
theorem z_isub (C : zC X E cc own nL ret rm) {x y : Int32} (hdg : decode cc pc = .ok (.isub, 1)) (kk : Z X E nL Q kc ks sz M (pc + 1) L (.int (x - y) :: rest)) : Z X E nL Q kc ks sz M pc L (.int y :: .int x :: rest) := fun H locs ls a1 a2 a3 a4 => lv_isub C.1 C.2.1 hdg (kk H locs ls a1 a2 a3 a4)
theorem z_imul (C : zC X E cc own nL ret rm) {x y : Int32} (hdg : decode cc pc = .ok (.imul, 1)) (kk : Z X E nL Q kc ks sz M (pc + 1) L (.int (x * y) :: rest)) : Z X E nL Q kc ks sz M pc L (.int y :: .int x :: rest) := fun H locs ls a1 a2 a3 a4 => lv_imul C.1 C.2.1 hdg (kk H locs ls a1 a2 a3 a4)
theorem z_iand (C : zC X E cc own nL ret rm) {x y : Int32} (hdg : decode cc pc = .ok (.iand, 1)) (kk : Z X E nL Q kc ks sz M (pc + 1) L (.int (x &&& y) :: rest)) : Z X E nL Q kc ks sz M pc L (.int y :: .int x :: rest) := fun H locs ls a1 a2 a3 a4 => lv_iand C.1 C.2.1 hdg (kk H locs ls a1 a2 a3 a4)
theorem z_ior (C : zC X E cc own nL ret rm) {x y : Int32} (hdg : decode cc pc = .ok (.ior, 1)) (kk : Z X E nL Q kc ks sz M (pc + 1) L (.int (x ||| y) :: rest)) : Z X E nL Q kc ks sz M pc L (.int y :: .int x :: rest) := fun H locs ls a1 a2 a3 a4 => lv_ior C.1 C.2.1 hdg (kk H locs ls a1 a2 a3 a4)
theorem z_ixor (C : zC X E cc own nL ret rm) {x y : Int32} (hdg : decode cc pc = .ok (.ixor, 1)) (kk : Z X E nL Q kc ks sz M (pc + 1) L (.int (x ^^^ y) :: rest)) : Z X E nL Q kc ks sz M pc L (.int y :: .int x :: rest) := fun H locs ls a1 a2 a3 a4 => lv_ixor C.1 C.2.1 hdg (kk H locs ls a1 a2 a3 a4)
theorem z_idiv (C : zC X E cc own nL ret rm) {x y : Int32} (hdg : decode cc pc = .ok (.idiv, 1)) (hne : ¬ y = 0) (kk : Z X E nL Q kc ks sz M (pc + 1) L (.int (x / y) :: rest)) : Z X E nL Q kc ks sz M pc L (.int y :: .int x :: rest) := fun H locs ls a1 a2 a3 a4 => lv_idiv C.1 C.2.1 hdg hne (kk H locs ls a1 a2 a3 a4)
theorem z_irem (C : zC X E cc own nL ret rm) {x y : Int32} (hdg : decode cc pc = .ok (.irem, 1)) (hne : ¬ y = 0) (kk : Z X E nL Q kc ks sz M (pc + 1) L (.int (x - x / y * y) :: rest)) : Z X E nL Q kc ks sz M pc L (.int y :: .int x :: rest) := fun H locs ls a1 a2 a3 a4 => lv_irem C.1 C.2.1 hdg hne (kk H locs ls a1 a2 a3 a4)
theorem z_ineg (C : zC X E cc own nL ret rm) {x : Int32} (hdg : decode cc pc = .ok (.ineg, 1)) (kk : Z X E nL Q kc ks sz M (pc + 1) L (.int (-x) :: rest)) : Z X E nL Q kc ks sz M pc L (.int x :: rest) := fun H locs ls a1 a2 a3 a4 => lv_ineg C.1 C.2.1 hdg (kk H locs ls a1 a2 a3 a4)
theorem z_ladd (C : zC X E cc own nL ret rm) {x y : Int64} (hdg : decode cc pc = .ok (.ladd, 1)) (kk : Z X E nL Q kc ks sz M (pc + 1) L (.long (x + y) :: rest)) : Z X E nL Q kc ks sz M pc L (.long y :: .long x :: rest) := fun H locs ls a1 a2 a3 a4 => lv_ladd C.1 C.2.1 hdg (kk H locs ls a1 a2 a3 a4)
theorem z_lsub (C : zC X E cc own nL ret rm) {x y : Int64} (hdg : decode cc pc = .ok (.lsub, 1)) (kk : Z X E nL Q kc ks sz M (pc + 1) L (.long (x - y) :: rest)) : Z X E nL Q kc ks sz M pc L (.long y :: .long x :: rest) := fun H locs ls a1 a2 a3 a4 => lv_lsub C.1 C.2.1 hdg (kk H locs ls a1 a2 a3 a4)
theorem z_lmul (C : zC X E cc own nL ret rm) {x y : Int64} (hdg : decode cc pc = .ok (.lmul, 1)) (kk : Z X E nL Q kc ks sz M (pc + 1) L (.long (x * y) :: rest)) : Z X E nL Q kc ks sz M pc L (.long y :: .long x :: rest) := fun H locs ls a1 a2 a3 a4 => lv_lmul C.1 C.2.1 hdg (kk H locs ls a1 a2 a3 a4)
theorem z_land (C : zC X E cc own nL ret rm) {x y : Int64} (hdg : decode cc pc = .ok (.land, 1)) (kk : Z X E nL Q kc ks sz M (pc + 1) L (.long (x &&& y) :: rest)) : Z X E nL Q kc ks sz M pc L (.long y :: .long x :: rest) := fun H locs ls a1 a2 a3 a4 => lv_land C.1 C.2.1 hdg (kk H locs ls a1 a2 a3 a4)
theorem z_lor (C : zC X E cc own nL ret rm) {x y : Int64} (hdg : decode cc pc = .ok (.lor, 1)) (kk : Z X E nL Q kc ks sz M (pc + 1) L (.long (x ||| y) :: rest)) : Z X E nL Q kc ks sz M pc L (.long y :: .long x :: rest) := fun H locs ls a1 a2 a3 a4 => lv_lor C.1 C.2.1 hdg (kk H locs ls a1 a2 a3 a4)
theorem z_lxor (C : zC X E cc own nL ret rm) {x y : Int64} (hdg : decode cc pc = .ok (.lxor, 1)) (kk : Z X E nL Q kc ks sz M (pc + 1) L (.long (x ^^^ y) :: rest)) : Z X E nL Q kc ks sz M pc L (.long y :: .long x :: rest) := fun H locs ls a1 a2 a3 a4 => lv_lxor C.1 C.2.1 hdg (kk H locs ls a1 a2 a3 a4)
theorem z_ldiv (C : zC X E cc own nL ret rm) {x y : Int64} (hdg : decode cc pc = .ok (.ldiv, 1)) (hne : ¬ y = 0) (kk : Z X E nL Q kc ks sz M (pc + 1) L (.long (x / y) :: rest)) : Z X E nL Q kc ks sz M pc L (.long y :: .long x :: rest) := fun H locs ls a1 a2 a3 a4 => lv_ldiv C.1 C.2.1 hdg hne (kk H locs ls a1 a2 a3 a4)
theorem z_lrem (C : zC X E cc own nL ret rm) {x y : Int64} (hdg : decode cc pc = .ok (.lrem, 1)) (hne : ¬ y = 0) (kk : Z X E nL Q kc ks sz M (pc + 1) L (.long (x - x / y * y) :: rest)) : Z X E nL Q kc ks sz M pc L (.long y :: .long x :: rest) := fun H locs ls a1 a2 a3 a4 => lv_lrem C.1 C.2.1 hdg hne (kk H locs ls a1 a2 a3 a4)
theorem z_lneg (C : zC X E cc own nL ret rm) {x : Int64} (hdg : decode cc pc = .ok (.lneg, 1)) (kk : Z X E nL Q kc ks sz M (pc + 1) L (.long (-x) :: rest)) : Z X E nL Q kc ks sz M pc L (.long x :: rest) := fun H locs ls a1 a2 a3 a4 => lv_lneg C.1 C.2.1 hdg (kk H locs ls a1 a2 a3 a4)
theorem z_ishl (C : zC X E cc own nL ret rm) {x y : Int32} (hdg : decode cc pc = .ok (.ishl, 1)) (kk : Z X E nL Q kc ks sz M (pc + 1) L (.int (x <<< (y &&& 31)) :: rest)) : Z X E nL Q kc ks sz M pc L (.int y :: .int x :: rest) := fun H locs ls a1 a2 a3 a4 => lv_ishl C.1 C.2.1 hdg (kk H locs ls a1 a2 a3 a4)
theorem z_ishr (C : zC X E cc own nL ret rm) {x y : Int32} (hdg : decode cc pc = .ok (.ishr, 1)) (kk : Z X E nL Q kc ks sz M (pc + 1) L (.int (x >>> (y &&& 31)) :: rest)) : Z X E nL Q kc ks sz M pc L (.int y :: .int x :: rest) := fun H locs ls a1 a2 a3 a4 => lv_ishr C.1 C.2.1 hdg (kk H locs ls a1 a2 a3 a4)
theorem z_i2l (C : zC X E cc own nL ret rm) {x : Int32} {v : Int64} (hdg : decode cc pc = .ok (.i2l, 1)) (hv : x.toInt64 = v) (kk : Z X E nL Q kc ks sz M (pc + 1) L (.long v :: rest)) : Z X E nL Q kc ks sz M pc L (.int x :: rest) := fun H locs ls a1 a2 a3 a4 => lv_i2l C.1 C.2.1 hdg hv (kk H locs ls a1 a2 a3 a4)
theorem z_l2i (C : zC X E cc own nL ret rm) {x : Int64} {v : Int32} (hdg : decode cc pc = .ok (.l2i, 1)) (hv : x.toInt32 = v) (kk : Z X E nL Q kc ks sz M (pc + 1) L (.int v :: rest)) : Z X E nL Q kc ks sz M pc L (.long x :: rest) := fun H locs ls a1 a2 a3 a4 => lv_l2i C.1 C.2.1 hdg hv (kk H locs ls a1 a2 a3 a4)
theorem z_i2b (C : zC X E cc own nL ret rm) {x : Int32} {v : Int32} (hdg : decode cc pc = .ok (.i2b, 1)) (hv : x.toInt8.toInt32 = v) (kk : Z X E nL Q kc ks sz M (pc + 1) L (.int v :: rest)) : Z X E nL Q kc ks sz M pc L (.int x :: rest) := fun H locs ls a1 a2 a3 a4 => lv_i2b C.1 C.2.1 hdg hv (kk H locs ls a1 a2 a3 a4)
theorem z_i2s (C : zC X E cc own nL ret rm) {x : Int32} {v : Int32} (hdg : decode cc pc = .ok (.i2s, 1)) (hv : x.toInt16.toInt32 = v) (kk : Z X E nL Q kc ks sz M (pc + 1) L (.int v :: rest)) : Z X E nL Q kc ks sz M pc L (.int x :: rest) := fun H locs ls a1 a2 a3 a4 => lv_i2s C.1 C.2.1 hdg hv (kk H locs ls a1 a2 a3 a4)
theorem z_i2c (C : zC X E cc own nL ret rm) {x : Int32} {v : Int32} (hdg : decode cc pc = .ok (.i2c, 1)) (hv : (x.toUInt32 % 65536).toInt32 = v) (kk : Z X E nL Q kc ks sz M (pc + 1) L (.int v :: rest)) : Z X E nL Q kc ks sz M pc L (.int x :: rest) := fun H locs ls a1 a2 a3 a4 => lv_i2c C.1 C.2.1 hdg hv (kk H locs ls a1 a2 a3 a4)
theorem z_iushr (C : zC X E cc own nL ret rm) {x y v : Int32} (hdg : decode cc pc = .ok (.iushr, 1)) (hv : (x.toUInt32 >>> (y.toUInt32 &&& Int32.toUInt32 31)).toInt32 = v) (kk : Z X E nL Q kc ks sz M (pc + 1) L (.int v :: rest)) : Z X E nL Q kc ks sz M pc L (.int y :: .int x :: rest) := fun H locs ls a1 a2 a3 a4 => lv_iushr C.1 C.2.1 hdg hv (kk H locs ls a1 a2 a3 a4)
theorem z_lushr (C : zC X E cc own nL ret rm) {x v : Int64} {y : Int32} (hdg : decode cc pc = .ok (.lushr, 1)) (hv : (x.toUInt64 >>> (y.toInt64.toUInt64 &&& Int64.toUInt64 63)).toInt64 = v) (kk : Z X E nL Q kc ks sz M (pc + 1) L (.long v :: rest)) : Z X E nL Q kc ks sz M pc L (.int y :: .long x :: rest) := fun H locs ls a1 a2 a3 a4 => lv_lushr C.1 C.2.1 hdg hv (kk H locs ls a1 a2 a3 a4)
theorem z_lshl (C : zC X E cc own nL ret rm) {x v : Int64} {y : Int32} (hdg : decode cc pc = .ok (.lshl, 1)) (hv : x <<< (y.toInt64 &&& 63) = v) (kk : Z X E nL Q kc ks sz M (pc + 1) L (.long v :: rest)) : Z X E nL Q kc ks sz M pc L (.int y :: .long x :: rest) := fun H locs ls a1 a2 a3 a4 => lv_lshl C.1 C.2.1 hdg hv (kk H locs ls a1 a2 a3 a4)
theorem z_lshr (C : zC X E cc own nL ret rm) {x v : Int64} {y : Int32} (hdg : decode cc pc = .ok (.lshr, 1)) (hv : x >>> (y.toInt64 &&& 63) = v) (kk : Z X E nL Q kc ks sz M (pc + 1) L (.long v :: rest)) : Z X E nL Q kc ks sz M pc L (.int y :: .long x :: rest) := fun H locs ls a1 a2 a3 a4 => lv_lshr C.1 C.2.1 hdg hv (kk H locs ls a1 a2 a3 a4)
theorem z_dup (C : zC X E cc own nL ret rm) {va : Value} (hdg : decode cc pc = .ok (.dup, 1)) (hva : va.category = 1) (kk : Z X E nL Q kc ks sz M (pc + 1) L (va :: va :: rest)) : Z X E nL Q kc ks sz M pc L (va :: rest) := fun H locs ls a1 a2 a3 a4 => lv_dup C.1 C.2.1 hdg hva (kk H locs ls a1 a2 a3 a4)
theorem z_pop (C : zC X E cc own nL ret rm) {va : Value} (hdg : decode cc pc = .ok (.pop, 1)) (hva : va.category = 1) (kk : Z X E nL Q kc ks sz M (pc + 1) L (rest)) : Z X E nL Q kc ks sz M pc L (va :: rest) := fun H locs ls a1 a2 a3 a4 => lv_pop C.1 C.2.1 hdg hva (kk H locs ls a1 a2 a3 a4)
theorem z_dup_x1 (C : zC X E cc own nL ret rm) {va vb : Value} (hdg : decode cc pc = .ok (.dup_x1, 1)) (hva : va.category = 1) (hvb : vb.category = 1) (kk : Z X E nL Q kc ks sz M (pc + 1) L (va :: vb :: va :: rest)) : Z X E nL Q kc ks sz M pc L (va :: vb :: rest) := fun H locs ls a1 a2 a3 a4 => lv_dup_x1 C.1 C.2.1 hdg hva hvb (kk H locs ls a1 a2 a3 a4)
theorem z_dup_x2 (C : zC X E cc own nL ret rm) {va vb vd : Value} (hdg : decode cc pc = .ok (.dup_x2, 1)) (hva : va.category = 1) (hvb : vb.category = 1) (hvd : vd.category = 1) (kk : Z X E nL Q kc ks sz M (pc + 1) L (va :: vb :: vd :: va :: rest)) : Z X E nL Q kc ks sz M pc L (va :: vb :: vd :: rest) := fun H locs ls a1 a2 a3 a4 => lv_dup_x2 C.1 C.2.1 hdg hva hvb hvd (kk H locs ls a1 a2 a3 a4)
theorem z_dup2_11 (C : zC X E cc own nL ret rm) {va vb : Value} (hdg : decode cc pc = .ok (.dup2, 1)) (hva : va.category = 1) (hvb : vb.category = 1) (kk : Z X E nL Q kc ks sz M (pc + 1) L (va :: vb :: va :: vb :: rest)) : Z X E nL Q kc ks sz M pc L (va :: vb :: rest) := fun H locs ls a1 a2 a3 a4 => lv_dup2_11 C.1 C.2.1 hdg hva hvb (kk H locs ls a1 a2 a3 a4)
theorem z_dup2_2 (C : zC X E cc own nL ret rm) {va : Value} (hdg : decode cc pc = .ok (.dup2, 1)) (hva : va.category = 2) (kk : Z X E nL Q kc ks sz M (pc + 1) L (va :: va :: rest)) : Z X E nL Q kc ks sz M pc L (va :: rest) := fun H locs ls a1 a2 a3 a4 => lv_dup2_2 C.1 C.2.1 hdg hva (kk H locs ls a1 a2 a3 a4)
theorem z_pop2_2 (C : zC X E cc own nL ret rm) {va : Value} (hdg : decode cc pc = .ok (.pop2, 1)) (hva : va.category = 2) (kk : Z X E nL Q kc ks sz M (pc + 1) L (rest)) : Z X E nL Q kc ks sz M pc L (va :: rest) := fun H locs ls a1 a2 a3 a4 => lv_pop2_2 C.1 C.2.1 hdg hva (kk H locs ls a1 a2 a3 a4)
theorem z_pop2_11 (C : zC X E cc own nL ret rm) {va vb : Value} (hdg : decode cc pc = .ok (.pop2, 1)) (hva : va.category = 1) (hvb : vb.category = 1) (kk : Z X E nL Q kc ks sz M (pc + 1) L (rest)) : Z X E nL Q kc ks sz M pc L (va :: vb :: rest) := fun H locs ls a1 a2 a3 a4 => lv_pop2_11 C.1 C.2.1 hdg hva hvb (kk H locs ls a1 a2 a3 a4)
theorem z_if_eq (C : zC X E cc own nL ret rm) {x : Int32} {off : Int} {tgt : Nat} (hdg : decode cc pc = .ok (.ifCond .eq off, 3)) (ht : (pc : Int) + off = (tgt : Int)) (kt : x = 0 → Z X E nL Q kc ks sz M tgt L rest) (kf : ¬ x = 0 → Z X E nL Q kc ks sz M (pc + 3) L rest) : Z X E nL Q kc ks sz M pc L (.int x :: rest) := fun H locs ls a1 a2 a3 a4 => lv_if_eq C.1 C.2.1 hdg ht (fun h => kt h H locs ls a1 a2 a3 a4) (fun h => kf h H locs ls a1 a2 a3 a4)
theorem z_icmp_eq (C : zC X E cc own nL ret rm) {x y : Int32} {off : Int} {tgt : Nat} (hdg : decode cc pc = .ok (.if_icmp .eq off, 3)) (ht : (pc : Int) + off = (tgt : Int)) (kt : x = y → Z X E nL Q kc ks sz M tgt L rest) (kf : ¬ x = y → Z X E nL Q kc ks sz M (pc + 3) L rest) : Z X E nL Q kc ks sz M pc L (.int y :: .int x :: rest) := fun H locs ls a1 a2 a3 a4 => lv_icmp_eq C.1 C.2.1 hdg ht (fun h => kt h H locs ls a1 a2 a3 a4) (fun h => kf h H locs ls a1 a2 a3 a4)
theorem z_if_ne (C : zC X E cc own nL ret rm) {x : Int32} {off : Int} {tgt : Nat} (hdg : decode cc pc = .ok (.ifCond .ne off, 3)) (ht : (pc : Int) + off = (tgt : Int)) (kt : ¬ x = 0 → Z X E nL Q kc ks sz M tgt L rest) (kf : x = 0 → Z X E nL Q kc ks sz M (pc + 3) L rest) : Z X E nL Q kc ks sz M pc L (.int x :: rest) := fun H locs ls a1 a2 a3 a4 => lv_if_ne C.1 C.2.1 hdg ht (fun h => kt h H locs ls a1 a2 a3 a4) (fun h => kf h H locs ls a1 a2 a3 a4)
theorem z_icmp_ne (C : zC X E cc own nL ret rm) {x y : Int32} {off : Int} {tgt : Nat} (hdg : decode cc pc = .ok (.if_icmp .ne off, 3)) (ht : (pc : Int) + off = (tgt : Int)) (kt : ¬ x = y → Z X E nL Q kc ks sz M tgt L rest) (kf : x = y → Z X E nL Q kc ks sz M (pc + 3) L rest) : Z X E nL Q kc ks sz M pc L (.int y :: .int x :: rest) := fun H locs ls a1 a2 a3 a4 => lv_icmp_ne C.1 C.2.1 hdg ht (fun h => kt h H locs ls a1 a2 a3 a4) (fun h => kf h H locs ls a1 a2 a3 a4)
theorem z_if_lt (C : zC X E cc own nL ret rm) {x : Int32} {off : Int} {tgt : Nat} (hdg : decode cc pc = .ok (.ifCond .lt off, 3)) (ht : (pc : Int) + off = (tgt : Int)) (kt : x < 0 → Z X E nL Q kc ks sz M tgt L rest) (kf : ¬ x < 0 → Z X E nL Q kc ks sz M (pc + 3) L rest) : Z X E nL Q kc ks sz M pc L (.int x :: rest) := fun H locs ls a1 a2 a3 a4 => lv_if_lt C.1 C.2.1 hdg ht (fun h => kt h H locs ls a1 a2 a3 a4) (fun h => kf h H locs ls a1 a2 a3 a4)
theorem z_icmp_lt (C : zC X E cc own nL ret rm) {x y : Int32} {off : Int} {tgt : Nat} (hdg : decode cc pc = .ok (.if_icmp .lt off, 3)) (ht : (pc : Int) + off = (tgt : Int)) (kt : x < y → Z X E nL Q kc ks sz M tgt L rest) (kf : ¬ x < y → Z X E nL Q kc ks sz M (pc + 3) L rest) : Z X E nL Q kc ks sz M pc L (.int y :: .int x :: rest) := fun H locs ls a1 a2 a3 a4 => lv_icmp_lt C.1 C.2.1 hdg ht (fun h => kt h H locs ls a1 a2 a3 a4) (fun h => kf h H locs ls a1 a2 a3 a4)
theorem z_if_ge (C : zC X E cc own nL ret rm) {x : Int32} {off : Int} {tgt : Nat} (hdg : decode cc pc = .ok (.ifCond .ge off, 3)) (ht : (pc : Int) + off = (tgt : Int)) (kt : 0 ≤ x → Z X E nL Q kc ks sz M tgt L rest) (kf : ¬ 0 ≤ x → Z X E nL Q kc ks sz M (pc + 3) L rest) : Z X E nL Q kc ks sz M pc L (.int x :: rest) := fun H locs ls a1 a2 a3 a4 => lv_if_ge C.1 C.2.1 hdg ht (fun h => kt h H locs ls a1 a2 a3 a4) (fun h => kf h H locs ls a1 a2 a3 a4)
theorem z_icmp_ge (C : zC X E cc own nL ret rm) {x y : Int32} {off : Int} {tgt : Nat} (hdg : decode cc pc = .ok (.if_icmp .ge off, 3)) (ht : (pc : Int) + off = (tgt : Int)) (kt : y ≤ x → Z X E nL Q kc ks sz M tgt L rest) (kf : ¬ y ≤ x → Z X E nL Q kc ks sz M (pc + 3) L rest) : Z X E nL Q kc ks sz M pc L (.int y :: .int x :: rest) := fun H locs ls a1 a2 a3 a4 => lv_icmp_ge C.1 C.2.1 hdg ht (fun h => kt h H locs ls a1 a2 a3 a4) (fun h => kf h H locs ls a1 a2 a3 a4)
theorem z_if_gt (C : zC X E cc own nL ret rm) {x : Int32} {off : Int} {tgt : Nat} (hdg : decode cc pc = .ok (.ifCond .gt off, 3)) (ht : (pc : Int) + off = (tgt : Int)) (kt : 0 < x → Z X E nL Q kc ks sz M tgt L rest) (kf : ¬ 0 < x → Z X E nL Q kc ks sz M (pc + 3) L rest) : Z X E nL Q kc ks sz M pc L (.int x :: rest) := fun H locs ls a1 a2 a3 a4 => lv_if_gt C.1 C.2.1 hdg ht (fun h => kt h H locs ls a1 a2 a3 a4) (fun h => kf h H locs ls a1 a2 a3 a4)
theorem z_icmp_gt (C : zC X E cc own nL ret rm) {x y : Int32} {off : Int} {tgt : Nat} (hdg : decode cc pc = .ok (.if_icmp .gt off, 3)) (ht : (pc : Int) + off = (tgt : Int)) (kt : y < x → Z X E nL Q kc ks sz M tgt L rest) (kf : ¬ y < x → Z X E nL Q kc ks sz M (pc + 3) L rest) : Z X E nL Q kc ks sz M pc L (.int y :: .int x :: rest) := fun H locs ls a1 a2 a3 a4 => lv_icmp_gt C.1 C.2.1 hdg ht (fun h => kt h H locs ls a1 a2 a3 a4) (fun h => kf h H locs ls a1 a2 a3 a4)
theorem z_if_le (C : zC X E cc own nL ret rm) {x : Int32} {off : Int} {tgt : Nat} (hdg : decode cc pc = .ok (.ifCond .le off, 3)) (ht : (pc : Int) + off = (tgt : Int)) (kt : x ≤ 0 → Z X E nL Q kc ks sz M tgt L rest) (kf : ¬ x ≤ 0 → Z X E nL Q kc ks sz M (pc + 3) L rest) : Z X E nL Q kc ks sz M pc L (.int x :: rest) := fun H locs ls a1 a2 a3 a4 => lv_if_le C.1 C.2.1 hdg ht (fun h => kt h H locs ls a1 a2 a3 a4) (fun h => kf h H locs ls a1 a2 a3 a4)
theorem z_icmp_le (C : zC X E cc own nL ret rm) {x y : Int32} {off : Int} {tgt : Nat} (hdg : decode cc pc = .ok (.if_icmp .le off, 3)) (ht : (pc : Int) + off = (tgt : Int)) (kt : x ≤ y → Z X E nL Q kc ks sz M tgt L rest) (kf : ¬ x ≤ y → Z X E nL Q kc ks sz M (pc + 3) L rest) : Z X E nL Q kc ks sz M pc L (.int y :: .int x :: rest) := fun H locs ls a1 a2 a3 a4 => lv_icmp_le C.1 C.2.1 hdg ht (fun h => kt h H locs ls a1 a2 a3 a4) (fun h => kf h H locs ls a1 a2 a3 a4)
theorem z_goto (C : zC X E cc own nL ret rm) {off : Int} {tgt : Nat} (hdg : decode cc pc = .ok (.goto off, 3)) (ht : (pc : Int) + off = (tgt : Int)) (kk : Z X E nL Q kc ks sz M tgt L rest) : Z X E nL Q kc ks sz M pc L rest := fun H locs ls a1 a2 a3 a4 => lv_goto C.1 C.2.1 hdg ht (kk H locs ls a1 a2 a3 a4)
theorem z_tableOut (C : zC X E cc own nL ret rm) {dflt lo hi : Int} {offs : Array Int} {len : Nat} {x : Int32} {tgt : Nat} (hdg : decode cc pc = .ok (.tableswitch dflt lo hi offs, len)) (h : x.toInt < lo ∨ hi < x.toInt) (ht : (pc : Int) + dflt = (tgt : Int)) (kk : Z X E nL Q kc ks sz M tgt L rest) : Z X E nL Q kc ks sz M pc L (.int x :: rest) := fun H locs ls a1 a2 a3 a4 => lv_tableOut C.1 C.2.1 hdg h ht (kk H locs ls a1 a2 a3 a4)
theorem z_tableIn (C : zC X E cc own nL ret rm) {dflt lo hi : Int} {offs : Array Int} {len : Nat} {x : Int32} {off : Int} {tgt : Nat} (hdg : decode cc pc = .ok (.tableswitch dflt lo hi offs, len)) (h1 : ¬ x.toInt < lo) (h2 : ¬ hi < x.toInt) (ho : offs[(x.toInt - lo).toNat]? = some off) (ht : (pc : Int) + off = (tgt : Int)) (kk : Z X E nL Q kc ks sz M tgt L rest) : Z X E nL Q kc ks sz M pc L (.int x :: rest) := fun H locs ls a1 a2 a3 a4 => lv_tableIn C.1 C.2.1 hdg h1 h2 ho ht (kk H locs ls a1 a2 a3 a4)
theorem z_lookup (C : zC X E cc own nL ret rm) {dflt : Int} {ps : Array (Int × Int)} {len : Nat} {x : Int32} {off : Int} {tgt : Nat} (hdg : decode cc pc = .ok (.lookupswitch dflt ps, len)) (hp : (ps.toList.zip (ps.toList.drop 1)).all (fun (a, next) => a.1 < next.1) = true) (ho : Op.lookupswitch.offset ps.toList dflt x.toInt = off) (ht : (pc : Int) + off = (tgt : Int)) (kk : Z X E nL Q kc ks sz M tgt L rest) : Z X E nL Q kc ks sz M pc L (.int x :: rest) := fun H locs ls a1 a2 a3 a4 => lv_lookup C.1 C.2.1 hdg hp ho ht (kk H locs ls a1 a2 a3 a4)
theorem z_ifnonnull (C : zC X E cc own nL ret rm) {x : Nat} {off : Int} {tgt : Nat} (hdg : decode cc pc = .ok (.ifnonnull off, 3)) (ht : (pc : Int) + off = (tgt : Int)) (kk : Z X E nL Q kc ks sz M tgt L rest) : Z X E nL Q kc ks sz M pc L (.ref x :: rest) := fun H locs ls a1 a2 a3 a4 => lv_ifnonnull C.1 C.2.1 hdg ht (kk H locs ls a1 a2 a3 a4)
theorem z_ifnull (C : zC X E cc own nL ret rm) {x : Nat} {off : Int} (hdg : decode cc pc = .ok (.ifnull off, 3)) (kk : Z X E nL Q kc ks sz M (pc + 3) L rest) : Z X E nL Q kc ks sz M pc L (.ref x :: rest) := fun H locs ls a1 a2 a3 a4 => lv_ifnull C.1 C.2.1 hdg (kk H locs ls a1 a2 a3 a4)
theorem z_null (C : zC X E cc own nL ret rm) (hdg : decode cc pc = .ok (.aconst_null, 1)) (kk : Z X E nL Q kc ks sz M (pc + 1) L (.null :: rest)) : Z X E nL Q kc ks sz M pc L rest := fun H locs ls a1 a2 a3 a4 => lv_null C.1 C.2.1 hdg (kk H locs ls a1 a2 a3 a4)
theorem z_ifnullN (C : zC X E cc own nL ret rm) {off : Int} {tgt : Nat} (hdg : decode cc pc = .ok (.ifnull off, 3)) (ht : (pc : Int) + off = (tgt : Int)) (kk : Z X E nL Q kc ks sz M tgt L rest) : Z X E nL Q kc ks sz M pc L (.null :: rest) := fun H locs ls a1 a2 a3 a4 => lv_ifnullN C.1 C.2.1 hdg ht (kk H locs ls a1 a2 a3 a4)
theorem z_ifnonnullN (C : zC X E cc own nL ret rm) {off : Int} (hdg : decode cc pc = .ok (.ifnonnull off, 3)) (kk : Z X E nL Q kc ks sz M (pc + 3) L rest) : Z X E nL Q kc ks sz M pc L (.null :: rest) := fun H locs ls a1 a2 a3 a4 => lv_ifnonnullN C.1 C.2.1 hdg (kk H locs ls a1 a2 a3 a4)
theorem z_acmp_eq (C : zC X E cc own nL ret rm) {rx ry : Option Nat} {off : Int} {tgt : Nat} (hdg : decode cc pc = .ok (.if_acmp .eq off, 3)) (ht : (pc : Int) + off = (tgt : Int)) (kt : rx = ry → Z X E nL Q kc ks sz M tgt L rest) (kf : ¬ rx = ry → Z X E nL Q kc ks sz M (pc + 3) L rest) : Z X E nL Q kc ks sz M pc L (va_rf ry :: va_rf rx :: rest) := fun H locs ls a1 a2 a3 a4 => lv_acmp_eq C.1 C.2.1 hdg ht (fun h => kt h H locs ls a1 a2 a3 a4) (fun h => kf h H locs ls a1 a2 a3 a4)
theorem z_acmp_ne (C : zC X E cc own nL ret rm) {rx ry : Option Nat} {off : Int} {tgt : Nat} (hdg : decode cc pc = .ok (.if_acmp .ne off, 3)) (ht : (pc : Int) + off = (tgt : Int)) (kt : ¬ rx = ry → Z X E nL Q kc ks sz M tgt L rest) (kf : rx = ry → Z X E nL Q kc ks sz M (pc + 3) L rest) : Z X E nL Q kc ks sz M pc L (va_rf ry :: va_rf rx :: rest) := fun H locs ls a1 a2 a3 a4 => lv_acmp_ne C.1 C.2.1 hdg ht (fun h => kt h H locs ls a1 a2 a3 a4) (fun h => kf h H locs ls a1 a2 a3 a4)
def zl : List (Nat × Value) → Nat → Option Value
  | [], _ => none
  | (j, v) :: t, i => bif Nat.beq j i then some v else zl t i
theorem zl_mem {L : List (Nat × Value)} {i : Nat} {v : Value} (h : zl L i = some v) : (i, v) ∈ L := by
  induction L with
  | nil => simp [zl] at h
  | cons q t ih =>
    obtain ⟨j, w⟩ := q
    simp only [zl] at h
    cases hb : Nat.beq j i with
    | true =>
      rw [hb] at h
      have e := Nat.eq_of_beq_eq_true hb
      subst e
      simp only [cond_true, Option.some.injEq] at h
      subst h
      exact List.mem_cons_self
    | false =>
      rw [hb] at h
      exact List.mem_cons_of_mem _ (ih h)
def zin (i : Nat) (v : Value) : List (Nat × Value) → List (Nat × Value)
  | [] => [(i, v)]
  | (j, w) :: t => bif Nat.blt i j then (i, v) :: (j, w) :: t else (j, w) :: zin i v t
theorem zin_mem {i : Nat} {v : Value} {q : Nat × Value} {l : List (Nat × Value)} (h : q ∈ zin i v l) : q ∈ (i, v) :: l := by
  induction l with
  | nil => exact h
  | cons a t ih =>
    obtain ⟨j, w⟩ := a
    simp only [zin] at h
    cases hb : Nat.blt i j with
    | true => rw [hb] at h; exact h
    | false =>
      rw [hb] at h
      rcases List.mem_cons.mp h with h | h
      · rw [h]; exact List.mem_cons_of_mem _ List.mem_cons_self
      · rcases List.mem_cons.mp (ih h) with h | h
        · rw [h]; exact List.mem_cons_self
        · exact List.mem_cons_of_mem _ (List.mem_cons_of_mem _ h)
theorem zin_has {ls : Array Slot} {nL i : Nat} {v : Value} {l : List (Nat × Value)} (h : lv_has ls nL ((i, v) :: l)) : lv_has ls nL (zin i v l) := ⟨h.1, h.2.1, fun q hq => h.2.2 q (zin_mem hq)⟩
def zst (L : List (Nat × Value)) (i : Nat) (v : Value) : List (Nat × Value) := zin i v (L.filter (fun q => !(q.1 == i) && !(q.1 + 1 == i && q.2.category == 2)))
def zst2 (L : List (Nat × Value)) (i : Nat) (v : Value) : List (Nat × Value) := zin i v (L.filter (fun q => !(q.1 == i) && (!(q.1 == i + 1) && !(q.1 + 1 == i && q.2.category == 2))))
theorem zl_at {ls : Array Slot} {i : Nat} {v : Value} (h : lv_has ls nL L) (hl : zl L i = some v) : ls[i]? = some (.val v) := h.2.2 (i, v) (zl_mem hl)
theorem z_iload_n (C : zC X E cc own nL ret rm) {f : Fin 4} {i : Nat} {x : Int32} (hdg : decode cc pc = .ok (.iload_n f, 1)) (hi : (f : Nat) = i) (hl : zl L i = some (.int x)) (kk : Z X E nL Q kc ks sz M (pc + 1) L (.int x :: rest)) : Z X E nL Q kc ks sz M pc L rest := fun H locs ls h1 h2 h3 h4 => lv_iload_n C.1 C.2.1 hdg hi (zl_at h4 hl) (kk H locs ls h1 h2 h3 h4)
theorem z_iload (C : zC X E cc own nL ret rm) {i : Nat} {x : Int32} (hdg : decode cc pc = .ok (.iload i, 2)) (hl : zl L i = some (.int x)) (kk : Z X E nL Q kc ks sz M (pc + 2) L (.int x :: rest)) : Z X E nL Q kc ks sz M pc L rest := fun H locs ls h1 h2 h3 h4 => lv_iload C.1 C.2.1 hdg (zl_at h4 hl) (kk H locs ls h1 h2 h3 h4)
theorem z_lload_n (C : zC X E cc own nL ret rm) {f : Fin 4} {i : Nat} {x : Int64} (hdg : decode cc pc = .ok (.lload_n f, 1)) (hi : (f : Nat) = i) (hl : zl L i = some (.long x)) (kk : Z X E nL Q kc ks sz M (pc + 1) L (.long x :: rest)) : Z X E nL Q kc ks sz M pc L rest := fun H locs ls h1 h2 h3 h4 => lv_lload_n C.1 C.2.1 hdg hi (zl_at h4 hl) (kk H locs ls h1 h2 h3 h4)
theorem z_lload (C : zC X E cc own nL ret rm) {i : Nat} {x : Int64} (hdg : decode cc pc = .ok (.lload i, 2)) (hl : zl L i = some (.long x)) (kk : Z X E nL Q kc ks sz M (pc + 2) L (.long x :: rest)) : Z X E nL Q kc ks sz M pc L rest := fun H locs ls h1 h2 h3 h4 => lv_lload C.1 C.2.1 hdg (zl_at h4 hl) (kk H locs ls h1 h2 h3 h4)
theorem z_aload_n (C : zC X E cc own nL ret rm) {f : Fin 4} {i : Nat} {x : Nat} (hdg : decode cc pc = .ok (.aload_n f, 1)) (hi : (f : Nat) = i) (hl : zl L i = some (.ref x)) (kk : Z X E nL Q kc ks sz M (pc + 1) L (.ref x :: rest)) : Z X E nL Q kc ks sz M pc L rest := fun H locs ls h1 h2 h3 h4 => lv_aload_n C.1 C.2.1 hdg hi (zl_at h4 hl) (kk H locs ls h1 h2 h3 h4)
theorem z_aload (C : zC X E cc own nL ret rm) {i : Nat} {x : Nat} (hdg : decode cc pc = .ok (.aload i, 2)) (hl : zl L i = some (.ref x)) (kk : Z X E nL Q kc ks sz M (pc + 2) L (.ref x :: rest)) : Z X E nL Q kc ks sz M pc L rest := fun H locs ls h1 h2 h3 h4 => lv_aload C.1 C.2.1 hdg (zl_at h4 hl) (kk H locs ls h1 h2 h3 h4)
theorem z_aload_nN (C : zC X E cc own nL ret rm) {f : Fin 4} {i : Nat} (hdg : decode cc pc = .ok (.aload_n f, 1)) (hi : (f : Nat) = i) (hl : zl L i = some .null) (kk : Z X E nL Q kc ks sz M (pc + 1) L (.null :: rest)) : Z X E nL Q kc ks sz M pc L rest := fun H locs ls h1 h2 h3 h4 => lv_aload_nN C.1 C.2.1 hdg hi (zl_at h4 hl) (kk H locs ls h1 h2 h3 h4)
theorem z_aloadN (C : zC X E cc own nL ret rm) {i : Nat} (hdg : decode cc pc = .ok (.aload i, 2)) (hl : zl L i = some .null) (kk : Z X E nL Q kc ks sz M (pc + 2) L (.null :: rest)) : Z X E nL Q kc ks sz M pc L rest := fun H locs ls h1 h2 h3 h4 => lv_aloadN C.1 C.2.1 hdg (zl_at h4 hl) (kk H locs ls h1 h2 h3 h4)
theorem z_istore_n (C : zC X E cc own nL ret rm) {f : Fin 4} {i : Nat} {x : Int32} {L' : List (Nat × Value)} (hdg : decode cc pc = .ok (.istore_n f, 1)) (hi : (f : Nat) = i) (hn : i < nL) (hL : zst L i (.int x) = L') (kk : Z X E nL Q kc ks sz M (pc + 1) L' rest) : Z X E nL Q kc ks sz M pc L (.int x :: rest) := fun H locs ls h1 h2 h3 h4 => lv_istore_n C.1 C.2.1 hdg hi h4 hn rfl (fun ls' h' => kk H locs ls' h1 h2 h3 (hL ▸ zin_has h'))
theorem z_istore (C : zC X E cc own nL ret rm) {i : Nat} {x : Int32} {L' : List (Nat × Value)} (hdg : decode cc pc = .ok (.istore i, 2)) (hn : i < nL) (hL : zst L i (.int x) = L') (kk : Z X E nL Q kc ks sz M (pc + 2) L' rest) : Z X E nL Q kc ks sz M pc L (.int x :: rest) := fun H locs ls h1 h2 h3 h4 => lv_istore C.1 C.2.1 hdg h4 hn rfl (fun ls' h' => kk H locs ls' h1 h2 h3 (hL ▸ zin_has h'))
theorem z_lstore_n (C : zC X E cc own nL ret rm) {f : Fin 4} {i : Nat} {x : Int64} {L' : List (Nat × Value)} (hdg : decode cc pc = .ok (.lstore_n f, 1)) (hi : (f : Nat) = i) (hn : i + 1 < nL) (hL : zst2 L i (.long x) = L') (kk : Z X E nL Q kc ks sz M (pc + 1) L' rest) : Z X E nL Q kc ks sz M pc L (.long x :: rest) := fun H locs ls h1 h2 h3 h4 => lv_lstore_n C.1 C.2.1 hdg hi h4 hn rfl (fun ls' h' => kk H locs ls' h1 h2 h3 (hL ▸ zin_has h'))
theorem z_lstore (C : zC X E cc own nL ret rm) {i : Nat} {x : Int64} {L' : List (Nat × Value)} (hdg : decode cc pc = .ok (.lstore i, 2)) (hn : i + 1 < nL) (hL : zst2 L i (.long x) = L') (kk : Z X E nL Q kc ks sz M (pc + 2) L' rest) : Z X E nL Q kc ks sz M pc L (.long x :: rest) := fun H locs ls h1 h2 h3 h4 => lv_lstore C.1 C.2.1 hdg h4 hn rfl (fun ls' h' => kk H locs ls' h1 h2 h3 (hL ▸ zin_has h'))
theorem z_astore_n (C : zC X E cc own nL ret rm) {f : Fin 4} {i : Nat} {x : Nat} {L' : List (Nat × Value)} (hdg : decode cc pc = .ok (.astore_n f, 1)) (hi : (f : Nat) = i) (hn : i < nL) (hL : zst L i (.ref x) = L') (kk : Z X E nL Q kc ks sz M (pc + 1) L' rest) : Z X E nL Q kc ks sz M pc L (.ref x :: rest) := fun H locs ls h1 h2 h3 h4 => lv_astore_n C.1 C.2.1 hdg hi h4 hn rfl (fun ls' h' => kk H locs ls' h1 h2 h3 (hL ▸ zin_has h'))
theorem z_astore (C : zC X E cc own nL ret rm) {i : Nat} {x : Nat} {L' : List (Nat × Value)} (hdg : decode cc pc = .ok (.astore i, 2)) (hn : i < nL) (hL : zst L i (.ref x) = L') (kk : Z X E nL Q kc ks sz M (pc + 2) L' rest) : Z X E nL Q kc ks sz M pc L (.ref x :: rest) := fun H locs ls h1 h2 h3 h4 => lv_astore C.1 C.2.1 hdg h4 hn rfl (fun ls' h' => kk H locs ls' h1 h2 h3 (hL ▸ zin_has h'))
theorem z_astore_nN (C : zC X E cc own nL ret rm) {f : Fin 4} {i : Nat} {L' : List (Nat × Value)} (hdg : decode cc pc = .ok (.astore_n f, 1)) (hi : (f : Nat) = i) (hn : i < nL) (hL : zst L i .null = L') (kk : Z X E nL Q kc ks sz M (pc + 1) L' rest) : Z X E nL Q kc ks sz M pc L (.null :: rest) := fun H locs ls h1 h2 h3 h4 => lv_astore_nN C.1 C.2.1 hdg hi h4 hn rfl (fun ls' h' => kk H locs ls' h1 h2 h3 (hL ▸ zin_has h'))
theorem z_astoreN (C : zC X E cc own nL ret rm) {i : Nat} {L' : List (Nat × Value)} (hdg : decode cc pc = .ok (.astore i, 2)) (hn : i < nL) (hL : zst L i .null = L') (kk : Z X E nL Q kc ks sz M (pc + 2) L' rest) : Z X E nL Q kc ks sz M pc L (.null :: rest) := fun H locs ls h1 h2 h3 h4 => lv_astoreN C.1 C.2.1 hdg h4 hn rfl (fun ls' h' => kk H locs ls' h1 h2 h3 (hL ▸ zin_has h'))
theorem z_iinc (C : zC X E cc own nL ret rm) {i : Nat} {n : Int} {x v : Int32} {L' : List (Nat × Value)} (hdg : decode cc pc = .ok (.iinc i n, 3)) (hl : zl L i = some (.int x)) (hv : x + Int32.ofInt n = v) (hn : i < nL) (hL : zst L i (.int v) = L') (kk : Z X E nL Q kc ks sz M (pc + 3) L' rest) : Z X E nL Q kc ks sz M pc L rest := fun H locs ls h1 h2 h3 h4 => by
  obtain ⟨k, hk⟩ := List.getElem?_of_mem (zl_mem hl)
  exact lv_iinc C.1 C.2.1 hdg h4 hk hv hn rfl (fun ls' h' => kk H locs ls' h1 h2 h3 (hL ▸ zin_has h'))
/-- fewer locals are known, by their places -/
theorem z_sub {L' : List (Nat × Value)} (ps : List Nat) (hl : lv_pick L ps = L') (kk : Z X E nL Q kc ks sz M pc L' rest) : Z X E nL Q kc ks sz M pc L rest := fun H locs ls h1 h2 h3 h4 => kk H locs ls h1 h2 h3 (lv_sub h4 ps hl)
/-- less is known of the world -/
theorem z_less {M' : zM} (h : ∀ (a : Nat) (e : va_E), M' a = some e → M a = some e) (kk : Z X E nL Q kc ks sz M' pc L rest) : Z X E nL Q kc ks sz M pc L rest := fun H locs ls h1 h2 h3 h4 => kk H locs ls h1 (fun a e he => h2 a e (h a e he)) h3 h4
theorem z_world {M' : zM} (h : M = M') (kk : Z X E nL Q kc ks sz M' pc L rest) : Z X E nL Q kc ks sz M pc L rest := h ▸ kk
/-- nothing is held from the size on -/
theorem z_fresh (kk : (∀ a : Nat, sz ≤ a → M a = none) → Z X E nL Q kc ks sz M pc L rest) : Z X E nL Q kc ks sz M pc L rest := fun H locs ls h1 h2 h3 h4 => kk (h2.none h1) H locs ls h1 h2 h3 h4
theorem z_widen {k n : Nat} (h1 : kc ≤ k) (h2 : ks ≤ n) (kk : Z X E nL Q k n sz M pc L rest) : Z X E nL Q kc ks sz M pc L rest := fun H locs ls a1 a2 a3 a4 => W.widen h1 h2 (kk H locs ls a1 a2 a3 a4)
theorem z_topi {x : Int32} (kk : ∀ y : Int32, y = x → Z X E nL Q kc ks sz M pc L (.int y :: rest)) : Z X E nL Q kc ks sz M pc L (.int x :: rest) := kk x rfl
/-- the number on top is another one -/
theorem z_top {x y : Int32} (h : x = y) (kk : Z X E nL Q kc ks sz M pc L (.int y :: rest)) : Z X E nL Q kc ks sz M pc L (.int x :: rest) := h ▸ kk
theorem z_get (C : zC X E cc own nL ret rm) {ref Cn : String} {T : u_T} {N ci index a : Nat} {fs : List Value} {v : Value} (hin : ∀ w ∈ u_ws Cn T N, w ∈ zWS) (he : M a = some (.inr (ci, fs))) (hc : vwCl[ci]? = some (Cn, T, N)) (k : Nat) (hk : k < N) (hlink : Cond.fieldLink own index ref (T k).2.1 (T k).2.2.1 ∈ zWS) (hsame : (T k).1 = ref) (hv : fs[k]? = some v) (hdg : decode cc pc = .ok (.getfield index, 3)) (kk : Z X E nL Q kc ks sz M (pc + 3) L (v :: rest)) : Z X E nL Q kc ks sz M pc L (.ref a :: rest) := fun H locs ls h1 h2 h3 h4 =>
  va_get C.1 C.2.1 C.2.2.2.2.1 hin C.2.2.2.1 C.2.2.2.2.2.1 (h2.one he) 0 rfl hc k hk (C.2.2.2.2.1 _ hlink) (fun _ h => by rw [← hsame]; exact h) hv hdg (kk H locs ls h1 h2 h3 h4)
theorem z_getN (C : zC X E cc own nL ret rm) {ref Cn host : String} {T : u_T} {N ci index a : Nat} {fs : List Value} {v : Value} (hin : ∀ w ∈ u_ws Cn T N, w ∈ zWS) (he : M a = some (.inr (ci, fs))) (hc : vwCl[ci]? = some (Cn, T, N)) (k : Nat) (hk : k < N) (hlink : Cond.fieldLinkNest own index ref (T k).2.1 (T k).2.2.1 host ∈ zN) (hsame : (T k).1 = ref) (hv : fs[k]? = some v) (hdg : decode cc pc = .ok (.getfield index, 3)) (kk : Z X E nL Q kc ks sz M (pc + 3) L (v :: rest)) : Z X E nL Q kc ks sz M pc L (.ref a :: rest) := fun H locs ls h1 h2 h3 h4 =>
  va_getN C.1 C.2.1 C.2.2.2.2.1 hin C.2.2.2.1 C.2.2.2.2.2.1 (h2.one he) 0 rfl hc k hk (va_Nw.use rfl (C.2.2.2.2.2.2.2.2.2.2.1 _ hlink)) (fun _ h => by rw [← hsame]; exact h) hv hdg (kk H locs ls h1 h2 h3 h4)
theorem z_put (C : zC X E cc own nL ret rm) {ref Cn : String} {T : u_T} {N ci index a : Nat} {fs : List Value} {v : Value} {ty : FieldType} (hin : ∀ w ∈ u_ws Cn T N, w ∈ zWS) (ty0 : Nat → FieldType) (hty : ∀ k, k < N → parseFieldDescriptor (T k).2.2.1 = some (ty0 k)) (hnm : ∀ a, a < N → ∀ b, b < N → a ≠ b → (T a).2.1 ≠ (T b).2.1) (he : M a = some (.inr (ci, fs))) (hc : vwCl[ci]? = some (Cn, T, N)) (k : Nat) (hk : k < N) (hlink : Cond.fieldLink own index ref (T k).2.1 (T k).2.2.1 ∈ zWS) (hsame : (T k).1 = ref) (hfin : (T k).2.2.2 = false) (hd : ty0 k = ty) (hn : narrow ty v = v) (hfit : fits ty v = true) (hl : k < fs.length) (hdg : decode cc pc = .ok (.putfield index, 3)) (kk : Z X E nL Q kc ks sz (zU M a (.inr (ci, fs.set k v))) (pc + 3) L rest) : Z X E nL Q kc ks sz M pc L (v :: .ref a :: rest) := by
  intro H locs ls h1 h2 h3 h4
  obtain ⟨hAa, r, q0, cell, q1, q2, q3, q4⟩ := h2 a _ he
  have hr : r = (Cn, T, N) := Option.some.inj (q0.symm.trans hc)
  subst hr
  have hts := C.2.2.2.2.1
  have hK := C.2.2.2.2.2.1
  have hap := va_apart (own := own) hts hin ty0 hty hnm hK hc
  obtain ⟨hS, hfc, kC, hkC, hkind⟩ := hK.1 ci _ hc
  obtain ⟨cf, kf, fi, f, hi, hsl⟩ := hS k hk
  have hlay := hts _ (hin _ (u_in_lay hk))
  unfold u_lay at hlay
  rw [if_neg (by rw [hfin]; decide)] at hlay
  have hst := (u_facts hfc hkC (u_lays hts hin hk) hi).1
  have h6 := u_store hfc hkC hkind hlay hi (by rw [hty k hk, hd]) hn hfit
  refine W.putK C.1 C.2.1 (f := f) ⟨C.2.2.2.1, hts _ hlink, ⟨_, _, _, by rw [← hsame]; exact hi⟩, hst⟩ (by rw [q2]; exact h6) q1 q3 (by rw [hsl]; exact k2_hasslot (q4 k hk)) rfl rfl hdg fun H' e1 e2 e3 => ?_
  rw [hsl] at e1 ⊢
  exact kk H' _ ls (e2.trans h1) (h2.set hAa ⟨_, hc, t_OB.to (V := updV (vp_V fs) k v) ⟨_, e1, q2, q3, t_set q4 hap hk v⟩ (fun j _ => vp_updV_set hl v j)⟩ e3) (h3.put e2 e3 hAa) h4
theorem z_putN (C : zC X E cc own nL ret rm) {ref Cn host : String} {T : u_T} {N ci index a : Nat} {fs : List Value} {v : Value} {ty : FieldType} (hin : ∀ w ∈ u_ws Cn T N, w ∈ zWS) (ty0 : Nat → FieldType) (hty : ∀ k, k < N → parseFieldDescriptor (T k).2.2.1 = some (ty0 k)) (hnm : ∀ a, a < N → ∀ b, b < N → a ≠ b → (T a).2.1 ≠ (T b).2.1) (he : M a = some (.inr (ci, fs))) (hc : vwCl[ci]? = some (Cn, T, N)) (k : Nat) (hk : k < N) (hlink : Cond.fieldLinkNest own index ref (T k).2.1 (T k).2.2.1 host ∈ zN) (hsame : (T k).1 = ref) (hfin : (T k).2.2.2 = false) (hd : ty0 k = ty) (hn : narrow ty v = v) (hfit : fits ty v = true) (hl : k < fs.length) (hdg : decode cc pc = .ok (.putfield index, 3)) (kk : Z X E nL Q kc ks sz (zU M a (.inr (ci, fs.set k v))) (pc + 3) L rest) : Z X E nL Q kc ks sz M pc L (v :: .ref a :: rest) := by
  intro H locs ls h1 h2 h3 h4
  obtain ⟨hAa, r, q0, cell, q1, q2, q3, q4⟩ := h2 a _ he
  have hr : r = (Cn, T, N) := Option.some.inj (q0.symm.trans hc)
  subst hr
  have hts := C.2.2.2.2.1
  have hK := C.2.2.2.2.2.1
  have hap := va_apart (own := own) hts hin ty0 hty hnm hK hc
  obtain ⟨hS, hfc, kC, hkC, hkind⟩ := hK.1 ci _ hc
  obtain ⟨cf, kf, fi, f, hi, hsl⟩ := hS k hk
  have hlay := hts _ (hin _ (u_in_lay hk))
  unfold u_lay at hlay
  rw [if_neg (by rw [hfin]; decide)] at hlay
  have hst := (u_facts hfc hkC (u_lays hts hin hk) hi).1
  have h6 := u_store hfc hkC hkind hlay hi (by rw [hty k hk, hd]) hn hfit
  refine va_WputK C.1 C.2.1 (f := f) C.2.2.2.1 (va_Nw.use rfl (C.2.2.2.2.2.2.2.2.2.2.1 _ hlink)) (by rw [← hsame]; exact hi) hst (by rw [q2]; exact h6) q1 q3 (by rw [hsl]; exact k2_hasslot (q4 k hk)) rfl rfl hdg fun H' e1 e2 e3 => ?_
  rw [hsl] at e1 ⊢
  exact kk H' _ ls (e2.trans h1) (h2.set hAa ⟨_, hc, t_OB.to (V := updV (vp_V fs) k v) ⟨_, e1, q2, q3, t_set q4 hap hk v⟩ (fun j _ => vp_updV_set hl v j)⟩ e3) (h3.put e2 e3 hAa) h4
theorem z_putF (C : zC X E cc own nL ret rm) {ref Cn : String} {T : u_T} {N ci index a : Nat} {fs : List Value} {v : Value} {ty : FieldType} (hin : ∀ w ∈ u_ws Cn T N, w ∈ zWS) (ty0 : Nat → FieldType) (hty : ∀ k, k < N → parseFieldDescriptor (T k).2.2.1 = some (ty0 k)) (hnm : ∀ a, a < N → ∀ b, b < N → a ≠ b → (T a).2.1 ≠ (T b).2.1) (hinit : X.2.2.2.2.2.2.2.2.1.name = "<init>") (he : M a = some (.inr (ci, fs))) (hc : vwCl[ci]? = some (Cn, T, N)) (k : Nat) (hk : k < N) (hlink : Cond.fieldLink own index ref (T k).2.1 (T k).2.2.1 ∈ zWS) (hsame : (T k).1 = ref) (hfin : (T k).2.2.2 = true) (hdecl : (T k).1 = own) (hd : ty0 k = ty) (hn : narrow ty v = v) (hfit : fits ty v = true) (hl : k < fs.length) (hdg : decode cc pc = .ok (.putfield index, 3)) (kk : Z X E nL Q kc ks sz (zU M a (.inr (ci, fs.set k v))) (pc + 3) L rest) : Z X E nL Q kc ks sz M pc L (v :: .ref a :: rest) := by
  intro H locs ls h1 h2 h3 h4
  obtain ⟨hAa, r, q0, cell, q1, q2, q3, q4⟩ := h2 a _ he
  have hr : r = (Cn, T, N) := Option.some.inj (q0.symm.trans hc)
  subst hr
  have hts := C.2.2.2.2.1
  have hK := C.2.2.2.2.2.1
  have hown := C.2.2.2.1
  have hap := va_apart (own := own) hts hin ty0 hty hnm hK hc
  obtain ⟨hS, hfc, kC, hkC, hkind⟩ := hK.1 ci _ hc
  obtain ⟨cf, kf, fi, f, hi, hsl⟩ := hS k hk
  have hlay := hts _ (hin _ (u_in_lay hk))
  unfold u_lay at hlay
  rw [if_pos hfin] at hlay
  have hst := (u_facts hfc hkC (u_lays hts hin hk) hi).1
  have hcf : X.2.2.2.2.2.1.cls = cf := by
    obtain ⟨_, _, c', _, _, _, -, -, hf', -, -, -, hown2, -⟩ := Cond.laysFinal_spec hlay
    have e1 : c' = cf := by have := hi.symm.trans hf'; simp at this; exact this.1.symm
    rw [hdecl] at hown2
    rw [← e1]; exact Option.some.inj (hown.symm.trans hown2)
  have h6 := u_fits hfc hkC hkind (Or.inr hlay) hi (by rw [hty k hk, hd]) hn hfit
  refine W.putFinK C.1 C.2.1 hown (hts _ hlink) (by rw [← hsame]; exact hi) hst hcf hinit (by rw [q2]; exact h6) q1 q3 (by rw [hsl]; exact k2_hasslot (q4 k hk)) rfl rfl hdg fun H' e1 e2 e3 => ?_
  rw [hsl] at e1 ⊢
  exact kk H' _ ls (e2.trans h1) (h2.set hAa ⟨_, hc, t_OB.to (V := updV (vp_V fs) k v) ⟨_, e1, q2, q3, t_set q4 hap hk v⟩ (fun j _ => vp_updV_set hl v j)⟩ e3) (h3.put e2 e3 hAa) h4
theorem z_alen (C : zC X E cc own nL ret rm) {a : Nat} {cA : ClassId} {x : vp_A} (ha : M a = some (.inl (cA, x))) (t0 : Nat) {ty : FieldType} (ht : (zTy E.2.1)[t0]? = some (cA, ty)) {v : Int32} (hv : Int32.ofNat x.1 = v) (hdg : decode cc pc = .ok (.arraylength, 1)) (kk : Z X E nL Q kc ks sz M (pc + 1) L (.int v :: rest)) : Z X E nL Q kc ks sz M pc L (.ref a :: rest) := fun H locs ls h1 h2 h3 h4 =>
  va_alen C.1 C.2.1 C.2.2.2.2.2.1 (h2.one ha) 0 t0 rfl ht hv hdg (kk H locs ls h1 h2 h3 h4)
theorem z_iald (C : zC X E cc own nL ret rm) {a : Nat} {cA : ClassId} {n : Nat} {f : Nat → Int32} (ha : M a = some (.inl (cA, n, .inl f))) (t0 : Nat) (ht : (zTy E.2.1)[t0]? = some (cA, .int)) {i : Int32} (j : Nat) (hi : i = nI j) (hj : j < n) (hn : n < 2 ^ 31) (hdg : decode cc pc = .ok (.iaload, 1)) (kk : Z X E nL Q kc ks sz M (pc + 1) L (.int (f j) :: rest)) : Z X E nL Q kc ks sz M pc L (.int i :: .ref a :: rest) := fun H locs ls h1 h2 h3 h4 => by
  subst hi
  refine va_iald C.1 C.2.1 C.2.2.2.2.2.1 (h2.one ha) 0 t0 rfl ht (vp_in_nI hj hn) hdg ?_
  rw [nI_clamp (by omega)]
  exact kk H locs ls h1 h2 h3 h4
theorem z_cald (C : zC X E cc own nL ret rm) {a : Nat} {cA : ClassId} {n : Nat} {f : Nat → Int32} (ha : M a = some (.inl (cA, n, .inl f))) (t0 : Nat) (ht : (zTy E.2.1)[t0]? = some (cA, .char)) {i : Int32} (j : Nat) (hi : i = nI j) (hj : j < n) (hn : n < 2 ^ 31) (hdg : decode cc pc = .ok (.caload, 1)) (kk : Z X E nL Q kc ks sz M (pc + 1) L (.int (f j) :: rest)) : Z X E nL Q kc ks sz M pc L (.int i :: .ref a :: rest) := fun H locs ls h1 h2 h3 h4 => by
  subst hi
  refine va_cald C.1 C.2.1 C.2.2.2.2.2.1 (h2.one ha) 0 t0 rfl ht (vp_in_nI hj hn) hdg ?_
  rw [nI_clamp (by omega)]
  exact kk H locs ls h1 h2 h3 h4
theorem z_aald (C : zC X E cc own nL ret rm) {a : Nat} {cA : ClassId} {Cn : String} {n : Nat} {f : Nat → Option Nat} (ha : M a = some (.inl (cA, n, .inr (.inr (.inr (.inr f)))))) (t0 : Nat) (ht : (zTy E.2.1)[t0]? = some (cA, .object Cn)) {i : Int32} (j : Nat) (hi : i = nI j) (hj : j < n) (hn : n < 2 ^ 31) {v : Value} (hv : va_rf (f j) = v) (hdg : decode cc pc = .ok (.aaload, 1)) (kk : Z X E nL Q kc ks sz M (pc + 1) L (v :: rest)) : Z X E nL Q kc ks sz M pc L (.int i :: .ref a :: rest) := fun H locs ls h1 h2 h3 h4 => by
  subst hi
  subst hv
  refine va_aldq C.1 C.2.1 C.2.2.2.2.2.1 (h2.one ha) 0 t0 rfl ht (vp_in_nI hj hn) hdg ?_
  rw [nI_clamp (by omega)]
  exact kk H locs ls h1 h2 h3 h4
theorem z_iast (C : zC X E cc own nL ret rm) {a : Nat} {cA : ClassId} {n : Nat} {f : Nat → Int32} (ha : M a = some (.inl (cA, n, .inl f))) (t0 : Nat) (ht : (zTy E.2.1)[t0]? = some (cA, .int)) {i x : Int32} (j : Nat) (hi : i = nI j) (hj : j < n) (hn : n < 2 ^ 31) (hdg : decode cc pc = .ok (.iastore, 1)) (kk : Z X E nL Q kc ks sz (zU M a (.inl (cA, n, .inl (upd f j x)))) (pc + 1) L rest) : Z X E nL Q kc ks sz M pc L (.int x :: .int i :: .ref a :: rest) := fun H locs ls h1 h2 h3 h4 => by
  subst hi
  obtain ⟨hAa, q1⟩ := h2 a _ ha
  have hin : vp_in (nI j) n := vp_in_nI hj hn
  have hcl : (nI j).toNatClampNeg = j := nI_clamp (by omega)
  refine W.iast C.1 C.2.1 q1 ((C.2.2.2.2.2.1.2 t0 _ ht).1 n (fun j => .int (f j))) (fun q => by cases q) (by show ¬ (nI j < 0 ∨ (arrV _ _ _).slots.size ≤ _); rw [arrV_size]; exact hin) rfl rfl hdg fun H1 e z oq => ?_
  refine kk H1 _ ls (z.trans h1) (h2.set hAa ?_ oq) (h3.put z oq hAa) h4
  show H1[a]? = some (vp_cell _ _)
  rw [e]
  show some ((vp_cell _ _).setSlot _ _) = _
  rw [vp_cell_i, vp_cell_i, arrV_store, hcl]
  congr 2
  funext q
  by_cases hq : q = j
  · subst hq
    simp [updV, upd]
  · simp [updV, upd, hq]
theorem z_cast (C : zC X E cc own nL ret rm) {a : Nat} {cA : ClassId} {n : Nat} {f : Nat → Int32} (ha : M a = some (.inl (cA, n, .inl f))) (t0 : Nat) (ht : (zTy E.2.1)[t0]? = some (cA, .char)) {i x : Int32} (j : Nat) (hi : i = nI j) (hj : j < n) (hn : n < 2 ^ 31) (hx : vp_nar .char x = x) (hdg : decode cc pc = .ok (.castore, 1)) (kk : Z X E nL Q kc ks sz (zU M a (.inl (cA, n, .inl (upd f j x)))) (pc + 1) L rest) : Z X E nL Q kc ks sz M pc L (.int x :: .int i :: .ref a :: rest) := fun H locs ls h1 h2 h3 h4 => by
  subst hi
  obtain ⟨hAa, q1⟩ := h2 a _ ha
  have hin : vp_in (nI j) n := vp_in_nI hj hn
  have hcl : (nI j).toNatClampNeg = j := nI_clamp (by omega)
  refine W.cast C.1 C.2.1 q1 ((C.2.2.2.2.2.1.2 t0 _ ht).1 n (fun j => .int (f j))) (fun q => by cases q) (by show ¬ (nI j < 0 ∨ (arrV _ _ _).slots.size ≤ _); rw [arrV_size]; exact hin) rfl rfl hdg fun H1 e z oq => ?_
  refine kk H1 _ ls (z.trans h1) (h2.set hAa ?_ oq) (h3.put z oq hAa) h4
  show H1[a]? = some (vp_cell _ _)
  rw [e]
  show some ((vp_cell _ _).setSlot _ _) = _
  rw [vp_cell_i, vp_cell_i, arrV_store, hcl]
  congr 2
  funext q
  by_cases hq : q = j
  · subst hq
    have hx' : (narrow .char (.int x)) = .int x := by
      have h9 : narrow .char (.int x) = .int (vp_nar .char x) := rfl
      rw [h9, hx]
    simp [updV, upd, hx']
  · simp [updV, upd, hq]
/-- storing an object of the row's own class -/
theorem z_aast (C : zC X E cc own nL ret rm) {a v : Nat} {cA : ClassId} {r : vw_C} {n ci : Nat} {vs : List Value} {f : Nat → Option Nat} (ha : M a = some (.inl (cA, n, .inr (.inr (.inr (.inr f)))))) (t0 : Nat) (ht : (zTy E.2.1)[t0]? = some (cA, .object r.1)) (hv : M v = some (.inr (ci, vs))) (hc : vwCl[ci]? = some r) {i : Int32} (j : Nat) (hi : i = nI j) (hj : j < n) (hn : n < 2 ^ 31) (hdg : decode cc pc = .ok (.aastore, 1)) (kk : Z X E nL Q kc ks sz (zU M a (.inl (cA, n, .inr (.inr (.inr (.inr (va_up f j (some v)))))))) (pc + 1) L rest) : Z X E nL Q kc ks sz M pc L (.ref v :: .int i :: .ref a :: rest) := fun H locs ls h1 h2 h3 h4 => by
  subst hi
  obtain ⟨hAa, q1⟩ := h2 a _ ha
  have hin : vp_in (nI j) n := vp_in_nI hj hn
  have hcl : (nI j).toNatClampNeg = j := nI_clamp (by omega)
  have hK := C.2.2.2.2.2.1
  have h0 : ¬ nI j < 0 := fun q => hin (Or.inl q)
  obtain ⟨-, r', hr', cellV, g1, g2, g3, -⟩ := h2 v _ hv
  have hcls := (hK.1 ci r hc).2
  obtain ⟨kA, comp, k1, k2, k3, -⟩ := (hK.2 t0 _ ht).2
  have hcomp : comp = E.1.1 ci := Option.some.inj (k3.symm.trans hcls.1)
  subst hcomp
  obtain ⟨kC, hkC, -⟩ := hcls.2
  refine W.aast C.1 C.2.1 q1 (fun q h => by cases h) (fun h => by cases h) k1 k2 rfl hkC ⟨h0, by show _ < (arrV _ _ _).slots.size; rw [arrV_size, hcl]; exact hj⟩ g1 (fun q h => by rw [g3] at h; cases h) (by rw [g2]; exact hkC) (by rw [g2]; exact va_assign hcls) rfl rfl hdg fun H1 e z oq => ?_
  refine kk H1 _ ls (z.trans h1) (h2.set hAa ?_ oq) (h3.put z oq hAa) h4
  show H1[a]? = some (vp_cell _ _)
  rw [e]
  show some ((vp_cell _ _).setSlot _ _) = _
  rw [vp_cell_q, vp_cell_q, arrV_store, hcl]
  congr 2
  funext q
  by_cases hq : q = j
  · subst hq
    simp [updV, va_up, va_rf]
  · simp [updV, va_up, hq]
/-- a new object stands at the heap's end -/
theorem z_new (C : zC X E cc own nL ret rm) {Cn : String} {T : u_T} {N ci index : Nat} (hin : ∀ w ∈ u_ws Cn T N, w ∈ zWS) (ty : Nat → FieldType) (hty : ∀ k, k < N → parseFieldDescriptor (T k).2.2.1 = some (ty k)) (hcl : Cond.classLink own index Cn ∈ zWS) (hinst : Cond.instantiable Cn N ∈ zWS) (hini : Cond.initialized Cn ∈ zWS) (hc : vwCl[ci]? = some (Cn, T, N)) {fs : List Value} (hfs : ∀ j, j < N → defaultValue (ty j) = vp_V fs j) (hcells : kc + 1 ≤ rm.cells) (hslots : ks + N ≤ rm.slots) (hdg : decode cc pc = .ok (.new index, 3))
    (kk : Z X E nL Q (kc + 1) (ks + N) (sz + 1) (zU M sz (.inr (ci, fs))) (pc + 3) L (.ref sz :: rest)) : Z X E nL Q kc ks sz M pc L rest := by
  intro H locs ls h1 h2 h3 h4
  have hts := C.2.2.2.2.1
  have hKn := C.2.2.2.2.2.1.1 ci _ hc
  have hR := C.2.2.2.2.2.2.2.2.2.1
  refine W.newcK C.1 C.2.1 C.2.2.2.1 (hts _ hcl) (hts _ hinst) (hts _ hini) rfl hdg (by rw [hR]; exact hcells) (by rw [hR]; exact hslots) hKn.2.1 h1 fun H1 kC hkC e1 z1 o1 => ?_
  have hle : X.2.2.2.2.1.heap.size ≤ sz := by have := h3.1; omega
  refine kk H1 locs ls z1 (h2.new h1 (C.2.2.2.2.2.2.1 _ hle) ⟨_, hc, (u_born ty hts hin hKn hkC e1 hty).to hfs⟩ o1) ⟨by omega, fun x a1 a2 => (o1 x (by omega)).trans (h3.2.1 x a1 a2), h3.2.2⟩ h4
/-- a new array of numbers stands at the heap's end -/
theorem z_newa (C : zC X E cc own nL ret rm) {atype : ArrayType} (harr : Cond.arrayClass (newarray.typeOf atype) ∈ zWS) {ty : FieldType} (hty : newarray.typeOf atype = ty) (t0 : Nat) {cA : ClassId} (ht : (zTy E.2.1)[t0]? = some (cA, ty)) (hob : ∀ n, ty ≠ .object n) {n : Int32} (N' : Nat) {a0 : vp_A} (ha : vp_cell cA a0 = arrV cA N' (fun _ => defaultValue ty)) (hi : n = nI N') (hbytes : N' * componentBytes ty ≤ 536870912) (hsm : N' < 2 ^ 31) (hcells : kc + 1 ≤ rm.cells) (hslots : ks + N' ≤ rm.slots) (hdg : decode cc pc = .ok (.newarray atype, 2))
    (kk : Z X E nL Q (kc + 1) (ks + N') (sz + 1) (zU M sz (.inl (cA, a0))) (pc + 2) L (.ref sz :: rest)) : Z X E nL Q kc ks sz M pc L (.int n :: rest) := by
  intro H locs ls h1 h2 h3 h4
  subst hty
  subst hi
  have hts := C.2.2.2.2.1
  have hR := C.2.2.2.2.2.2.2.2.2.1
  refine va_newaK C.1 C.2.1 (hts _ harr) rfl hdg rfl (nI_pos hsm) (nI_clamp hsm) hbytes (by rw [hR]; exact hcells) (by rw [hR]; exact hslots) h1 fun H1 cA' e1 z1 o1 hAr hNm => ?_
  have hle : X.2.2.2.2.1.heap.size ≤ sz := by have := h3.1; omega
  have hRA := (C.2.2.2.2.2.1.2 t0 _ ht).2
  have hce : cA' = cA := by
    cases hq : newarray.typeOf atype with
    | object C => exact absurd hq (hob C)
    | _ =>
      simp only [hq] at hRA hNm
      exact Option.some.inj (hNm.symm.trans hRA)
  subst hce
  refine kk H1 locs ls z1 (h2.new h1 (C.2.2.2.2.2.2.1 _ hle) ?_ o1) ⟨by omega, fun x a1 a2 => (o1 x (by omega)).trans (h3.2.1 x a1 a2), h3.2.2⟩ h4
  show H1[sz]? = some (vp_cell _ _)
  rw [ha]
  exact e1
/-- a new array of references stands at the heap's end -/
theorem z_newq (C : zC X E cc own nL ret rm) {Cn : String} {index : Nat} (hclink : Cond.classLink own index Cn ∈ zWS) (hover : Cn ∈ zO) (t0 : Nat) {cA : ClassId} (ht : (zTy E.2.1)[t0]? = some (cA, .object Cn)) {n : Int32} (N' : Nat) (hi : n = nI N') (hbytes : N' * 4 ≤ 536870912) (hsm : N' < 2 ^ 31) (hcells : kc + 1 ≤ rm.cells) (hslots : ks + N' ≤ rm.slots) (hdg : decode cc pc = .ok (.anewarray index, 3))
    (kk : Z X E nL Q (kc + 1) (ks + N') (sz + 1) (zU M sz (.inl (cA, N', .inr (.inr (.inr (.inr (fun _ => none))))))) (pc + 3) L (.ref sz :: rest)) : Z X E nL Q kc ks sz M pc L (.int n :: rest) := by
  intro H locs ls h1 h2 h3 h4
  subst hi
  have hts := C.2.2.2.2.1
  have hR := C.2.2.2.2.2.2.2.2.2.1
  have hcl : (nI N').toNatClampNeg = N' := nI_clamp hsm
  refine W.anew C.1 C.2.1 C.2.2.2.1 (hts _ hclink) (va_AO.use (C.2.2.2.2.2.2.2.2.2.2.2.1 _ hover)) rfl hdg rfl (nI_pos hsm) (by rw [hcl]; exact hbytes) (by rw [hR]; exact hcells) (by rw [hR, hcl]; exact hslots) fun cA' kA comp f1 f2 f3 f4 => ?_
  have hle : X.2.2.2.2.1.heap.size ≤ sz := by have := h3.1; omega
  obtain ⟨kA', comp', k1, k2, k3, k4⟩ := (C.2.2.2.2.2.1.2 t0 _ ht).2
  have hce : cA' = cA := Option.some.inj (f1.symm.trans k4)
  subst hce
  rw [hcl]
  generalize hH1 : H.push ({ cls := cA', slots := Array.replicate N' .null, vm := .none } : Cell) = H1
  have z1 : H1.size = sz + 1 := by rw [← hH1, Array.size_push, h1]
  have e1 : H1[sz]? = some (arrV cA' N' (fun _ => .null)) := by rw [← hH1, ← h1, Array.getElem?_push_size, ← arrV_new]
  have o1 : ∀ q : Nat, q < sz → H1[q]? = H[q]? := fun q hq => by rw [← hH1, Array.getElem?_push, if_neg (by omega)]
  rw [h1]
  exact kk H1 locs ls z1 (h2.new h1 (C.2.2.2.2.2.2.1 _ hle) e1 o1) ⟨by omega, fun x a1 a2 => (o1 x (by omega)).trans (h3.2.1 x a1 a2), h3.2.2⟩ h4
theorem z_ldc (C : zC X E cc own nL ret rm) {index : Nat} {v : Int32} (hconst : Jvm.Cond.constant own index v ∈ zWS) (hdg : decode cc pc = .ok (.ldc index, 2)) (kk : Z X E nL Q kc ks sz M (pc + 2) L (.int v :: rest)) : Z X E nL Q kc ks sz M pc L rest := fun H locs ls h1 h2 h3 h4 => lv_ldc C.1 C.2.1 C.2.2.2.1 (C.2.2.2.2.1 _ hconst) hdg (kk H locs ls h1 h2 h3 h4)
theorem z_ldc2 (C : zC X E cc own nL ret rm) {index : Nat} {v : Int64} (hconst : Jvm.Cond.constantLong own index v ∈ zWS) (hdg : decode cc pc = .ok (.ldc2_w index, 3)) (kk : Z X E nL Q kc ks sz M (pc + 3) L (.long v :: rest)) : Z X E nL Q kc ks sz M pc L rest := fun H locs ls h1 h2 h3 h4 => lv_ldc2 C.1 C.2.1 C.2.2.2.1 (C.2.2.2.2.1 _ hconst) hdg (kk H locs ls h1 h2 h3 h4)
theorem z_mmax (C : zC X E cc own nL ret rm) {index : Nat} (hlink : Cond.methodLink own index Lib.Math.max.name ∈ zWS) (hstat : Cond.static Lib.Math.max.name ∈ zWS) (hini : Cond.initialized "java/lang/Math" ∈ zWS) (hcode : Cond.code Lib.Math.max.name Lib.Math.max.code 2 (some .int) ∈ zWS) (hframes : 1 ≤ rm.frames) (hlocals : (rest.map fun v => v.category).sum + 13 ≤ rm.locals) (hc : kc ≤ rm.cells) (hs : ks ≤ rm.slots) {x y : Int32} (hdg : decode cc pc = .ok (.invokestatic index, 3)) (kk : Z X E nL Q kc ks sz M (pc + 3) L (.int (if x < y then y else x) :: rest)) : Z X E nL Q kc ks sz M pc L (.int y :: .int x :: rest) := fun H locs ls h1 h2 h3 h4 => by
  have hts := C.2.2.2.2.1
  have hR := C.2.2.2.2.2.2.2.2.2.1
  exact va_mmax C.1 C.2.1 (C.2.2.1.trans h4.1.symm) C.2.2.2.1 (hts _ hlink) (hts _ hstat) (hts _ hini) (hts _ hcode) (by rw [hR]; exact hframes) (by rw [hR]; exact hlocals) (by rw [hR]; exact hc) (by rw [hR]; exact hs) hdg (kk H locs ls h1 h2 h3 h4)
theorem z_mmin (C : zC X E cc own nL ret rm) {index : Nat} (hlink : Cond.methodLink own index Lib.Math.min.name ∈ zWS) (hstat : Cond.static Lib.Math.min.name ∈ zWS) (hini : Cond.initialized "java/lang/Math" ∈ zWS) (hcode : Cond.code Lib.Math.min.name Lib.Math.min.code 2 (some .int) ∈ zWS) (hframes : 1 ≤ rm.frames) (hlocals : (rest.map fun v => v.category).sum + 13 ≤ rm.locals) (hc : kc ≤ rm.cells) (hs : ks ≤ rm.slots) {x y : Int32} (hdg : decode cc pc = .ok (.invokestatic index, 3)) (kk : Z X E nL Q kc ks sz M (pc + 3) L (.int (if y < x then y else x) :: rest)) : Z X E nL Q kc ks sz M pc L (.int y :: .int x :: rest) := fun H locs ls h1 h2 h3 h4 => by
  have hts := C.2.2.2.2.1
  have hR := C.2.2.2.2.2.2.2.2.2.1
  exact va_mmin C.1 C.2.1 (C.2.2.1.trans h4.1.symm) C.2.2.2.1 (hts _ hlink) (hts _ hstat) (hts _ hini) (hts _ hcode) (by rw [hR]; exact hframes) (by rw [hR]; exact hlocals) (by rw [hR]; exact hc) (by rw [hR]; exact hs) hdg (kk H locs ls h1 h2 h3 h4)
theorem z_mabs (C : zC X E cc own nL ret rm) {index : Nat} (hlink : Cond.methodLink own index Lib.Math.abs.name ∈ zWS) (hstat : Cond.static Lib.Math.abs.name ∈ zWS) (hini : Cond.initialized "java/lang/Math" ∈ zWS) (hcode : Cond.code Lib.Math.abs.name Lib.Math.abs.code 1 (some .int) ∈ zWS) (hframes : 1 ≤ rm.frames) (hlocals : (rest.map fun v => v.category).sum + 13 ≤ rm.locals) (hc : kc ≤ rm.cells) (hs : ks ≤ rm.slots) {x : Int32} (hdg : decode cc pc = .ok (.invokestatic index, 3)) (kk : Z X E nL Q kc ks sz M (pc + 3) L (.int (if 0 ≤ x then x else 0 - x) :: rest)) : Z X E nL Q kc ks sz M pc L (.int x :: rest) := fun H locs ls h1 h2 h3 h4 => by
  have hts := C.2.2.2.2.1
  have hR := C.2.2.2.2.2.2.2.2.2.1
  exact va_mabs C.1 C.2.1 (C.2.2.1.trans h4.1.symm) C.2.2.2.1 (hts _ hlink) (hts _ hstat) (hts _ hini) (hts _ hcode) (by rw [hR]; exact hframes) (by rw [hR]; exact hlocals) (by rw [hR]; exact hc) (by rw [hR]; exact hs) hdg (kk H locs ls h1 h2 h3 h4)
theorem z_obj (C : zC X E cc own nL ret rm) {idx a : Nat} (hlink : Cond.methodLink own idx Lib.objectInit ∈ zWS) (hinst : Cond.instanceMethod Lib.objectInit ∈ zWS) (hcode : Cond.code Lib.objectInit ⟨#[0xb1]⟩ 1 none ∈ zWS) (hd : decode cc pc = .ok (.invokespecial idx, 3)) (hframes : 1 ≤ rm.frames) (hlocals : (rest.map fun v => v.category).sum + 12 ≤ rm.locals) (kk : Z X E nL Q kc ks sz M (pc + 3) L rest) : Z X E nL Q kc ks sz M pc L (.ref a :: rest) := fun H locs ls h1 h2 h3 h4 => by
  have hts := C.2.2.2.2.1
  have hR := C.2.2.2.2.2.2.2.2.2.1
  refine W.objInit C.1 C.2.1 C.2.2.2.1 (hts _ hlink) (hts _ hinst) (hts _ hcode) rfl (h4.1.trans C.2.2.1.symm) rfl hd (by rw [hR]; exact hframes) (by show 2 * 0 + _ + 12 ≤ _; rw [hR]; omega) ?_
  exact kk H locs ls h1 h2 h3 h4
/-- the world at a method's end -/
theorem z_end (C : zC X E cc own nL ret rm) {H : Heap} {locs : List Loc} (h1 : H.size = sz) (h2 : zH E M H) (h3 : va_S E.2.2.1 X.2.2.2.2.1.heap H locs) {t : State} (ht : t.heap = H) (hW : X.2.2.2.2.1.WarmedH t.vm) : zI E sz M t := by
  refine ⟨by rw [ht]; exact h1, by rw [ht]; exact h2, va_K.moved hW.alike C.2.2.2.2.2.1, fun q hq => C.2.2.2.2.2.2.1 q (by have := h3.1; omega), zJ_warm hW (fun q a1 a2 => by rw [ht]; exact h3.2.1 q a1 a2) C.2.2.2.2.2.2.2.2.2.2⟩
theorem z_iret (C : zC X E cc own nL (some .int) rm) {post : Option Value → Nat → zM → Prop} {v : Int32} (hq : post (some (.int v)) sz M) (hdg : decode cc pc = .ok (.ireturn, 1)) : Z X E nL (zQ X E kc ks post) kc ks sz M pc L [.int v] := fun H locs ls h1 h2 h3 h4 =>
  W.iret C.1 C.2.1 C.2.2.2.2.2.2.2.2.1 (fun t ht hW => ⟨⟨_, sz, M, rfl, hq, z_end C h1 h2 h3 ht hW⟩, h3.F ht⟩) h3.2.2 hdg C.2.2.2.2.2.2.2.1
theorem z_zret {ty : FieldType} (C : zC X E cc own nL (some ty) rm) {post : Option Value → Nat → zM → Prop} {v : Int32} (hn : narrow ty (.int v) = .int v) (hq : post (some (.int v)) sz M) (hdg : decode cc pc = .ok (.ireturn, 1)) : Z X E nL (zQ X E kc ks post) kc ks sz M pc L [.int v] := fun H locs ls h1 h2 h3 h4 =>
  W.zret C.1 C.2.1 C.2.2.2.2.2.2.2.2.1 hn (fun t ht hW => ⟨⟨_, sz, M, rfl, hq, z_end C h1 h2 h3 ht hW⟩, h3.F ht⟩) h3.2.2 hdg C.2.2.2.2.2.2.2.1
theorem z_vret (C : zC X E cc own nL none rm) {post : Option Value → Nat → zM → Prop} (hq : post none sz M) (hdg : decode cc pc = .ok (.return_, 1)) : Z X E nL (zQ X E kc ks post) kc ks sz M pc L [] := fun H locs ls h1 h2 h3 h4 =>
  W.vret C.1 C.2.1 C.2.2.2.2.2.2.2.2.1 (fun t ht hW => ⟨⟨_, sz, M, rfl, hq, z_end C h1 h2 h3 ht hW⟩, h3.F ht⟩) h3.2.2 hdg C.2.2.2.2.2.2.2.1
theorem z_aret {rt : FieldType} (C : zC X E cc own nL (some rt) rm) {post : Option Value → Nat → zM → Prop} {v : Value} (hrt : (∃ n, rt = .object n) ∨ ∃ t, rt = .array t) (hv : v = .null ∨ ∃ a, v = .ref a) (hq : post (some v) sz M) (hdg : decode cc pc = .ok (.areturn, 1)) : Z X E nL (zQ X E kc ks post) kc ks sz M pc L [v] := fun H locs ls h1 h2 h3 h4 =>
  W.aret C.1 C.2.1 C.2.2.2.2.2.2.2.2.1 hrt hv (fun t ht hW => ⟨⟨_, sz, M, rfl, hq, z_end C h1 h2 h3 ht hW⟩, h3.F ht⟩) h3.2.2 hdg C.2.2.2.2.2.2.2.1
/-- a contract out of a walk -/
theorem zMet.ofZ {l : Launch} {y : MethodName} {mc ms : Nat} {av : List Value} {post : Option Value → Nat → zM → Prop} {maxL : Nat} (hy : plainName y.cls = true) (hav : (lg_sl av).length ≤ maxL)
    (body : ∀ X : zX, X.2.1 = l → X.2.2.2.2.2.2.2.2.1.name = y.name → zC X E cc y.cls maxL ret rm → Z X E maxL (zQ X E mc ms post) 0 0 sz M 0 (lv_args 0 av) []) : zMet E l y cc maxL ret rm mc ms av sz M post := by
  refine Met.ofW (cc := cc) (maxL := maxL) (ret := ret) hy rfl ?_
  intro p e s m args below meth c s₁ B hml hv
  obtain ⟨rfl, hsz, hP, hK, hA, hJ⟩ := hv
  have hts := atoms_spec (ws := Cond.code y cc maxL ret :: zWS) B.pre
  have hl := lv_entry av hav
  rw [lg_entry_eq]
  exact body (p, l, e, rm, s, m, av.toArray, below, meth, c) rfl (name_of_methodNamed B.named B.method).1 ⟨B.exec, B.bytes, hml, findClass_of_methodNamed B.named, fun w hw => hts w (List.mem_cons_of_mem _ hw), hK, fun q hq => hA q (by rw [← hsz]; exact hq), B.notSynchronized, B.returns, rfl, hJ⟩ s.heap [] _ hsz hP va_S.rf hl
theorem zI.calling {U : State} {g : JFrame} {mk : MethodId} {a : Array Value} (h : zI E sz M U) : zI E sz M (U.calling g mk a) := ⟨h.1, h.2.1, va_K.moved (u := U) (U := U.calling g mk a) (Vm.Alike.refl U.vm) h.2.2.1, h.2.2.2.1, zJ_same (u := U) (U := U.calling g mk a) rfl rfl h.2.2.2.2⟩
theorem z_enter (C : zC X E cc own nL ret rm) {H : Heap} {locs : List Loc} (h1 : H.size = sz) (h2 : zH E M H) (h3 : va_S E.2.2.1 X.2.2.2.2.1.heap H locs) : ∀ U : State, U.heap = H → X.2.2.2.2.1.WarmedH U.vm → zI E sz M U := fun _ hU hW => z_end C h1 h2 h3 hU hW
/-- what comes behind a call, of whatever kind -/
theorem z_after {H : Heap} {locs : List Loc} {ls : Array Slot} {mc ms : Nat} {st0 : List Value} {post : Option Value → Nat → zM → Prop} {a : Array Value}
    (hr : va_Run X.1 X.2.1 X.2.2.1 X.2.2.2.1 X.2.2.2.2.1 X.2.2.2.2.2.1 X.2.2.2.2.2.2.1 X.2.2.2.2.2.2.2.1 X.2.2.2.2.2.2.2.2.1 X.2.2.2.2.2.2.2.2.2 H locs kc ks mc ms (F0 X.2.2.2.2.2.1 pc ls st0) rest (zQc E post a) E.2.2.1)
    (h3 : va_S E.2.2.1 X.2.2.2.2.1.heap H locs) (h4 : lv_has ls nL L)
    (kk : ∀ (v : Option Value) (sz' : Nat) (M' : zM), post v sz' M' → Z X E nL Q (kc + mc) (ks + ms) sz' M' (pc + 3) L (v.toList ++ rest)) :
    W X.1 X.2.1 X.2.2.1 X.2.2.2.1 X.2.2.2.2.1 X.2.2.2.2.2.1 X.2.2.2.2.2.2.1 X.2.2.2.2.2.2.2.1 X.2.2.2.2.2.2.2.2.1 X.2.2.2.2.2.2.2.2.2 H locs kc ks Q (F0 X.2.2.2.2.2.1 pc ls st0) := by
  intro T hT XS
  obtain ⟨v, st₀, t, T', Lc, g0, X', hL, e1, e2, ⟨⟨v', sz', M', hv, hp, hz, hP, -⟩, hz2, hk⟩, st⟩ := hr T hT XS
  cases hv
  rw [g0] at hz2 hk
  obtain ⟨t2, a1, b1⟩ := kk v sz' M' hp T'.heap (locs ++ Lc) ls (by rw [e1]; exact hz) (by rw [e1]; exact hP) ⟨Nat.le_trans h3.1 (by rw [e1]; exact hz2), fun q q1 q2 => by rw [e1, hk q (Nat.lt_of_lt_of_le q1 h3.1) q2]; exact h3.2.1 q q1 q2, fun q hq => by
      rcases List.mem_append.mp hq with h | h
      · exact h3.2.2 q h
      · exact hL q h⟩ h4 T' rfl X'
  exact ⟨t2, st t2 a1, b1⟩
theorem z_callV (C : zC X E cc own nL ret rm) {y : MethodName} {rmc : Room} {mc ms b ci N index maxL n : Nat} {As fs : List Value} {post : Option Value → Nat → zM → Prop} {Cn : String} {T : u_T} {bytes : ByteArray} {rt : Option FieldType} (hM : zMet E X.2.1 y bytes maxL rt rmc mc ms (.ref b :: As) sz M post) (cw : CallW rm X.2.2.2.2.1 X.2.2.2.2.2.2.1 own Cn index y bytes maxL rt (Cond.code y bytes maxL rt :: zWS) rmc mc ms n) (he : M b = some (.inr (ci, fs))) (hc : vwCl[ci]? = some (Cn, T, N)) (hn : As.length = n) {st0 : List Value} (hst : st0 = As.reverse ++ .ref b :: rest) (hW : (rest.map fun v => v.category).sum ≤ 8) (hdg : decode cc pc = .ok (.invokevirtual index, 3)) (hf : kc + mc ≤ rm.cells ∧ ks + ms ≤ rm.slots)
    (kk : ∀ (v : Option Value) (sz' : Nat) (M' : zM), post v sz' M' → Z X E nL Q (kc + mc) (ks + ms) sz' M' (pc + 3) L (v.toList ++ rest)) : Z X E nL Q kc ks sz M pc L st0 := fun H locs ls h1 h2 h3 h4 => by
  have hR := C.2.2.2.2.2.2.2.2.2.1
  refine z_after (va_runV (As := As) (b := b) (rest := rest) (C := Cn) ⟨C.1, C.2.1, C.2.2.1, C.2.2.2.1, C.2.2.2.2.1⟩ hM (by rw [hR]; exact cw) ⟨fun a U g mk q => ⟨q.1, q.2.calling⟩, va_recv C.2.2.2.2.2.1 (h2.one he) hc (q0 := 0) rfl, fun U hU hW => ⟨rfl, z_enter C h1 h2 h3 U hU hW⟩⟩ rfl hn h4.1 hst (lv_room hW) hdg (by rw [hR]; exact hf)) h3 h4 kk
theorem z_callVN (C : zC X E cc own nL ret rm) {y : MethodName} {rmc : Room} {mc ms b ci N index maxL n : Nat} {As fs : List Value} {post : Option Value → Nat → zM → Prop} {Cn host : String} {T : u_T} {bytes : ByteArray} {rt : Option FieldType} (hM : zMet E X.2.1 y bytes maxL rt rmc mc ms (.ref b :: As) sz M post) (cw : va_CN rm X.2.2.2.2.1 X.2.2.2.2.2.2.1 own index y host bytes maxL rt (Cond.code y bytes maxL rt :: zWS) rmc mc ms n ∧ (Cond.instanceMethod y).before X.2.2.2.2.2.2.1 X.2.2.2.2.1 = true ∧ (Cond.selects Cn y y).before X.2.2.2.2.2.2.1 X.2.2.2.2.1 = true) (he : M b = some (.inr (ci, fs))) (hc : vwCl[ci]? = some (Cn, T, N)) (hn : As.length = n) {st0 : List Value} (hst : st0 = As.reverse ++ .ref b :: rest) (hW : (rest.map fun v => v.category).sum ≤ 8) (hdg : decode cc pc = .ok (.invokevirtual index, 3)) (hf : kc + mc ≤ rm.cells ∧ ks + ms ≤ rm.slots)
    (kk : ∀ (v : Option Value) (sz' : Nat) (M' : zM), post v sz' M' → Z X E nL Q (kc + mc) (ks + ms) sz' M' (pc + 3) L (v.toList ++ rest)) : Z X E nL Q kc ks sz M pc L st0 := fun H locs ls h1 h2 h3 h4 => by
  have hR := C.2.2.2.2.2.2.2.2.2.1
  refine z_after (va_runVN (As := As) (b := b) (rest := rest) (C := Cn) ⟨C.1, C.2.1, C.2.2.1, C.2.2.2.1, C.2.2.2.2.1⟩ hM (by rw [hR]; exact cw) ⟨fun a U g mk q => ⟨q.1, q.2.calling⟩, va_recv C.2.2.2.2.2.1 (h2.one he) hc (q0 := 0) rfl, fun U hU hW => ⟨rfl, z_enter C h1 h2 h3 U hU hW⟩⟩ rfl hn h4.1 hst (lv_room hW) hdg (by rw [hR]; exact hf)) h3 h4 kk
theorem z_callS (C : zC X E cc own nL ret rm) {y : MethodName} {rmc : Room} {mc ms index maxL n : Nat} {As : List Value} {post : Option Value → Nat → zM → Prop} {bytes : ByteArray} {rt : Option FieldType} (hM : zMet E X.2.1 y bytes maxL rt rmc mc ms As sz M post) (cw : CallB rm X.2.2.2.2.1 X.2.2.2.2.2.2.1 own index y bytes maxL rt (Cond.code y bytes maxL rt :: zWS) rmc mc ms n ∧ (Cond.static y).before X.2.2.2.2.2.2.1 X.2.2.2.2.1 = true) (hn : As.length = n) {st0 : List Value} (hst : st0 = As.reverse ++ rest) (hW : (rest.map fun v => v.category).sum ≤ 8) (hdg : decode cc pc = .ok (.invokestatic index, 3)) (hf : kc + mc ≤ rm.cells ∧ ks + ms ≤ rm.slots)
    (kk : ∀ (v : Option Value) (sz' : Nat) (M' : zM), post v sz' M' → Z X E nL Q (kc + mc) (ks + ms) sz' M' (pc + 3) L (v.toList ++ rest)) : Z X E nL Q kc ks sz M pc L st0 := fun H locs ls h1 h2 h3 h4 => by
  have hR := C.2.2.2.2.2.2.2.2.2.1
  refine z_after (va_runS (As := As) (rest := rest) ⟨C.1, C.2.1, C.2.2.1, C.2.2.2.1, C.2.2.2.2.1⟩ hM (by rw [hR]; exact cw) ⟨fun a U g mk q => ⟨q.1, q.2.calling⟩, fun U hU hW => ⟨rfl, z_enter C h1 h2 h3 U hU hW⟩⟩ rfl hn h4.1 hst (lv_room hW) hdg (by rw [hR]; exact hf)) h3 h4 kk
theorem z_callSN (C : zC X E cc own nL ret rm) {y : MethodName} {rmc : Room} {mc ms index maxL n : Nat} {As : List Value} {post : Option Value → Nat → zM → Prop} {host : String} {bytes : ByteArray} {rt : Option FieldType} (hM : zMet E X.2.1 y bytes maxL rt rmc mc ms As sz M post) (cw : va_CN rm X.2.2.2.2.1 X.2.2.2.2.2.2.1 own index y host bytes maxL rt (Cond.code y bytes maxL rt :: zWS) rmc mc ms n ∧ (Cond.static y).before X.2.2.2.2.2.2.1 X.2.2.2.2.1 = true ∧ True) (hn : As.length = n) {st0 : List Value} (hst : st0 = As.reverse ++ rest) (hW : (rest.map fun v => v.category).sum ≤ 8) (hdg : decode cc pc = .ok (.invokestatic index, 3)) (hf : kc + mc ≤ rm.cells ∧ ks + ms ≤ rm.slots)
    (kk : ∀ (v : Option Value) (sz' : Nat) (M' : zM), post v sz' M' → Z X E nL Q (kc + mc) (ks + ms) sz' M' (pc + 3) L (v.toList ++ rest)) : Z X E nL Q kc ks sz M pc L st0 := fun H locs ls h1 h2 h3 h4 => by
  have hR := C.2.2.2.2.2.2.2.2.2.1
  refine z_after (va_runSN (As := As) (rest := rest) ⟨C.1, C.2.1, C.2.2.1, C.2.2.2.1, C.2.2.2.2.1⟩ hM (by rw [hR]; exact cw) ⟨fun a U g mk q => ⟨q.1, q.2.calling⟩, fun U hU hW => ⟨rfl, z_enter C h1 h2 h3 U hU hW⟩⟩ rfl hn h4.1 hst (lv_room hW) hdg (by rw [hR]; exact hf)) h3 h4 kk
theorem z_callI (C : zC X E cc own nL ret rm) {y : MethodName} {rmc : Room} {mc ms b index maxL n : Nat} {As : List Value} {post : Option Value → Nat → zM → Prop} {bytes : ByteArray} (hM : zMet E X.2.1 y bytes maxL none rmc mc ms (.ref b :: As) sz M post) (cw : CallB rm X.2.2.2.2.1 X.2.2.2.2.2.2.1 own index y bytes maxL none (Cond.code y bytes maxL none :: zWS) rmc mc ms n ∧ y.name = "<init>" ∧ (Cond.instanceMethod y).before X.2.2.2.2.2.2.1 X.2.2.2.2.1 = true) (hn : As.length = n) {st0 : List Value} (hst : st0 = As.reverse ++ .ref b :: rest) (hW : (rest.map fun v => v.category).sum ≤ 8) (hdg : decode cc pc = .ok (.invokespecial index, 3)) (hf : kc + mc ≤ rm.cells ∧ ks + ms ≤ rm.slots)
    (kk : ∀ (v : Option Value) (sz' : Nat) (M' : zM), post v sz' M' → Z X E nL Q (kc + mc) (ks + ms) sz' M' (pc + 3) L (v.toList ++ rest)) : Z X E nL Q kc ks sz M pc L st0 := fun H locs ls h1 h2 h3 h4 => by
  have hR := C.2.2.2.2.2.2.2.2.2.1
  refine z_after (va_runI (As := As) (b := b) (rest := rest) ⟨C.1, C.2.1, C.2.2.1, C.2.2.2.1, C.2.2.2.2.1⟩ hM (by rw [hR]; exact cw) ⟨fun a U g mk q => ⟨q.1, q.2.calling⟩, fun U hU hW => ⟨rfl, z_enter C h1 h2 h3 U hU hW⟩⟩ rfl hn h4.1 hst (lv_room hW) hdg (by rw [hR]; exact hf)) h3 h4 kk
theorem z_callIN (C : zC X E cc own nL ret rm) {y : MethodName} {rmc : Room} {mc ms b index maxL n : Nat} {As : List Value} {post : Option Value → Nat → zM → Prop} {host : String} {bytes : ByteArray} (hM : zMet E X.2.1 y bytes maxL none rmc mc ms (.ref b :: As) sz M post) (cw : va_CN rm X.2.2.2.2.1 X.2.2.2.2.2.2.1 own index y host bytes maxL none (Cond.code y bytes maxL none :: zWS) rmc mc ms n ∧ y.name = "<init>" ∧ (Cond.instanceMethod y).before X.2.2.2.2.2.2.1 X.2.2.2.2.1 = true) (hn : As.length = n) {st0 : List Value} (hst : st0 = As.reverse ++ .ref b :: rest) (hW : (rest.map fun v => v.category).sum ≤ 8) (hdg : decode cc pc = .ok (.invokespecial index, 3)) (hf : kc + mc ≤ rm.cells ∧ ks + ms ≤ rm.slots)
    (kk : ∀ (v : Option Value) (sz' : Nat) (M' : zM), post v sz' M' → Z X E nL Q (kc + mc) (ks + ms) sz' M' (pc + 3) L (v.toList ++ rest)) : Z X E nL Q kc ks sz M pc L st0 := fun H locs ls h1 h2 h3 h4 => by
  have hR := C.2.2.2.2.2.2.2.2.2.1
  refine z_after (va_runIN (As := As) (b := b) (rest := rest) ⟨C.1, C.2.1, C.2.2.1, C.2.2.2.1, C.2.2.2.2.1⟩ hM (by rw [hR]; exact cw) ⟨fun a U g mk q => ⟨q.1, q.2.calling⟩, fun U hU hW => ⟨rfl, z_enter C h1 h2 h3 U hU hW⟩⟩ rfl hn h4.1 hst (lv_room hW) hdg (by rw [hR]; exact hf)) h3 h4 kk
theorem zWS_good {w : Cond} (h : w ∈ zWS) : (w.onTables && w.keeps) = true ∨ ∃ ty, w = .arrayClass ty := good_of_word (List.mem_filter.mp h).2
theorem z_cb (C : zC X E cc own nL ret rm) {y : MethodName} {bytes : ByteArray} {maxL index n mc ms : Nat} {rt : Option FieldType} {rmc : Room} (hc : Cond.code y bytes maxL rt ∈ zWS) (hl : Cond.methodLink own index y ∈ zWS) (hini : Cond.initialized y.cls ∈ zWS) (hrc : rmc.cells = mc) (hrs : rmc.slots = ms) (hd : y.cls ≠ "java/lang/invoke/MethodHandle" ∧ y.cls ≠ "java/lang/invoke/VarHandle" ∧ (parseMethodDescriptor y.desc).map (fun d => d.parameters.length) = some n) (hR : rmc.frames + 1 ≤ rm.frames ∧ 8 + (maxL + 11) + rmc.locals ≤ rm.locals) :
    CallB rm X.2.2.2.2.1 X.2.2.2.2.2.2.1 own index y bytes maxL rt (Cond.code y bytes maxL rt :: zWS) rmc mc ms n := by
  have hts := C.2.2.2.2.1
  refine callB_of n (Ts := zWS) hts (fun w hw => ?_) rfl hrc hrs (hts _ hini) (hts _ hl) hd hR
  rcases List.mem_cons.mp hw with h | h
  · subst h; exact ⟨hc, zWS_good hc⟩
  · exact ⟨h, zWS_good h⟩
theorem z_cn (C : zC X E cc own nL ret rm) {y : MethodName} {bytes : ByteArray} {maxL index n mc ms : Nat} {rt : Option FieldType} {rmc : Room} {host : String} (hc : Cond.code y bytes maxL rt ∈ zWS) (hl : Cond.methodLinkNest own index y host ∈ zN) (hini : Cond.initialized y.cls ∈ zWS) (hrc : rmc.cells = mc) (hrs : rmc.slots = ms) (hd : y.cls ≠ "java/lang/invoke/MethodHandle" ∧ y.cls ≠ "java/lang/invoke/VarHandle" ∧ (parseMethodDescriptor y.desc).map (fun d => d.parameters.length) = some n) (hR : rmc.frames + 1 ≤ rm.frames ∧ 8 + (maxL + 11) + rmc.locals ≤ rm.locals) :
    va_CN rm X.2.2.2.2.1 X.2.2.2.2.2.2.1 own index y host bytes maxL rt (Cond.code y bytes maxL rt :: zWS) rmc mc ms n := by
  have hts := C.2.2.2.2.1
  refine va_cnB n (Ts := zWS) hts (fun w hw => ?_) rfl hrc hrs (C.2.2.2.2.2.2.2.2.2.2.1 _ hl) (hts _ hini) hd hR
  rcases List.mem_cons.mp hw with h | h
  · subst h; exact ⟨hc, zWS_good hc⟩
  · exact ⟨h, zWS_good h⟩
end ZR
end
section
/-! pictures of polynomials in the world: the object at a, its row at a + 1; n places, k of them used -/
def zRet (v : Option Value) (sz : Nat) (M : zM) : Option Value → Nat → zM → Prop := fun v' s M' => v = v' ∧ sz = s ∧ M = M'
theorem z_apart {M : zM} {x y : Nat} {p : ClassId × vp_A} {q : Nat × List Value} (h1 : M x = some (.inl p)) (h2 : M y = some (.inr q)) : x ≠ y := fun e => by
  subst e
  rw [h1] at h2
  cases h2
def zp (E : zE) (M : zM) (a n k : Nat) (P : PS) : Prop := ∃ f : Nat → Int32, M a = some (.inr (3, [.ref (a + 1), .int (tI k)])) ∧ M (a + 1) = some (.inl (E.2.1 0, n, .inl f)) ∧ rep f k P ∧ k ≤ n ∧ n < 1000
/-- nothing but the cells at a and a + 1 is another -/
def zout (M M' : zM) (a : Nat) : Prop := ∀ q, q ≠ a → q ≠ a + 1 → M' q = M q
theorem zout_uu {M : zM} {a : Nat} {e e' : va_E} : zout M (zU (zU M a e) (a + 1) e') a := fun q h1 h2 => (zU_ne h2).trans (zU_ne h1)
theorem zout_u1 {M : zM} {a : Nat} {e' : va_E} : zout M (zU M (a + 1) e') a := fun _ _ h2 => zU_ne h2
theorem zout_u0 {M : zM} {a : Nat} {e' : va_E} : zout M (zU M a e') a := fun _ h1 _ => zU_ne h1
theorem zout_rf {M : zM} {a : Nat} : zout M M a := fun _ _ _ => rfl
theorem zout_tr {M M' M'' : zM} {a : Nat} (h1 : zout M M' a) (h2 : zout M' M'' a) : zout M M'' a := fun q g1 g2 => (h2 q g1 g2).trans (h1 q g1 g2)
theorem zp_ap {E : zE} {M : zM} {a n k b n' k' : Nat} {P P' : PS} (ha : zp E M a n k P) (hb : zp E M b n' k' P') : a + 1 ≠ b ∧ b + 1 ≠ a := by
  obtain ⟨f, h0, h1, -⟩ := ha
  obtain ⟨g, g0, g1, -⟩ := hb
  exact ⟨z_apart h1 g0, z_apart g1 h0⟩
theorem zp_kept {E : zE} {M M' : zM} {b n k : Nat} {P : PS} (h : zp E M b n k P) (h0 : M' b = M b) (h1 : M' (b + 1) = M (b + 1)) : zp E M' b n k P := by
  obtain ⟨f, g0, g1, g⟩ := h
  exact ⟨f, h0.trans g0, h1.trans g1, g⟩
theorem zp_out {E : zE} {M M' : zM} {a n k b n' k' : Nat} {P P' : PS} (ho : zout M M' a) (ha : zp E M a n k P) (hb : zp E M b n' k' P') (hne : b ≠ a) : zp E M' b n' k' P' := by
  obtain ⟨e1, e2⟩ := zp_ap ha hb
  exact zp_kept hb (ho b hne (by omega)) (ho (b + 1) (by omega) (by omega))
theorem zp_lt {E : zE} {M : zM} {a n k : Nat} {P : PS} (h : zp E M a n k P) : k ≤ n ∧ n < 1000 := by
  obtain ⟨f, -, -, -, h⟩ := h
  exact h
theorem zp_pol {E : zE} {M : zM} {a n k : Nat} {P : PS} (h : zp E M a n k P) : (∀ i, k ≤ i → P i = 0) ∧ ∀ m, k = m + 1 → P m ≠ 0 := by
  obtain ⟨f, -, -, h, -⟩ := h
  exact ⟨h.1, h.2.1⟩
theorem upd_eq {f : Nat → Int32} {k : Nat} {x : Int32} : upd f k x k = x := by simp [upd]
theorem upd_ne {f : Nat → Int32} {k j : Nat} {x : Int32} (h : j ≠ k) : upd f k x j = f j := by simp [upd, h]
theorem inv_up {g F : Nat → Int32} {i : Nat} {x : Int32} (hg : ∀ j, j < i → g j = F j) (hx : x = F i) : ∀ j, j < i + 1 → upd g i x j = F j := by
  intro j hj
  rcases Nat.lt_or_ge j i with q | q
  · rw [upd_ne (by omega)]; exact hg j q
  · rw [show j = i by omega, upd_eq]; exact hx
theorem inv_keep {g f : Nat → Int32} {i : Nat} {x : Int32} (hg : ∀ j, i ≤ j → g j = f j) : ∀ j, i + 1 ≤ j → upd g i x j = f j := by
  intro j hj
  rw [upd_ne (by omega)]; exact hg j (by omega)
theorem tI_gtn {i n : Nat} (hi : i < 2 ^ 30) (hn : n < 2 ^ 30) : tI n < nI i ↔ n ≤ i := by
  rw [Int32.lt_iff_toInt_lt, nI_toInt (by omega), tI_int hn]; omega
/-- the derivative -/
def ps_der (B : PS) : PS := fun i => B (i + 1) * Fin.ofNat 10007 (i + 1)
/-- Horner's way -/
def ev : Nat → PS → FF → FF
  | 0, _, _ => 0
  | k + 1, A, c => A 0 + c * ev k (ps_sh A) c
theorem fI_muln {y : FF} {i : Nat} (hi : i < 1000) : fI y * nI i - fI y * nI i / 10007 * 10007 = fI (y * Fin.ofNat 10007 i) := by
  have e : nI i = fI (Fin.ofNat 10007 i) := by
    show nI i = nI (i % 10007)
    rw [Nat.mod_eq_of_lt (by omega)]
  rw [e, fI_mul]
theorem ff_cm (a b : FF) : a * b = b * a := by grind
end
section
theorem d_P_init_0 : decode c_P_init 0 = .ok (.aload_n 0, 1) := by decide +kernel
theorem d_P_init_1 : decode c_P_init 1 = .ok (.invokespecial 3, 3) := by decide +kernel
theorem d_P_init_4 : decode c_P_init 4 = .ok (.aload_n 0, 1) := by decide +kernel
theorem d_P_init_5 : decode c_P_init 5 = .ok (.iconst (-1), 1) := by decide +kernel
theorem d_P_init_6 : decode c_P_init 6 = .ok (.putfield 9, 3) := by decide +kernel
theorem d_P_init_9 : decode c_P_init 9 = .ok (.aload_n 0, 1) := by decide +kernel
theorem d_P_init_10 : decode c_P_init 10 = .ok (.iload_n 1, 1) := by decide +kernel
theorem d_P_init_11 : decode c_P_init 11 = .ok (.iconst 1, 1) := by decide +kernel
theorem d_P_init_12 : decode c_P_init 12 = .ok (.iadd, 1) := by decide +kernel
theorem d_P_init_13 : decode c_P_init 13 = .ok (.newarray .int, 2) := by decide +kernel
theorem d_P_init_15 : decode c_P_init 15 = .ok (.putfield 15, 3) := by decide +kernel
theorem d_P_init_18 : decode c_P_init 18 = .ok (.return_, 1) := by decide +kernel
theorem d_P_setConstant_0 : decode c_P_setConstant 0 = .ok (.aload_n 0, 1) := by decide +kernel
theorem d_P_setConstant_1 : decode c_P_setConstant 1 = .ok (.getfield 15, 3) := by decide +kernel
theorem d_P_setConstant_4 : decode c_P_setConstant 4 = .ok (.iconst 0, 1) := by decide +kernel
theorem d_P_setConstant_5 : decode c_P_setConstant 5 = .ok (.iload_n 1, 1) := by decide +kernel
theorem d_P_setConstant_6 : decode c_P_setConstant 6 = .ok (.iastore, 1) := by decide +kernel
theorem d_P_setConstant_7 : decode c_P_setConstant 7 = .ok (.aload_n 0, 1) := by decide +kernel
theorem d_P_setConstant_8 : decode c_P_setConstant 8 = .ok (.iload_n 1, 1) := by decide +kernel
theorem d_P_setConstant_9 : decode c_P_setConstant 9 = .ok (.ifCond .ne 7, 3) := by decide +kernel
theorem d_P_setConstant_12 : decode c_P_setConstant 12 = .ok (.iconst (-1), 1) := by decide +kernel
theorem d_P_setConstant_13 : decode c_P_setConstant 13 = .ok (.goto 4, 3) := by decide +kernel
theorem d_P_setConstant_16 : decode c_P_setConstant 16 = .ok (.iconst 0, 1) := by decide +kernel
theorem d_P_setConstant_17 : decode c_P_setConstant 17 = .ok (.putfield 9, 3) := by decide +kernel
theorem d_P_setConstant_20 : decode c_P_setConstant 20 = .ok (.return_, 1) := by decide +kernel
theorem d_P_setLetter_0 : decode c_P_setLetter 0 = .ok (.aload_n 0, 1) := by decide +kernel
theorem d_P_setLetter_1 : decode c_P_setLetter 1 = .ok (.getfield 15, 3) := by decide +kernel
theorem d_P_setLetter_4 : decode c_P_setLetter 4 = .ok (.iconst 0, 1) := by decide +kernel
theorem d_P_setLetter_5 : decode c_P_setLetter 5 = .ok (.iconst 0, 1) := by decide +kernel
theorem d_P_setLetter_6 : decode c_P_setLetter 6 = .ok (.iastore, 1) := by decide +kernel
theorem d_P_setLetter_7 : decode c_P_setLetter 7 = .ok (.aload_n 0, 1) := by decide +kernel
theorem d_P_setLetter_8 : decode c_P_setLetter 8 = .ok (.getfield 15, 3) := by decide +kernel
theorem d_P_setLetter_11 : decode c_P_setLetter 11 = .ok (.iconst 1, 1) := by decide +kernel
theorem d_P_setLetter_12 : decode c_P_setLetter 12 = .ok (.iconst 1, 1) := by decide +kernel
theorem d_P_setLetter_13 : decode c_P_setLetter 13 = .ok (.iastore, 1) := by decide +kernel
theorem d_P_setLetter_14 : decode c_P_setLetter 14 = .ok (.aload_n 0, 1) := by decide +kernel
theorem d_P_setLetter_15 : decode c_P_setLetter 15 = .ok (.iconst 1, 1) := by decide +kernel
theorem d_P_setLetter_16 : decode c_P_setLetter 16 = .ok (.putfield 9, 3) := by decide +kernel
theorem d_P_setLetter_19 : decode c_P_setLetter 19 = .ok (.return_, 1) := by decide +kernel
theorem d_P_copy_0 : decode c_P_copy 0 = .ok (.aload_n 0, 1) := by decide +kernel
theorem d_P_copy_1 : decode c_P_copy 1 = .ok (.aload_n 1, 1) := by decide +kernel
theorem d_P_copy_2 : decode c_P_copy 2 = .ok (.getfield 9, 3) := by decide +kernel
theorem d_P_copy_5 : decode c_P_copy 5 = .ok (.aload_n 0, 1) := by decide +kernel
theorem d_P_copy_6 : decode c_P_copy 6 = .ok (.getfield 15, 3) := by decide +kernel
theorem d_P_copy_9 : decode c_P_copy 9 = .ok (.arraylength, 1) := by decide +kernel
theorem d_P_copy_10 : decode c_P_copy 10 = .ok (.iconst 1, 1) := by decide +kernel
theorem d_P_copy_11 : decode c_P_copy 11 = .ok (.isub, 1) := by decide +kernel
theorem d_P_copy_12 : decode c_P_copy 12 = .ok (.invokestatic 23, 3) := by decide +kernel
theorem d_P_copy_15 : decode c_P_copy 15 = .ok (.putfield 9, 3) := by decide +kernel
theorem d_P_copy_18 : decode c_P_copy 18 = .ok (.iconst 0, 1) := by decide +kernel
theorem d_P_copy_19 : decode c_P_copy 19 = .ok (.istore_n 2, 1) := by decide +kernel
theorem d_P_copy_20 : decode c_P_copy 20 = .ok (.iload_n 2, 1) := by decide +kernel
theorem d_P_copy_21 : decode c_P_copy 21 = .ok (.aload_n 0, 1) := by decide +kernel
theorem d_P_copy_22 : decode c_P_copy 22 = .ok (.getfield 9, 3) := by decide +kernel
theorem d_P_copy_25 : decode c_P_copy 25 = .ok (.if_icmp .gt 21, 3) := by decide +kernel
theorem d_P_copy_28 : decode c_P_copy 28 = .ok (.aload_n 0, 1) := by decide +kernel
theorem d_P_copy_29 : decode c_P_copy 29 = .ok (.getfield 15, 3) := by decide +kernel
theorem d_P_copy_32 : decode c_P_copy 32 = .ok (.iload_n 2, 1) := by decide +kernel
theorem d_P_copy_33 : decode c_P_copy 33 = .ok (.aload_n 1, 1) := by decide +kernel
theorem d_P_copy_34 : decode c_P_copy 34 = .ok (.getfield 15, 3) := by decide +kernel
theorem d_P_copy_37 : decode c_P_copy 37 = .ok (.iload_n 2, 1) := by decide +kernel
theorem d_P_copy_38 : decode c_P_copy 38 = .ok (.iaload, 1) := by decide +kernel
theorem d_P_copy_39 : decode c_P_copy 39 = .ok (.iastore, 1) := by decide +kernel
theorem d_P_copy_40 : decode c_P_copy 40 = .ok (.iinc 2 1, 3) := by decide +kernel
theorem d_P_copy_43 : decode c_P_copy 43 = .ok (.goto (-23), 3) := by decide +kernel
theorem d_P_copy_46 : decode c_P_copy 46 = .ok (.return_, 1) := by decide +kernel
theorem d_P_setProduct_0 : decode c_P_setProduct 0 = .ok (.aload_n 0, 1) := by decide +kernel
theorem d_P_setProduct_1 : decode c_P_setProduct 1 = .ok (.iconst (-1), 1) := by decide +kernel
theorem d_P_setProduct_2 : decode c_P_setProduct 2 = .ok (.putfield 9, 3) := by decide +kernel
theorem d_P_setProduct_5 : decode c_P_setProduct 5 = .ok (.aload_n 1, 1) := by decide +kernel
theorem d_P_setProduct_6 : decode c_P_setProduct 6 = .ok (.invokevirtual 29, 3) := by decide +kernel
theorem d_P_setProduct_9 : decode c_P_setProduct 9 = .ok (.ifCond .ne 10, 3) := by decide +kernel
theorem d_P_setProduct_12 : decode c_P_setProduct 12 = .ok (.aload_n 2, 1) := by decide +kernel
theorem d_P_setProduct_13 : decode c_P_setProduct 13 = .ok (.invokevirtual 29, 3) := by decide +kernel
theorem d_P_setProduct_16 : decode c_P_setProduct 16 = .ok (.ifCond .eq 4, 3) := by decide +kernel
theorem d_P_setProduct_19 : decode c_P_setProduct 19 = .ok (.return_, 1) := by decide +kernel
theorem d_P_setProduct_20 : decode c_P_setProduct 20 = .ok (.aload_n 0, 1) := by decide +kernel
theorem d_P_setProduct_21 : decode c_P_setProduct 21 = .ok (.aload_n 1, 1) := by decide +kernel
theorem d_P_setProduct_22 : decode c_P_setProduct 22 = .ok (.getfield 9, 3) := by decide +kernel
theorem d_P_setProduct_25 : decode c_P_setProduct 25 = .ok (.aload_n 2, 1) := by decide +kernel
theorem d_P_setProduct_26 : decode c_P_setProduct 26 = .ok (.getfield 9, 3) := by decide +kernel
theorem d_P_setProduct_29 : decode c_P_setProduct 29 = .ok (.iadd, 1) := by decide +kernel
theorem d_P_setProduct_30 : decode c_P_setProduct 30 = .ok (.aload_n 0, 1) := by decide +kernel
theorem d_P_setProduct_31 : decode c_P_setProduct 31 = .ok (.getfield 15, 3) := by decide +kernel
theorem d_P_setProduct_34 : decode c_P_setProduct 34 = .ok (.arraylength, 1) := by decide +kernel
theorem d_P_setProduct_35 : decode c_P_setProduct 35 = .ok (.iconst 1, 1) := by decide +kernel
theorem d_P_setProduct_36 : decode c_P_setProduct 36 = .ok (.isub, 1) := by decide +kernel
theorem d_P_setProduct_37 : decode c_P_setProduct 37 = .ok (.invokestatic 23, 3) := by decide +kernel
theorem d_P_setProduct_40 : decode c_P_setProduct 40 = .ok (.putfield 9, 3) := by decide +kernel
theorem d_P_setProduct_43 : decode c_P_setProduct 43 = .ok (.iconst 0, 1) := by decide +kernel
theorem d_P_setProduct_44 : decode c_P_setProduct 44 = .ok (.istore_n 3, 1) := by decide +kernel
theorem d_P_setProduct_45 : decode c_P_setProduct 45 = .ok (.iload_n 3, 1) := by decide +kernel
theorem d_P_setProduct_46 : decode c_P_setProduct 46 = .ok (.aload_n 0, 1) := by decide +kernel
theorem d_P_setProduct_47 : decode c_P_setProduct 47 = .ok (.getfield 9, 3) := by decide +kernel
theorem d_P_setProduct_50 : decode c_P_setProduct 50 = .ok (.if_icmp .gt 16, 3) := by decide +kernel
theorem d_P_setProduct_53 : decode c_P_setProduct 53 = .ok (.aload_n 0, 1) := by decide +kernel
theorem d_P_setProduct_54 : decode c_P_setProduct 54 = .ok (.getfield 15, 3) := by decide +kernel
theorem d_P_setProduct_57 : decode c_P_setProduct 57 = .ok (.iload_n 3, 1) := by decide +kernel
theorem d_P_setProduct_58 : decode c_P_setProduct 58 = .ok (.iconst 0, 1) := by decide +kernel
theorem d_P_setProduct_59 : decode c_P_setProduct 59 = .ok (.iastore, 1) := by decide +kernel
theorem d_P_setProduct_60 : decode c_P_setProduct 60 = .ok (.iinc 3 1, 3) := by decide +kernel
theorem d_P_setProduct_63 : decode c_P_setProduct 63 = .ok (.goto (-18), 3) := by decide +kernel
theorem d_P_setProduct_66 : decode c_P_setProduct 66 = .ok (.iconst 0, 1) := by decide +kernel
theorem d_P_setProduct_67 : decode c_P_setProduct 67 = .ok (.istore_n 3, 1) := by decide +kernel
theorem d_P_setProduct_68 : decode c_P_setProduct 68 = .ok (.iload_n 3, 1) := by decide +kernel
theorem d_P_setProduct_69 : decode c_P_setProduct 69 = .ok (.aload_n 1, 1) := by decide +kernel
theorem d_P_setProduct_70 : decode c_P_setProduct 70 = .ok (.getfield 9, 3) := by decide +kernel
theorem d_P_setProduct_73 : decode c_P_setProduct 73 = .ok (.if_icmp .gt 84, 3) := by decide +kernel
theorem d_P_setProduct_76 : decode c_P_setProduct 76 = .ok (.aload_n 1, 1) := by decide +kernel
theorem d_P_setProduct_77 : decode c_P_setProduct 77 = .ok (.getfield 15, 3) := by decide +kernel
theorem d_P_setProduct_80 : decode c_P_setProduct 80 = .ok (.iload_n 3, 1) := by decide +kernel
theorem d_P_setProduct_81 : decode c_P_setProduct 81 = .ok (.iaload, 1) := by decide +kernel
theorem d_P_setProduct_82 : decode c_P_setProduct 82 = .ok (.istore 4, 2) := by decide +kernel
theorem d_P_setProduct_84 : decode c_P_setProduct 84 = .ok (.iconst 0, 1) := by decide +kernel
theorem d_P_setProduct_85 : decode c_P_setProduct 85 = .ok (.istore 5, 2) := by decide +kernel
theorem d_P_setProduct_87 : decode c_P_setProduct 87 = .ok (.iload 4, 2) := by decide +kernel
theorem d_P_setProduct_89 : decode c_P_setProduct 89 = .ok (.ifCond .eq 62, 3) := by decide +kernel
theorem d_P_setProduct_92 : decode c_P_setProduct 92 = .ok (.iload 5, 2) := by decide +kernel
theorem d_P_setProduct_94 : decode c_P_setProduct 94 = .ok (.aload_n 2, 1) := by decide +kernel
theorem d_P_setProduct_95 : decode c_P_setProduct 95 = .ok (.getfield 9, 3) := by decide +kernel
theorem d_P_setProduct_98 : decode c_P_setProduct 98 = .ok (.if_icmp .gt 53, 3) := by decide +kernel
theorem d_P_setProduct_101 : decode c_P_setProduct 101 = .ok (.iload_n 3, 1) := by decide +kernel
theorem d_P_setProduct_102 : decode c_P_setProduct 102 = .ok (.iload 5, 2) := by decide +kernel
theorem d_P_setProduct_104 : decode c_P_setProduct 104 = .ok (.iadd, 1) := by decide +kernel
theorem d_P_setProduct_105 : decode c_P_setProduct 105 = .ok (.aload_n 0, 1) := by decide +kernel
theorem d_P_setProduct_106 : decode c_P_setProduct 106 = .ok (.getfield 9, 3) := by decide +kernel
theorem d_P_setProduct_109 : decode c_P_setProduct 109 = .ok (.if_icmp .gt 42, 3) := by decide +kernel
theorem d_P_setProduct_112 : decode c_P_setProduct 112 = .ok (.aload_n 0, 1) := by decide +kernel
theorem d_P_setProduct_113 : decode c_P_setProduct 113 = .ok (.getfield 15, 3) := by decide +kernel
theorem d_P_setProduct_116 : decode c_P_setProduct 116 = .ok (.iload_n 3, 1) := by decide +kernel
theorem d_P_setProduct_117 : decode c_P_setProduct 117 = .ok (.iload 5, 2) := by decide +kernel
theorem d_P_setProduct_119 : decode c_P_setProduct 119 = .ok (.iadd, 1) := by decide +kernel
theorem d_P_setProduct_120 : decode c_P_setProduct 120 = .ok (.aload_n 0, 1) := by decide +kernel
theorem d_P_setProduct_121 : decode c_P_setProduct 121 = .ok (.getfield 15, 3) := by decide +kernel
theorem d_P_setProduct_124 : decode c_P_setProduct 124 = .ok (.iload_n 3, 1) := by decide +kernel
theorem d_P_setProduct_125 : decode c_P_setProduct 125 = .ok (.iload 5, 2) := by decide +kernel
theorem d_P_setProduct_127 : decode c_P_setProduct 127 = .ok (.iadd, 1) := by decide +kernel
theorem d_P_setProduct_128 : decode c_P_setProduct 128 = .ok (.iaload, 1) := by decide +kernel
theorem d_P_setProduct_129 : decode c_P_setProduct 129 = .ok (.iload 4, 2) := by decide +kernel
theorem d_P_setProduct_131 : decode c_P_setProduct 131 = .ok (.aload_n 2, 1) := by decide +kernel
theorem d_P_setProduct_132 : decode c_P_setProduct 132 = .ok (.getfield 15, 3) := by decide +kernel
theorem d_P_setProduct_135 : decode c_P_setProduct 135 = .ok (.iload 5, 2) := by decide +kernel
theorem d_P_setProduct_137 : decode c_P_setProduct 137 = .ok (.iaload, 1) := by decide +kernel
theorem d_P_setProduct_138 : decode c_P_setProduct 138 = .ok (.imul, 1) := by decide +kernel
theorem d_P_setProduct_139 : decode c_P_setProduct 139 = .ok (.iadd, 1) := by decide +kernel
theorem d_P_setProduct_140 : decode c_P_setProduct 140 = .ok (.sipush 10007, 3) := by decide +kernel
theorem d_P_setProduct_143 : decode c_P_setProduct 143 = .ok (.irem, 1) := by decide +kernel
theorem d_P_setProduct_144 : decode c_P_setProduct 144 = .ok (.iastore, 1) := by decide +kernel
theorem d_P_setProduct_145 : decode c_P_setProduct 145 = .ok (.iinc 5 1, 3) := by decide +kernel
theorem d_P_setProduct_148 : decode c_P_setProduct 148 = .ok (.goto (-61), 3) := by decide +kernel
theorem d_P_setProduct_151 : decode c_P_setProduct 151 = .ok (.iinc 3 1, 3) := by decide +kernel
theorem d_P_setProduct_154 : decode c_P_setProduct 154 = .ok (.goto (-86), 3) := by decide +kernel
theorem d_P_setProduct_157 : decode c_P_setProduct 157 = .ok (.return_, 1) := by decide +kernel
theorem d_P_isZero_0 : decode c_P_isZero 0 = .ok (.aload_n 0, 1) := by decide +kernel
theorem d_P_isZero_1 : decode c_P_isZero 1 = .ok (.getfield 9, 3) := by decide +kernel
theorem d_P_isZero_4 : decode c_P_isZero 4 = .ok (.ifCond .ge 7, 3) := by decide +kernel
theorem d_P_isZero_7 : decode c_P_isZero 7 = .ok (.iconst 1, 1) := by decide +kernel
theorem d_P_isZero_8 : decode c_P_isZero 8 = .ok (.goto 4, 3) := by decide +kernel
theorem d_P_isZero_11 : decode c_P_isZero 11 = .ok (.iconst 0, 1) := by decide +kernel
theorem d_P_isZero_12 : decode c_P_isZero 12 = .ok (.ireturn, 1) := by decide +kernel
theorem d_P_addMultiple_0 : decode c_P_addMultiple 0 = .ok (.aload_n 0, 1) := by decide +kernel
theorem d_P_addMultiple_1 : decode c_P_addMultiple 1 = .ok (.getfield 9, 3) := by decide +kernel
theorem d_P_addMultiple_4 : decode c_P_addMultiple 4 = .ok (.aload_n 1, 1) := by decide +kernel
theorem d_P_addMultiple_5 : decode c_P_addMultiple 5 = .ok (.getfield 9, 3) := by decide +kernel
theorem d_P_addMultiple_8 : decode c_P_addMultiple 8 = .ok (.invokestatic 37, 3) := by decide +kernel
theorem d_P_addMultiple_11 : decode c_P_addMultiple 11 = .ok (.aload_n 0, 1) := by decide +kernel
theorem d_P_addMultiple_12 : decode c_P_addMultiple 12 = .ok (.getfield 15, 3) := by decide +kernel
theorem d_P_addMultiple_15 : decode c_P_addMultiple 15 = .ok (.arraylength, 1) := by decide +kernel
theorem d_P_addMultiple_16 : decode c_P_addMultiple 16 = .ok (.iconst 1, 1) := by decide +kernel
theorem d_P_addMultiple_17 : decode c_P_addMultiple 17 = .ok (.isub, 1) := by decide +kernel
theorem d_P_addMultiple_18 : decode c_P_addMultiple 18 = .ok (.invokestatic 23, 3) := by decide +kernel
theorem d_P_addMultiple_21 : decode c_P_addMultiple 21 = .ok (.istore_n 3, 1) := by decide +kernel
theorem d_P_addMultiple_22 : decode c_P_addMultiple 22 = .ok (.iconst 0, 1) := by decide +kernel
theorem d_P_addMultiple_23 : decode c_P_addMultiple 23 = .ok (.istore 4, 2) := by decide +kernel
theorem d_P_addMultiple_25 : decode c_P_addMultiple 25 = .ok (.iload 4, 2) := by decide +kernel
theorem d_P_addMultiple_27 : decode c_P_addMultiple 27 = .ok (.iload_n 3, 1) := by decide +kernel
theorem d_P_addMultiple_28 : decode c_P_addMultiple 28 = .ok (.if_icmp .gt 35, 3) := by decide +kernel
theorem d_P_addMultiple_31 : decode c_P_addMultiple 31 = .ok (.aload_n 0, 1) := by decide +kernel
theorem d_P_addMultiple_32 : decode c_P_addMultiple 32 = .ok (.getfield 15, 3) := by decide +kernel
theorem d_P_addMultiple_35 : decode c_P_addMultiple 35 = .ok (.iload 4, 2) := by decide +kernel
theorem d_P_addMultiple_37 : decode c_P_addMultiple 37 = .ok (.aload_n 0, 1) := by decide +kernel
theorem d_P_addMultiple_38 : decode c_P_addMultiple 38 = .ok (.iload 4, 2) := by decide +kernel
theorem d_P_addMultiple_40 : decode c_P_addMultiple 40 = .ok (.invokevirtual 19, 3) := by decide +kernel
theorem d_P_addMultiple_43 : decode c_P_addMultiple 43 = .ok (.aload_n 1, 1) := by decide +kernel
theorem d_P_addMultiple_44 : decode c_P_addMultiple 44 = .ok (.iload 4, 2) := by decide +kernel
theorem d_P_addMultiple_46 : decode c_P_addMultiple 46 = .ok (.invokevirtual 19, 3) := by decide +kernel
theorem d_P_addMultiple_49 : decode c_P_addMultiple 49 = .ok (.iload_n 2, 1) := by decide +kernel
theorem d_P_addMultiple_50 : decode c_P_addMultiple 50 = .ok (.imul, 1) := by decide +kernel
theorem d_P_addMultiple_51 : decode c_P_addMultiple 51 = .ok (.iadd, 1) := by decide +kernel
theorem d_P_addMultiple_52 : decode c_P_addMultiple 52 = .ok (.sipush 10007, 3) := by decide +kernel
theorem d_P_addMultiple_55 : decode c_P_addMultiple 55 = .ok (.irem, 1) := by decide +kernel
theorem d_P_addMultiple_56 : decode c_P_addMultiple 56 = .ok (.iastore, 1) := by decide +kernel
theorem d_P_addMultiple_57 : decode c_P_addMultiple 57 = .ok (.iinc 4 1, 3) := by decide +kernel
theorem d_P_addMultiple_60 : decode c_P_addMultiple 60 = .ok (.goto (-35), 3) := by decide +kernel
theorem d_P_addMultiple_63 : decode c_P_addMultiple 63 = .ok (.aload_n 0, 1) := by decide +kernel
theorem d_P_addMultiple_64 : decode c_P_addMultiple 64 = .ok (.iload_n 3, 1) := by decide +kernel
theorem d_P_addMultiple_65 : decode c_P_addMultiple 65 = .ok (.invokevirtual 33, 3) := by decide +kernel
theorem d_P_addMultiple_68 : decode c_P_addMultiple 68 = .ok (.return_, 1) := by decide +kernel
theorem d_P_get_0 : decode c_P_get 0 = .ok (.iload_n 1, 1) := by decide +kernel
theorem d_P_get_1 : decode c_P_get 1 = .ok (.ifCond .lt 29, 3) := by decide +kernel
theorem d_P_get_4 : decode c_P_get 4 = .ok (.iload_n 1, 1) := by decide +kernel
theorem d_P_get_5 : decode c_P_get 5 = .ok (.aload_n 0, 1) := by decide +kernel
theorem d_P_get_6 : decode c_P_get 6 = .ok (.getfield 9, 3) := by decide +kernel
theorem d_P_get_9 : decode c_P_get 9 = .ok (.if_icmp .gt 21, 3) := by decide +kernel
theorem d_P_get_12 : decode c_P_get 12 = .ok (.iload_n 1, 1) := by decide +kernel
theorem d_P_get_13 : decode c_P_get 13 = .ok (.aload_n 0, 1) := by decide +kernel
theorem d_P_get_14 : decode c_P_get 14 = .ok (.getfield 15, 3) := by decide +kernel
theorem d_P_get_17 : decode c_P_get 17 = .ok (.arraylength, 1) := by decide +kernel
theorem d_P_get_18 : decode c_P_get 18 = .ok (.if_icmp .ge 12, 3) := by decide +kernel
theorem d_P_get_21 : decode c_P_get 21 = .ok (.aload_n 0, 1) := by decide +kernel
theorem d_P_get_22 : decode c_P_get 22 = .ok (.getfield 15, 3) := by decide +kernel
theorem d_P_get_25 : decode c_P_get 25 = .ok (.iload_n 1, 1) := by decide +kernel
theorem d_P_get_26 : decode c_P_get 26 = .ok (.iaload, 1) := by decide +kernel
theorem d_P_get_27 : decode c_P_get 27 = .ok (.goto 4, 3) := by decide +kernel
theorem d_P_get_30 : decode c_P_get 30 = .ok (.iconst 0, 1) := by decide +kernel
theorem d_P_get_31 : decode c_P_get 31 = .ok (.ireturn, 1) := by decide +kernel
theorem d_P_trimFrom_0 : decode c_P_trimFrom 0 = .ok (.aload_n 0, 1) := by decide +kernel
theorem d_P_trimFrom_1 : decode c_P_trimFrom 1 = .ok (.iconst (-1), 1) := by decide +kernel
theorem d_P_trimFrom_2 : decode c_P_trimFrom 2 = .ok (.putfield 9, 3) := by decide +kernel
theorem d_P_trimFrom_5 : decode c_P_trimFrom 5 = .ok (.iload_n 1, 1) := by decide +kernel
theorem d_P_trimFrom_6 : decode c_P_trimFrom 6 = .ok (.istore_n 2, 1) := by decide +kernel
theorem d_P_trimFrom_7 : decode c_P_trimFrom 7 = .ok (.iload_n 2, 1) := by decide +kernel
theorem d_P_trimFrom_8 : decode c_P_trimFrom 8 = .ok (.ifCond .lt 30, 3) := by decide +kernel
theorem d_P_trimFrom_11 : decode c_P_trimFrom 11 = .ok (.aload_n 0, 1) := by decide +kernel
theorem d_P_trimFrom_12 : decode c_P_trimFrom 12 = .ok (.getfield 9, 3) := by decide +kernel
theorem d_P_trimFrom_15 : decode c_P_trimFrom 15 = .ok (.ifCond .ge 23, 3) := by decide +kernel
theorem d_P_trimFrom_18 : decode c_P_trimFrom 18 = .ok (.aload_n 0, 1) := by decide +kernel
theorem d_P_trimFrom_19 : decode c_P_trimFrom 19 = .ok (.getfield 15, 3) := by decide +kernel
theorem d_P_trimFrom_22 : decode c_P_trimFrom 22 = .ok (.iload_n 2, 1) := by decide +kernel
theorem d_P_trimFrom_23 : decode c_P_trimFrom 23 = .ok (.iaload, 1) := by decide +kernel
theorem d_P_trimFrom_24 : decode c_P_trimFrom 24 = .ok (.ifCond .eq 8, 3) := by decide +kernel
theorem d_P_trimFrom_27 : decode c_P_trimFrom 27 = .ok (.aload_n 0, 1) := by decide +kernel
theorem d_P_trimFrom_28 : decode c_P_trimFrom 28 = .ok (.iload_n 2, 1) := by decide +kernel
theorem d_P_trimFrom_29 : decode c_P_trimFrom 29 = .ok (.putfield 9, 3) := by decide +kernel
theorem d_P_trimFrom_32 : decode c_P_trimFrom 32 = .ok (.iinc 2 (-1), 3) := by decide +kernel
theorem d_P_trimFrom_35 : decode c_P_trimFrom 35 = .ok (.goto (-28), 3) := by decide +kernel
theorem d_P_trimFrom_38 : decode c_P_trimFrom 38 = .ok (.return_, 1) := by decide +kernel
theorem d_P_setDerivative_0 : decode c_P_setDerivative 0 = .ok (.aload_n 1, 1) := by decide +kernel
theorem d_P_setDerivative_1 : decode c_P_setDerivative 1 = .ok (.getfield 9, 3) := by decide +kernel
theorem d_P_setDerivative_4 : decode c_P_setDerivative 4 = .ok (.iconst 1, 1) := by decide +kernel
theorem d_P_setDerivative_5 : decode c_P_setDerivative 5 = .ok (.isub, 1) := by decide +kernel
theorem d_P_setDerivative_6 : decode c_P_setDerivative 6 = .ok (.aload_n 0, 1) := by decide +kernel
theorem d_P_setDerivative_7 : decode c_P_setDerivative 7 = .ok (.getfield 15, 3) := by decide +kernel
theorem d_P_setDerivative_10 : decode c_P_setDerivative 10 = .ok (.arraylength, 1) := by decide +kernel
theorem d_P_setDerivative_11 : decode c_P_setDerivative 11 = .ok (.iconst 1, 1) := by decide +kernel
theorem d_P_setDerivative_12 : decode c_P_setDerivative 12 = .ok (.isub, 1) := by decide +kernel
theorem d_P_setDerivative_13 : decode c_P_setDerivative 13 = .ok (.invokestatic 23, 3) := by decide +kernel
theorem d_P_setDerivative_16 : decode c_P_setDerivative 16 = .ok (.istore_n 2, 1) := by decide +kernel
theorem d_P_setDerivative_17 : decode c_P_setDerivative 17 = .ok (.iconst 0, 1) := by decide +kernel
theorem d_P_setDerivative_18 : decode c_P_setDerivative 18 = .ok (.istore_n 3, 1) := by decide +kernel
theorem d_P_setDerivative_19 : decode c_P_setDerivative 19 = .ok (.iload_n 3, 1) := by decide +kernel
theorem d_P_setDerivative_20 : decode c_P_setDerivative 20 = .ok (.iload_n 2, 1) := by decide +kernel
theorem d_P_setDerivative_21 : decode c_P_setDerivative 21 = .ok (.if_icmp .gt 30, 3) := by decide +kernel
theorem d_P_setDerivative_24 : decode c_P_setDerivative 24 = .ok (.aload_n 0, 1) := by decide +kernel
theorem d_P_setDerivative_25 : decode c_P_setDerivative 25 = .ok (.getfield 15, 3) := by decide +kernel
theorem d_P_setDerivative_28 : decode c_P_setDerivative 28 = .ok (.iload_n 3, 1) := by decide +kernel
theorem d_P_setDerivative_29 : decode c_P_setDerivative 29 = .ok (.aload_n 1, 1) := by decide +kernel
theorem d_P_setDerivative_30 : decode c_P_setDerivative 30 = .ok (.iload_n 3, 1) := by decide +kernel
theorem d_P_setDerivative_31 : decode c_P_setDerivative 31 = .ok (.iconst 1, 1) := by decide +kernel
theorem d_P_setDerivative_32 : decode c_P_setDerivative 32 = .ok (.iadd, 1) := by decide +kernel
theorem d_P_setDerivative_33 : decode c_P_setDerivative 33 = .ok (.invokevirtual 19, 3) := by decide +kernel
theorem d_P_setDerivative_36 : decode c_P_setDerivative 36 = .ok (.iload_n 3, 1) := by decide +kernel
theorem d_P_setDerivative_37 : decode c_P_setDerivative 37 = .ok (.iconst 1, 1) := by decide +kernel
theorem d_P_setDerivative_38 : decode c_P_setDerivative 38 = .ok (.iadd, 1) := by decide +kernel
theorem d_P_setDerivative_39 : decode c_P_setDerivative 39 = .ok (.imul, 1) := by decide +kernel
theorem d_P_setDerivative_40 : decode c_P_setDerivative 40 = .ok (.sipush 10007, 3) := by decide +kernel
theorem d_P_setDerivative_43 : decode c_P_setDerivative 43 = .ok (.irem, 1) := by decide +kernel
theorem d_P_setDerivative_44 : decode c_P_setDerivative 44 = .ok (.iastore, 1) := by decide +kernel
theorem d_P_setDerivative_45 : decode c_P_setDerivative 45 = .ok (.iinc 3 1, 3) := by decide +kernel
theorem d_P_setDerivative_48 : decode c_P_setDerivative 48 = .ok (.goto (-29), 3) := by decide +kernel
theorem d_P_setDerivative_51 : decode c_P_setDerivative 51 = .ok (.aload_n 0, 1) := by decide +kernel
theorem d_P_setDerivative_52 : decode c_P_setDerivative 52 = .ok (.iload_n 2, 1) := by decide +kernel
theorem d_P_setDerivative_53 : decode c_P_setDerivative 53 = .ok (.invokevirtual 33, 3) := by decide +kernel
theorem d_P_setDerivative_56 : decode c_P_setDerivative 56 = .ok (.return_, 1) := by decide +kernel
theorem d_P_scale_0 : decode c_P_scale 0 = .ok (.iconst 0, 1) := by decide +kernel
theorem d_P_scale_1 : decode c_P_scale 1 = .ok (.istore_n 2, 1) := by decide +kernel
theorem d_P_scale_2 : decode c_P_scale 2 = .ok (.iload_n 2, 1) := by decide +kernel
theorem d_P_scale_3 : decode c_P_scale 3 = .ok (.aload_n 0, 1) := by decide +kernel
theorem d_P_scale_4 : decode c_P_scale 4 = .ok (.getfield 9, 3) := by decide +kernel
theorem d_P_scale_7 : decode c_P_scale 7 = .ok (.if_icmp .gt 27, 3) := by decide +kernel
theorem d_P_scale_10 : decode c_P_scale 10 = .ok (.aload_n 0, 1) := by decide +kernel
theorem d_P_scale_11 : decode c_P_scale 11 = .ok (.getfield 15, 3) := by decide +kernel
theorem d_P_scale_14 : decode c_P_scale 14 = .ok (.iload_n 2, 1) := by decide +kernel
theorem d_P_scale_15 : decode c_P_scale 15 = .ok (.aload_n 0, 1) := by decide +kernel
theorem d_P_scale_16 : decode c_P_scale 16 = .ok (.getfield 15, 3) := by decide +kernel
theorem d_P_scale_19 : decode c_P_scale 19 = .ok (.iload_n 2, 1) := by decide +kernel
theorem d_P_scale_20 : decode c_P_scale 20 = .ok (.iaload, 1) := by decide +kernel
theorem d_P_scale_21 : decode c_P_scale 21 = .ok (.iload_n 1, 1) := by decide +kernel
theorem d_P_scale_22 : decode c_P_scale 22 = .ok (.imul, 1) := by decide +kernel
theorem d_P_scale_23 : decode c_P_scale 23 = .ok (.sipush 10007, 3) := by decide +kernel
theorem d_P_scale_26 : decode c_P_scale 26 = .ok (.irem, 1) := by decide +kernel
theorem d_P_scale_27 : decode c_P_scale 27 = .ok (.iastore, 1) := by decide +kernel
theorem d_P_scale_28 : decode c_P_scale 28 = .ok (.iinc 2 1, 3) := by decide +kernel
theorem d_P_scale_31 : decode c_P_scale 31 = .ok (.goto (-29), 3) := by decide +kernel
theorem d_P_scale_34 : decode c_P_scale 34 = .ok (.aload_n 0, 1) := by decide +kernel
theorem d_P_scale_35 : decode c_P_scale 35 = .ok (.aload_n 0, 1) := by decide +kernel
theorem d_P_scale_36 : decode c_P_scale 36 = .ok (.getfield 9, 3) := by decide +kernel
theorem d_P_scale_39 : decode c_P_scale 39 = .ok (.invokevirtual 33, 3) := by decide +kernel
theorem d_P_scale_42 : decode c_P_scale 42 = .ok (.return_, 1) := by decide +kernel
theorem d_P_lead_0 : decode c_P_lead 0 = .ok (.aload_n 0, 1) := by decide +kernel
theorem d_P_lead_1 : decode c_P_lead 1 = .ok (.aload_n 0, 1) := by decide +kernel
theorem d_P_lead_2 : decode c_P_lead 2 = .ok (.getfield 9, 3) := by decide +kernel
theorem d_P_lead_5 : decode c_P_lead 5 = .ok (.invokevirtual 19, 3) := by decide +kernel
theorem d_P_lead_8 : decode c_P_lead 8 = .ok (.ireturn, 1) := by decide +kernel
theorem d_P_divideBy_0 : decode c_P_divideBy 0 = .ok (.aload_n 1, 1) := by decide +kernel
theorem d_P_divideBy_1 : decode c_P_divideBy 1 = .ok (.getfield 9, 3) := by decide +kernel
theorem d_P_divideBy_4 : decode c_P_divideBy 4 = .ok (.istore_n 3, 1) := by decide +kernel
theorem d_P_divideBy_5 : decode c_P_divideBy 5 = .ok (.iload_n 3, 1) := by decide +kernel
theorem d_P_divideBy_6 : decode c_P_divideBy 6 = .ok (.ifCond .lt 11, 3) := by decide +kernel
theorem d_P_divideBy_9 : decode c_P_divideBy 9 = .ok (.aload_n 0, 1) := by decide +kernel
theorem d_P_divideBy_10 : decode c_P_divideBy 10 = .ok (.getfield 9, 3) := by decide +kernel
theorem d_P_divideBy_13 : decode c_P_divideBy 13 = .ok (.iload_n 3, 1) := by decide +kernel
theorem d_P_divideBy_14 : decode c_P_divideBy 14 = .ok (.if_icmp .ge 9, 3) := by decide +kernel
theorem d_P_divideBy_17 : decode c_P_divideBy 17 = .ok (.aload_n 2, 1) := by decide +kernel
theorem d_P_divideBy_18 : decode c_P_divideBy 18 = .ok (.iconst (-1), 1) := by decide +kernel
theorem d_P_divideBy_19 : decode c_P_divideBy 19 = .ok (.putfield 9, 3) := by decide +kernel
theorem d_P_divideBy_22 : decode c_P_divideBy 22 = .ok (.return_, 1) := by decide +kernel
theorem d_P_divideBy_23 : decode c_P_divideBy 23 = .ok (.aload_n 2, 1) := by decide +kernel
theorem d_P_divideBy_24 : decode c_P_divideBy 24 = .ok (.aload_n 0, 1) := by decide +kernel
theorem d_P_divideBy_25 : decode c_P_divideBy 25 = .ok (.getfield 9, 3) := by decide +kernel
theorem d_P_divideBy_28 : decode c_P_divideBy 28 = .ok (.iload_n 3, 1) := by decide +kernel
theorem d_P_divideBy_29 : decode c_P_divideBy 29 = .ok (.isub, 1) := by decide +kernel
theorem d_P_divideBy_30 : decode c_P_divideBy 30 = .ok (.aload_n 2, 1) := by decide +kernel
theorem d_P_divideBy_31 : decode c_P_divideBy 31 = .ok (.getfield 15, 3) := by decide +kernel
theorem d_P_divideBy_34 : decode c_P_divideBy 34 = .ok (.arraylength, 1) := by decide +kernel
theorem d_P_divideBy_35 : decode c_P_divideBy 35 = .ok (.iconst 1, 1) := by decide +kernel
theorem d_P_divideBy_36 : decode c_P_divideBy 36 = .ok (.isub, 1) := by decide +kernel
theorem d_P_divideBy_37 : decode c_P_divideBy 37 = .ok (.invokestatic 23, 3) := by decide +kernel
theorem d_P_divideBy_40 : decode c_P_divideBy 40 = .ok (.putfield 9, 3) := by decide +kernel
theorem d_P_divideBy_43 : decode c_P_divideBy 43 = .ok (.aload_n 2, 1) := by decide +kernel
theorem d_P_divideBy_44 : decode c_P_divideBy 44 = .ok (.getfield 9, 3) := by decide +kernel
theorem d_P_divideBy_47 : decode c_P_divideBy 47 = .ok (.istore 4, 2) := by decide +kernel
theorem d_P_divideBy_49 : decode c_P_divideBy 49 = .ok (.iload 4, 2) := by decide +kernel
theorem d_P_divideBy_51 : decode c_P_divideBy 51 = .ok (.ifCond .lt 88, 3) := by decide +kernel
theorem d_P_divideBy_54 : decode c_P_divideBy 54 = .ok (.aload_n 0, 1) := by decide +kernel
theorem d_P_divideBy_55 : decode c_P_divideBy 55 = .ok (.getfield 15, 3) := by decide +kernel
theorem d_P_divideBy_58 : decode c_P_divideBy 58 = .ok (.iload 4, 2) := by decide +kernel
theorem d_P_divideBy_60 : decode c_P_divideBy 60 = .ok (.iload_n 3, 1) := by decide +kernel
theorem d_P_divideBy_61 : decode c_P_divideBy 61 = .ok (.iadd, 1) := by decide +kernel
theorem d_P_divideBy_62 : decode c_P_divideBy 62 = .ok (.iaload, 1) := by decide +kernel
theorem d_P_divideBy_63 : decode c_P_divideBy 63 = .ok (.istore 5, 2) := by decide +kernel
theorem d_P_divideBy_65 : decode c_P_divideBy 65 = .ok (.aload_n 2, 1) := by decide +kernel
theorem d_P_divideBy_66 : decode c_P_divideBy 66 = .ok (.getfield 15, 3) := by decide +kernel
theorem d_P_divideBy_69 : decode c_P_divideBy 69 = .ok (.iload 4, 2) := by decide +kernel
theorem d_P_divideBy_71 : decode c_P_divideBy 71 = .ok (.iload 5, 2) := by decide +kernel
theorem d_P_divideBy_73 : decode c_P_divideBy 73 = .ok (.iastore, 1) := by decide +kernel
theorem d_P_divideBy_74 : decode c_P_divideBy 74 = .ok (.iconst 0, 1) := by decide +kernel
theorem d_P_divideBy_75 : decode c_P_divideBy 75 = .ok (.istore 6, 2) := by decide +kernel
theorem d_P_divideBy_77 : decode c_P_divideBy 77 = .ok (.iload 5, 2) := by decide +kernel
theorem d_P_divideBy_79 : decode c_P_divideBy 79 = .ok (.ifCond .eq 54, 3) := by decide +kernel
theorem d_P_divideBy_82 : decode c_P_divideBy 82 = .ok (.iload 6, 2) := by decide +kernel
theorem d_P_divideBy_84 : decode c_P_divideBy 84 = .ok (.iload_n 3, 1) := by decide +kernel
theorem d_P_divideBy_85 : decode c_P_divideBy 85 = .ok (.if_icmp .gt 48, 3) := by decide +kernel
theorem d_P_divideBy_88 : decode c_P_divideBy 88 = .ok (.aload_n 0, 1) := by decide +kernel
theorem d_P_divideBy_89 : decode c_P_divideBy 89 = .ok (.getfield 15, 3) := by decide +kernel
theorem d_P_divideBy_92 : decode c_P_divideBy 92 = .ok (.iload 4, 2) := by decide +kernel
theorem d_P_divideBy_94 : decode c_P_divideBy 94 = .ok (.iload 6, 2) := by decide +kernel
theorem d_P_divideBy_96 : decode c_P_divideBy 96 = .ok (.iadd, 1) := by decide +kernel
theorem d_P_divideBy_97 : decode c_P_divideBy 97 = .ok (.aload_n 0, 1) := by decide +kernel
theorem d_P_divideBy_98 : decode c_P_divideBy 98 = .ok (.getfield 15, 3) := by decide +kernel
theorem d_P_divideBy_101 : decode c_P_divideBy 101 = .ok (.iload 4, 2) := by decide +kernel
theorem d_P_divideBy_103 : decode c_P_divideBy 103 = .ok (.iload 6, 2) := by decide +kernel
theorem d_P_divideBy_105 : decode c_P_divideBy 105 = .ok (.iadd, 1) := by decide +kernel
theorem d_P_divideBy_106 : decode c_P_divideBy 106 = .ok (.iaload, 1) := by decide +kernel
theorem d_P_divideBy_107 : decode c_P_divideBy 107 = .ok (.sipush 10007, 3) := by decide +kernel
theorem d_P_divideBy_110 : decode c_P_divideBy 110 = .ok (.iload 5, 2) := by decide +kernel
theorem d_P_divideBy_112 : decode c_P_divideBy 112 = .ok (.isub, 1) := by decide +kernel
theorem d_P_divideBy_113 : decode c_P_divideBy 113 = .ok (.aload_n 1, 1) := by decide +kernel
theorem d_P_divideBy_114 : decode c_P_divideBy 114 = .ok (.getfield 15, 3) := by decide +kernel
theorem d_P_divideBy_117 : decode c_P_divideBy 117 = .ok (.iload 6, 2) := by decide +kernel
theorem d_P_divideBy_119 : decode c_P_divideBy 119 = .ok (.iaload, 1) := by decide +kernel
theorem d_P_divideBy_120 : decode c_P_divideBy 120 = .ok (.imul, 1) := by decide +kernel
theorem d_P_divideBy_121 : decode c_P_divideBy 121 = .ok (.iadd, 1) := by decide +kernel
theorem d_P_divideBy_122 : decode c_P_divideBy 122 = .ok (.sipush 10007, 3) := by decide +kernel
theorem d_P_divideBy_125 : decode c_P_divideBy 125 = .ok (.irem, 1) := by decide +kernel
theorem d_P_divideBy_126 : decode c_P_divideBy 126 = .ok (.iastore, 1) := by decide +kernel
theorem d_P_divideBy_127 : decode c_P_divideBy 127 = .ok (.iinc 6 1, 3) := by decide +kernel
theorem d_P_divideBy_130 : decode c_P_divideBy 130 = .ok (.goto (-53), 3) := by decide +kernel
theorem d_P_divideBy_133 : decode c_P_divideBy 133 = .ok (.iinc 4 (-1), 3) := by decide +kernel
theorem d_P_divideBy_136 : decode c_P_divideBy 136 = .ok (.goto (-87), 3) := by decide +kernel
theorem d_P_divideBy_139 : decode c_P_divideBy 139 = .ok (.aload_n 0, 1) := by decide +kernel
theorem d_P_divideBy_140 : decode c_P_divideBy 140 = .ok (.iload_n 3, 1) := by decide +kernel
theorem d_P_divideBy_141 : decode c_P_divideBy 141 = .ok (.iconst 1, 1) := by decide +kernel
theorem d_P_divideBy_142 : decode c_P_divideBy 142 = .ok (.isub, 1) := by decide +kernel
theorem d_P_divideBy_143 : decode c_P_divideBy 143 = .ok (.invokevirtual 33, 3) := by decide +kernel
theorem d_P_divideBy_146 : decode c_P_divideBy 146 = .ok (.return_, 1) := by decide +kernel
theorem d_P_isSame_0 : decode c_P_isSame 0 = .ok (.aload_n 0, 1) := by decide +kernel
theorem d_P_isSame_1 : decode c_P_isSame 1 = .ok (.getfield 9, 3) := by decide +kernel
theorem d_P_isSame_4 : decode c_P_isSame 4 = .ok (.aload_n 1, 1) := by decide +kernel
theorem d_P_isSame_5 : decode c_P_isSame 5 = .ok (.getfield 9, 3) := by decide +kernel
theorem d_P_isSame_8 : decode c_P_isSame 8 = .ok (.if_icmp .eq 5, 3) := by decide +kernel
theorem d_P_isSame_11 : decode c_P_isSame 11 = .ok (.iconst 0, 1) := by decide +kernel
theorem d_P_isSame_12 : decode c_P_isSame 12 = .ok (.ireturn, 1) := by decide +kernel
theorem d_P_isSame_13 : decode c_P_isSame 13 = .ok (.iconst 0, 1) := by decide +kernel
theorem d_P_isSame_14 : decode c_P_isSame 14 = .ok (.istore_n 2, 1) := by decide +kernel
theorem d_P_isSame_15 : decode c_P_isSame 15 = .ok (.iload_n 2, 1) := by decide +kernel
theorem d_P_isSame_16 : decode c_P_isSame 16 = .ok (.aload_n 0, 1) := by decide +kernel
theorem d_P_isSame_17 : decode c_P_isSame 17 = .ok (.getfield 9, 3) := by decide +kernel
theorem d_P_isSame_20 : decode c_P_isSame 20 = .ok (.if_icmp .gt 25, 3) := by decide +kernel
theorem d_P_isSame_23 : decode c_P_isSame 23 = .ok (.aload_n 0, 1) := by decide +kernel
theorem d_P_isSame_24 : decode c_P_isSame 24 = .ok (.getfield 15, 3) := by decide +kernel
theorem d_P_isSame_27 : decode c_P_isSame 27 = .ok (.iload_n 2, 1) := by decide +kernel
theorem d_P_isSame_28 : decode c_P_isSame 28 = .ok (.iaload, 1) := by decide +kernel
theorem d_P_isSame_29 : decode c_P_isSame 29 = .ok (.aload_n 1, 1) := by decide +kernel
theorem d_P_isSame_30 : decode c_P_isSame 30 = .ok (.iload_n 2, 1) := by decide +kernel
theorem d_P_isSame_31 : decode c_P_isSame 31 = .ok (.invokevirtual 19, 3) := by decide +kernel
theorem d_P_isSame_34 : decode c_P_isSame 34 = .ok (.if_icmp .eq 5, 3) := by decide +kernel
theorem d_P_isSame_37 : decode c_P_isSame 37 = .ok (.iconst 0, 1) := by decide +kernel
theorem d_P_isSame_38 : decode c_P_isSame 38 = .ok (.ireturn, 1) := by decide +kernel
theorem d_P_isSame_39 : decode c_P_isSame 39 = .ok (.iinc 2 1, 3) := by decide +kernel
theorem d_P_isSame_42 : decode c_P_isSame 42 = .ok (.goto (-27), 3) := by decide +kernel
theorem d_P_isSame_45 : decode c_P_isSame 45 = .ok (.iconst 1, 1) := by decide +kernel
theorem d_P_isSame_46 : decode c_P_isSame 46 = .ok (.ireturn, 1) := by decide +kernel
theorem d_P_valueAt_0 : decode c_P_valueAt 0 = .ok (.iconst 0, 1) := by decide +kernel
theorem d_P_valueAt_1 : decode c_P_valueAt 1 = .ok (.istore_n 2, 1) := by decide +kernel
theorem d_P_valueAt_2 : decode c_P_valueAt 2 = .ok (.aload_n 0, 1) := by decide +kernel
theorem d_P_valueAt_3 : decode c_P_valueAt 3 = .ok (.getfield 9, 3) := by decide +kernel
theorem d_P_valueAt_6 : decode c_P_valueAt 6 = .ok (.istore_n 3, 1) := by decide +kernel
theorem d_P_valueAt_7 : decode c_P_valueAt 7 = .ok (.iload_n 3, 1) := by decide +kernel
theorem d_P_valueAt_8 : decode c_P_valueAt 8 = .ok (.ifCond .lt 24, 3) := by decide +kernel
theorem d_P_valueAt_11 : decode c_P_valueAt 11 = .ok (.iload_n 2, 1) := by decide +kernel
theorem d_P_valueAt_12 : decode c_P_valueAt 12 = .ok (.iload_n 1, 1) := by decide +kernel
theorem d_P_valueAt_13 : decode c_P_valueAt 13 = .ok (.imul, 1) := by decide +kernel
theorem d_P_valueAt_14 : decode c_P_valueAt 14 = .ok (.aload_n 0, 1) := by decide +kernel
theorem d_P_valueAt_15 : decode c_P_valueAt 15 = .ok (.getfield 15, 3) := by decide +kernel
theorem d_P_valueAt_18 : decode c_P_valueAt 18 = .ok (.iload_n 3, 1) := by decide +kernel
theorem d_P_valueAt_19 : decode c_P_valueAt 19 = .ok (.iaload, 1) := by decide +kernel
theorem d_P_valueAt_20 : decode c_P_valueAt 20 = .ok (.iadd, 1) := by decide +kernel
theorem d_P_valueAt_21 : decode c_P_valueAt 21 = .ok (.sipush 10007, 3) := by decide +kernel
theorem d_P_valueAt_24 : decode c_P_valueAt 24 = .ok (.irem, 1) := by decide +kernel
theorem d_P_valueAt_25 : decode c_P_valueAt 25 = .ok (.istore_n 2, 1) := by decide +kernel
theorem d_P_valueAt_26 : decode c_P_valueAt 26 = .ok (.iinc 3 (-1), 3) := by decide +kernel
theorem d_P_valueAt_29 : decode c_P_valueAt 29 = .ok (.goto (-22), 3) := by decide +kernel
theorem d_P_valueAt_32 : decode c_P_valueAt 32 = .ok (.iload_n 2, 1) := by decide +kernel
theorem d_P_valueAt_33 : decode c_P_valueAt 33 = .ok (.ireturn, 1) := by decide +kernel
end
section
set_option maxHeartbeats 4000000 in
/-- Polynomial.isZero -/
theorem q_P_isZero (E : zE) (l : Launch) (sz : Nat) (M : zM) (a : Nat) {r : Nat} {t : Int32} (h0 : M a = some (.inr (3, [.ref r, .int t]))) : zMet E l y_P_isZero c_P_isZero 1 (some .boolean) { frames := 0, cells := 0, slots := 0, locals := 0 } 0 0 [.ref a] sz M (zRet (some (.int (if t < 0 then 1 else 0))) sz M) := by
  refine zMet.ofZ (by decide) (Nat.le_of_ble_eq_true rfl) ?_
  intro X hl hini C
  show Z X E 1 _ 0 0 sz M 0 [(0, .ref a)] []
  refine z_aload_n C d_P_isZero_0 rfl rfl ?_
  refine z_get C in_P h0 rfl 1 (by decide) fl_P_9 rfl rfl d_P_isZero_1 ?_
  refine z_if_ge (tgt := 11) C d_P_isZero_4 (by decide) (fun c4 => ?_) (fun c4 => ?_)
  · refine z_iconst (v := 0) C d_P_isZero_11 (by decide) ?_
    exact z_zret C rfl ⟨by rw [if_neg (Int32.not_lt.mpr c4)], rfl, rfl⟩ d_P_isZero_12
  · refine z_iconst (v := 1) C d_P_isZero_7 (by decide) ?_
    refine z_goto (tgt := 12) C d_P_isZero_8 (by decide) ?_
    exact z_zret C rfl ⟨by rw [if_pos (Int32.not_le.mp c4)], rfl, rfl⟩ d_P_isZero_12
set_option maxHeartbeats 4000000 in
/-- Polynomial.get -/
theorem q_P_get (E : zE) (l : Launch) (sz : Nat) (M : zM) (a : Nat) (x : Int32) {r : Nat} {t : Int32} (h0 : M a = some (.inr (3, [.ref r, .int t]))) {n : Nat} {f : Nat → Int32} (h1 : M r = some (.inl (E.2.1 0, n, .inl f))) (hn : n < 2 ^ 30) : zMet E l y_P_get c_P_get 2 (some .int) { frames := 0, cells := 0, slots := 0, locals := 0 } 0 0 [.ref a, .int x] sz M (zRet (some (.int (if 0 ≤ x ∧ x ≤ t ∧ x < nI n then f x.toNatClampNeg else 0))) sz M) := by
  refine zMet.ofZ (by decide) (Nat.le_of_ble_eq_true rfl) ?_
  intro X hl hini C
  show Z X E 2 _ 0 0 sz M 0 [(0, .ref a), (1, .int x)] []
  refine z_iload_n C d_P_get_0 rfl rfl ?_
  refine z_if_lt (tgt := 30) C d_P_get_1 (by decide) (fun c1 => ?_) (fun c1 => ?_)
  · have e : ¬ (0 ≤ x ∧ x ≤ t ∧ x < nI n) := fun q => absurd c1 (Int32.not_lt.mpr q.1)
    refine z_iconst (v := 0) C d_P_get_30 (by decide) ?_
    exact z_iret C ⟨by rw [if_neg e], rfl, rfl⟩ d_P_get_31
  · have g1 : 0 ≤ x := Int32.not_lt.mp c1
    refine z_iload_n C d_P_get_4 rfl rfl ?_
    refine z_aload_n C d_P_get_5 rfl rfl ?_
    refine z_get C in_P h0 rfl 1 (by decide) fl_P_9 rfl rfl d_P_get_6 ?_
    refine z_icmp_gt (tgt := 30) C d_P_get_9 (by decide) (fun c9 => ?_) (fun c9 => ?_)
    · have e : ¬ (0 ≤ x ∧ x ≤ t ∧ x < nI n) := fun q => absurd c9 (Int32.not_lt.mpr q.2.1)
      refine z_iconst (v := 0) C d_P_get_30 (by decide) ?_
      exact z_iret C ⟨by rw [if_neg e], rfl, rfl⟩ d_P_get_31
    · have g2 : x ≤ t := Int32.not_lt.mp c9
      refine z_iload_n C d_P_get_12 rfl rfl ?_
      refine z_aload_n C d_P_get_13 rfl rfl ?_
      refine z_get C in_P h0 rfl 0 (by decide) fl_P_15 rfl rfl d_P_get_14 ?_
      refine z_alen (v := nI n) C h1 0 rfl (rfl) d_P_get_17 ?_
      refine z_icmp_ge (tgt := 30) C d_P_get_18 (by decide) (fun c18 => ?_) (fun c18 => ?_)
      · have e : ¬ (0 ≤ x ∧ x ≤ t ∧ x < nI n) := fun q => absurd c18 (Int32.not_le.mpr q.2.2)
        refine z_iconst (v := 0) C d_P_get_30 (by decide) ?_
        exact z_iret C ⟨by rw [if_neg e], rfl, rfl⟩ d_P_get_31
      · have g3 : x < nI n := Int32.not_le.mp c18
        have e : 0 ≤ x ∧ x ≤ t ∧ x < nI n := ⟨g1, g2, g3⟩
        obtain ⟨j, hj, rfl⟩ : ∃ j : Nat, j < n ∧ x = nI j := by
          obtain ⟨j, hj, e9⟩ := nI_of (Int32.not_lt.mpr g1)
          exact ⟨j, by rw [e9] at g3; exact (nI_ltI hj (by omega)).mp g3, e9⟩
        refine z_aload_n C d_P_get_21 rfl rfl ?_
        refine z_get C in_P h0 rfl 0 (by decide) fl_P_15 rfl rfl d_P_get_22 ?_
        refine z_iload_n C d_P_get_25 rfl rfl ?_
        refine z_iald C h1 0 rfl j (rfl) (hj) (by omega) d_P_get_26 ?_
        refine z_goto (tgt := 31) C d_P_get_27 (by decide) ?_
        exact z_iret C ⟨by rw [if_pos e, nI_clamp (by omega)], rfl, rfl⟩ d_P_get_31
end
section
theorem p_isZero (E : zE) (l : Launch) (sz : Nat) (M : zM) {a n k : Nat} {P : PS} (ha : zp E M a n k P) : zMet E l y_P_isZero c_P_isZero 1 (some .boolean) { frames := 0, cells := 0, slots := 0, locals := 0 } 0 0 [.ref a] sz M (zRet (some (.int (if k = 0 then 1 else 0))) sz M) := by
  obtain ⟨f, ha0, ha1, hr, hkn, hn⟩ := ha
  have e : (if k = 0 then (1 : Int32) else 0) = if tI k < 0 then 1 else 0 := by simp only [tI_lt0 (n := k) (by omega)]
  rw [e]
  exact q_P_isZero E l sz M a ha0
theorem p_get (E : zE) (l : Launch) (sz : Nat) (M : zM) {a n k : Nat} {P : PS} (i : Nat) (hi : i < 2 ^ 20) (ha : zp E M a n k P) : zMet E l y_P_get c_P_get 2 (some .int) { frames := 0, cells := 0, slots := 0, locals := 0 } 0 0 [.ref a, .int (nI i)] sz M (zRet (some (.int (fI (P i)))) sz M) := by
  obtain ⟨f, ha0, ha1, hr, hkn, hn⟩ := ha
  have e : fI (P i) = if 0 ≤ nI i ∧ nI i ≤ tI k ∧ nI i < nI n then f (nI i).toNatClampNeg else 0 := by
    by_cases h : i < k
    · rw [if_pos ⟨nI_pos' (by omega), (tI_le (by omega) (by omega)).mpr h, nI_lt (by omega) (by omega)⟩, nI_clamp (by omega), hr.2.2 i h]
    · rw [if_neg (fun q => h ((tI_le (by omega) (by omega)).mp q.2.1)), hr.1 i (by omega), fI_0]
  rw [e]
  exact q_P_get E l sz M a (nI i) ha0 ha1 (by omega)
set_option maxHeartbeats 4000000 in
/-- Polynomial.lead -/
theorem p_lead (E : zE) (l : Launch) (sz : Nat) (M : zM) {a n k m : Nat} {P : PS} (ha : zp E M a n k P) (hk : k = m + 1) : zMet E l y_P_lead c_P_lead 1 (some .int) { frames := 1, cells := 0, slots := 0, locals := 21 } 0 0 [.ref a] sz M (zRet (some (.int (fI (P m)))) sz M) := by
  subst hk
  obtain ⟨f, ha0, ha1, hr, hkn, hn⟩ := id ha
  refine zMet.ofZ (by decide) (Nat.le_of_ble_eq_true rfl) ?_
  intro X hl hini C
  show Z X E 1 _ 0 0 sz M 0 [(0, .ref a)] []
  refine z_aload_n C d_P_lead_0 rfl rfl ?_
  refine z_aload_n C d_P_lead_1 rfl rfl ?_
  refine z_get C in_P ha0 rfl 1 (by decide) fl_P_9 rfl rfl d_P_lead_2 ?_
  refine z_top (y := nI m) (tI_s m) ?_
  refine z_callV (rest := []) (n := 1) (As := [.int (nI m)]) C (p_get E X.2.1 sz M m (by omega) ha) ⟨z_cb C k_P_get ml_P_19 ii_P rfl rfl (by decide +kernel) ⟨by decide, by decide⟩, C.2.2.2.2.1 _ im_P_get, C.2.2.2.2.1 _ se_P_get⟩ ha0 rfl rfl rfl (Nat.le_of_ble_eq_true rfl) d_P_lead_5 ⟨by decide, by decide⟩ ?_
  intro v_5 s_5 M_5 hp_5
  obtain ⟨rfl, rfl, rfl⟩ := hp_5
  show Z _ _ _ _ _ _ _ _ 8 _ [.int (fI (P m))]
  exact z_iret C ⟨rfl, rfl, rfl⟩ d_P_lead_8
set_option maxHeartbeats 4000000 in
/-- Polynomial.setConstant -/
theorem p_setConstant (E : zE) (l : Launch) (sz : Nat) (M : zM) {a n k : Nat} {P : PS} (ha : zp E M a n k P) (hn1 : 1 ≤ n) (c : FF) : zMet E l y_P_setConstant c_P_setConstant 2 none { frames := 0, cells := 0, slots := 0, locals := 0 } 0 0 [.ref a, .int (fI c)] sz M (fun v s M' => none = v ∧ sz = s ∧ zp E M' a n (if c = 0 then 0 else 1) (ps_C c) ∧ zout M M' a) := by
  obtain ⟨f, ha0, ha1, hr, hkn, hn⟩ := id ha
  refine zMet.ofZ (by decide) (Nat.le_of_ble_eq_true rfl) ?_
  intro X hl hini C
  show Z X E 2 _ 0 0 sz M 0 [(0, .ref a), (1, .int (fI c))] []
  refine z_aload_n C d_P_setConstant_0 rfl rfl ?_
  refine z_get C in_P ha0 rfl 0 (by decide) fl_P_15 rfl rfl d_P_setConstant_1 ?_
  refine z_iconst (v := 0) C d_P_setConstant_4 (by decide) ?_
  refine z_iload_n C d_P_setConstant_5 rfl rfl ?_
  refine z_iast C ha1 0 rfl 0 (rfl) (hn1) (by omega) d_P_setConstant_6 ?_
  refine z_aload_n C d_P_setConstant_7 rfl rfl ?_
  refine z_iload_n C d_P_setConstant_8 rfl rfl ?_
  refine z_if_ne (tgt := 16) C d_P_setConstant_9 (by decide) (fun c9 => ?_) (fun c9 => ?_)
  · have c9 : c ≠ 0 := fun q => c9 (fI_eq0.mpr q)
    refine z_iconst (v := tI 1) C d_P_setConstant_16 (by decide) ?_
    refine z_put C in_P ty_P tok_P nm_P ((zU_ne (by omega)).trans ha0) rfl 1 (by decide) fl_P_9 rfl rfl rfl (rfl) (rfl) (Nat.le_of_ble_eq_true rfl) d_P_setConstant_17 ?_
    show Z _ _ _ _ _ _ _ (zU (zU M (a + 1) (.inl (E.2.1 0, n, .inl (upd f 0 (fI c))))) a (.inr (3, [.ref (a + 1), .int (tI 1)]))) _ _ _
    refine z_vret C ⟨rfl, rfl, ?_, fun q h1 h2 => (zU_ne h1).trans (zU_ne h2)⟩ d_P_setConstant_20
    rw [if_neg c9]
    refine ⟨upd f 0 (fI c), zU_eq, (zU_ne (by omega)).trans zU_eq, ?_, by omega, hn⟩
    exact ⟨fun i hi => by simp [ps_C, show i ≠ 0 by omega], fun m hm => by rw [show m = 0 by omega]; simpa [ps_C] using c9, fun i hi => by rw [show i = 0 by omega, upd_eq]; simp [ps_C]⟩
  · have c9 : c = 0 := fI_eq0.mp c9
    refine z_iconst (v := tI 0) C d_P_setConstant_12 (by decide) ?_
    refine z_goto (tgt := 17) C d_P_setConstant_13 (by decide) ?_
    refine z_put C in_P ty_P tok_P nm_P ((zU_ne (by omega)).trans ha0) rfl 1 (by decide) fl_P_9 rfl rfl rfl (rfl) (rfl) (Nat.le_of_ble_eq_true rfl) d_P_setConstant_17 ?_
    show Z _ _ _ _ _ _ _ (zU (zU M (a + 1) (.inl (E.2.1 0, n, .inl (upd f 0 (fI c))))) a (.inr (3, [.ref (a + 1), .int (tI 0)]))) _ _ _
    refine z_vret C ⟨rfl, rfl, ?_, fun q h1 h2 => (zU_ne h1).trans (zU_ne h2)⟩ d_P_setConstant_20
    rw [if_pos c9]
    refine ⟨upd f 0 (fI c), zU_eq, (zU_ne (by omega)).trans zU_eq, ?_, by omega, hn⟩
    rw [c9]; exact ⟨fun i _ => by simp [ps_C], fun m hm => absurd hm (by omega), fun i hi => absurd hi (by omega)⟩
set_option maxHeartbeats 4000000 in
/-- Polynomial.setLetter -/
theorem p_setLetter (E : zE) (l : Launch) (sz : Nat) (M : zM) {a n k : Nat} {P : PS} (ha : zp E M a n k P) (hn1 : 2 ≤ n) : zMet E l y_P_setLetter c_P_setLetter 1 none { frames := 0, cells := 0, slots := 0, locals := 0 } 0 0 [.ref a] sz M (fun v s M' => none = v ∧ sz = s ∧ zp E M' a n 2 (mono 1 1) ∧ zout M M' a) := by
  obtain ⟨f, ha0, ha1, hr, hkn, hn⟩ := id ha
  refine zMet.ofZ (by decide) (Nat.le_of_ble_eq_true rfl) ?_
  intro X hl hini C
  show Z X E 1 _ 0 0 sz M 0 [(0, .ref a)] []
  refine z_aload_n C d_P_setLetter_0 rfl rfl ?_
  refine z_get C in_P ha0 rfl 0 (by decide) fl_P_15 rfl rfl d_P_setLetter_1 ?_
  refine z_iconst (v := 0) C d_P_setLetter_4 (by decide) ?_
  refine z_iconst (v := 0) C d_P_setLetter_5 (by decide) ?_
  refine z_iast C ha1 0 rfl 0 (rfl) (by omega) (by omega) d_P_setLetter_6 ?_
  refine z_aload_n C d_P_setLetter_7 rfl rfl ?_
  refine z_get C in_P ((zU_ne (by omega)).trans ha0) rfl 0 (by decide) fl_P_15 rfl rfl d_P_setLetter_8 ?_
  refine z_iconst (v := 1) C d_P_setLetter_11 (by decide) ?_
  refine z_iconst (v := 1) C d_P_setLetter_12 (by decide) ?_
  refine z_iast C zU_eq 0 rfl 1 (rfl) (by omega) (by omega) d_P_setLetter_13 ?_
  refine z_world zU_uu ?_
  refine z_aload_n C d_P_setLetter_14 rfl rfl ?_
  refine z_iconst (v := tI 2) C d_P_setLetter_15 (by decide) ?_
  refine z_put C in_P ty_P tok_P nm_P ((zU_ne (by omega)).trans ha0) rfl 1 (by decide) fl_P_9 rfl rfl rfl (rfl) (rfl) (Nat.le_of_ble_eq_true rfl) d_P_setLetter_16 ?_
  show Z _ _ _ _ _ _ _ (zU (zU M (a + 1) (.inl (E.2.1 0, n, .inl (upd (upd f 0 0) 1 1)))) a (.inr (3, [.ref (a + 1), .int (tI 2)]))) _ _ _
  refine z_vret C ⟨rfl, rfl, ⟨upd (upd f 0 0) 1 1, zU_eq, (zU_ne (by omega)).trans zU_eq, ⟨fun i hi => ?_, fun m hm => ?_, fun i hi => ?_⟩, by omega, hn⟩, fun q h1 h2 => (zU_ne h1).trans (zU_ne h2)⟩ d_P_setLetter_19
  · simp [mono, show i ≠ 1 by omega]
  · rw [show m = 1 by omega]; simp [mono]
  · rcases (show i = 0 ∨ i = 1 by omega) with rfl | rfl
    · rw [upd_ne (by omega), upd_eq]; simp [mono, fI_0]
    · rw [upd_eq]; simp [mono, fI_1]
set_option maxHeartbeats 4000000 in
/-- Polynomial.trimFrom -/
theorem p_trimFrom (E : zE) (l : Launch) (sz : Nat) (M : zM) {a n m : Nat} {t : Int32} {f : Nat → Int32} {P : PS} (ha0 : M a = some (.inr (3, [.ref (a + 1), .int t]))) (ha1 : M (a + 1) = some (.inl (E.2.1 0, n, .inl f))) (hm : m ≤ n) (hn : n < 1000) (hP : ∀ i, m ≤ i → P i = 0) (hf : ∀ i, i < m → f i = fI (P i)) : zMet E l y_P_trimFrom c_P_trimFrom 3 none { frames := 0, cells := 0, slots := 0, locals := 0 } 0 0 [.ref a, .int (tI m)] sz M (fun v s M' => none = v ∧ sz = s ∧ (∃ k, zp E M' a n k P) ∧ zout M M' a) := by
  refine zMet.ofZ (by decide) (Nat.le_of_ble_eq_true rfl) ?_
  intro X hl hini C
  have loop : ∀ (i : Nat), i ≤ m → (∀ j, i ≤ j → P j = 0) → Z X E 3 (zQ X E 0 0 (fun v s M' => none = v ∧ sz = s ∧ (∃ k, zp E M' a n k P) ∧ zout M M' a)) 0 0 sz (zU M a (.inr (3, [.ref (a + 1), .int (tI 0)]))) 7 [(0, .ref a), (1, .int (tI m)), (2, .int (tI i))] [] := by
    intro i
    induction i with
    | zero =>
      intro hi hz
      refine z_iload_n C d_P_trimFrom_7 rfl rfl ?_
      refine z_if_lt (tgt := 38) C d_P_trimFrom_8 (by decide) (fun _ => ?_) (fun c_8 => absurd (by decide) c_8)
      exact z_vret C ⟨rfl, rfl, ⟨0, f, zU_eq, (zU_ne (by omega)).trans ha1, ⟨hz, fun m hm => absurd hm (by omega), fun i hi => absurd hi (by omega)⟩, by omega, hn⟩, zout_u0⟩ d_P_trimFrom_38
    | succ i ih =>
      intro hi hz
      refine z_iload_n C d_P_trimFrom_7 rfl rfl ?_
      refine z_if_lt (tgt := 38) C d_P_trimFrom_8 (by decide) (fun c_8 => absurd c_8 (by rw [tI_s]; exact nI_pos (by omega))) (fun _ => ?_)
      refine z_aload_n C d_P_trimFrom_11 rfl rfl ?_
      refine z_get C in_P zU_eq rfl 1 (by decide) fl_P_9 rfl rfl d_P_trimFrom_12 ?_
      refine z_if_ge (tgt := 38) C d_P_trimFrom_15 (by decide) (fun c_15 => absurd c_15 (by decide)) (fun _ => ?_)
      refine z_aload_n C d_P_trimFrom_18 rfl rfl ?_
      refine z_get C in_P zU_eq rfl 0 (by decide) fl_P_15 rfl rfl d_P_trimFrom_19 ?_
      refine z_iload_n C d_P_trimFrom_22 rfl rfl ?_
      refine z_iald C ((zU_ne (by omega)).trans ha1) 0 rfl i (tI_s i) (by omega) (by omega) d_P_trimFrom_23 ?_
      refine z_top (y := fI (P i)) (hf i (by omega)) ?_
      refine z_if_eq (tgt := 32) C d_P_trimFrom_24 (by decide) (fun c24 => ?_) (fun c24 => ?_)
      · have c24 : P i = 0 := fI_eq0.mp c24
        refine z_iinc (v := tI i) (L' := [(0, .ref a), (1, .int (tI m)), (2, .int (tI i))]) C d_P_trimFrom_32 rfl (tI_dec i) (by decide) rfl ?_
        refine z_goto (tgt := 7) C d_P_trimFrom_35 (by decide) ?_
        exact ih (by omega) (fun j hj => by
          rcases Nat.lt_or_ge i j with q | q
          · exact hz j q
          · rw [show j = i by omega]; exact c24)
      · have hnz : P i ≠ 0 := fun q => c24 (fI_eq0.mpr q)
        refine z_aload_n C d_P_trimFrom_27 rfl rfl ?_
        refine z_iload_n C d_P_trimFrom_28 rfl rfl ?_
        refine z_put C in_P ty_P tok_P nm_P zU_eq rfl 1 (by decide) fl_P_9 rfl rfl rfl (rfl) (rfl) (Nat.le_of_ble_eq_true rfl) d_P_trimFrom_29 ?_
        show Z _ _ _ _ _ _ _ (zU (zU M a (.inr (3, [.ref (a + 1), .int (tI 0)]))) a (.inr (3, [.ref (a + 1), .int (tI (i + 1))]))) _ _ _
        refine z_world zU_uu ?_
        refine z_iinc (v := tI i) (L' := [(0, .ref a), (1, .int (tI m)), (2, .int (tI i))]) C d_P_trimFrom_32 rfl (tI_dec i) (by decide) rfl ?_
        refine z_goto (tgt := 7) C d_P_trimFrom_35 (by decide) ?_
        refine z_iload_n C d_P_trimFrom_7 rfl rfl ?_
        refine z_if_lt (tgt := 38) C d_P_trimFrom_8 (by decide) (fun c8 => ?_) (fun c8 => ?_)
        · exact z_vret C ⟨rfl, rfl, ⟨i + 1, f, zU_eq, (zU_ne (by omega)).trans ha1, ⟨hz, fun j hj => by rw [show j = i by omega]; exact hnz, fun j hj => hf j (by omega)⟩, by omega, hn⟩, zout_u0⟩ d_P_trimFrom_38
        · refine z_aload_n C d_P_trimFrom_11 rfl rfl ?_
          refine z_get C in_P zU_eq rfl 1 (by decide) fl_P_9 rfl rfl d_P_trimFrom_12 ?_
          refine z_if_ge (tgt := 38) C d_P_trimFrom_15 (by decide) (fun _ => ?_) (fun c_15 => absurd (by rw [tI_s]; exact nI_pos' (by omega)) c_15)
          exact z_vret C ⟨rfl, rfl, ⟨i + 1, f, zU_eq, (zU_ne (by omega)).trans ha1, ⟨hz, fun j hj => by rw [show j = i by omega]; exact hnz, fun j hj => hf j (by omega)⟩, by omega, hn⟩, zout_u0⟩ d_P_trimFrom_38
  show Z X E 3 _ 0 0 sz M 0 [(0, .ref a), (1, .int (tI m))] []
  refine z_aload_n C d_P_trimFrom_0 rfl rfl ?_
  refine z_iconst (v := tI 0) C d_P_trimFrom_1 (by decide) ?_
  refine z_put C in_P ty_P tok_P nm_P ha0 rfl 1 (by decide) fl_P_9 rfl rfl rfl (rfl) (rfl) (Nat.le_of_ble_eq_true rfl) d_P_trimFrom_2 ?_
  show Z _ _ _ _ _ _ _ (zU M a (.inr (3, [.ref (a + 1), .int (tI 0)]))) _ _ _
  refine z_iload_n C d_P_trimFrom_5 rfl rfl ?_
  refine z_istore_n (L' := [(0, .ref a), (1, .int (tI m)), (2, .int (tI m))]) C d_P_trimFrom_6 rfl (by decide) rfl ?_
  exact loop m (Nat.le_refl m) hP
end
section
set_option maxHeartbeats 4000000 in
/-- Polynomial.trimFrom of a number below 0 -/
theorem p_trimNeg (E : zE) (l : Launch) (sz : Nat) (M : zM) {a n : Nat} {t x : Int32} {f : Nat → Int32} {P : PS} (ha0 : M a = some (.inr (3, [.ref (a + 1), .int t]))) (ha1 : M (a + 1) = some (.inl (E.2.1 0, n, .inl f))) (hx : x < 0) (hn : n < 1000) (hP : ∀ i, P i = 0) : zMet E l y_P_trimFrom c_P_trimFrom 3 none { frames := 0, cells := 0, slots := 0, locals := 0 } 0 0 [.ref a, .int x] sz M (fun v s M' => none = v ∧ sz = s ∧ (∃ k, zp E M' a n k P) ∧ zout M M' a) := by
  refine zMet.ofZ (by decide) (Nat.le_of_ble_eq_true rfl) ?_
  intro X hl hini C
  show Z X E 3 _ 0 0 sz M 0 [(0, .ref a), (1, .int x)] []
  refine z_aload_n C d_P_trimFrom_0 rfl rfl ?_
  refine z_iconst (v := tI 0) C d_P_trimFrom_1 (by decide) ?_
  refine z_put C in_P ty_P tok_P nm_P ha0 rfl 1 (by decide) fl_P_9 rfl rfl rfl (rfl) (rfl) (Nat.le_of_ble_eq_true rfl) d_P_trimFrom_2 ?_
  show Z _ _ _ _ _ _ _ (zU M a (.inr (3, [.ref (a + 1), .int (tI 0)]))) _ _ _
  refine z_iload_n C d_P_trimFrom_5 rfl rfl ?_
  refine z_istore_n (L' := [(0, .ref a), (1, .int x), (2, .int x)]) C d_P_trimFrom_6 rfl (by decide) rfl ?_
  refine z_iload_n C d_P_trimFrom_7 rfl rfl ?_
  refine z_if_lt (tgt := 38) C d_P_trimFrom_8 (by decide) (fun _ => ?_) (fun c_8 => absurd (hx) c_8)
  exact z_vret C ⟨rfl, rfl, ⟨0, f, zU_eq, (zU_ne (by omega)).trans ha1, ⟨fun i _ => hP i, fun m hm => absurd hm (by omega), fun i hi => absurd hi (by omega)⟩, by omega, hn⟩, zout_u0⟩ d_P_trimFrom_38
set_option maxHeartbeats 4000000 in
/-- Polynomial.copy -/
theorem p_copy (E : zE) (l : Launch) (sz : Nat) (M : zM) {a n k b nb kb : Nat} {P B : PS} (ha : zp E M a n k P) (hb : zp E M b nb kb B) (hne : a ≠ b) (hk : kb ≤ n) : zMet E l y_P_copy c_P_copy 3 none { frames := 1, cells := 0, slots := 0, locals := 21 } 0 0 [.ref a, .ref b] sz M (fun v s M' => none = v ∧ sz = s ∧ zp E M' a n kb B ∧ zout M M' a) := by
  obtain ⟨f, ha0, ha1, hr, hkn, hn⟩ := id ha
  obtain ⟨fb, hb0, hb1, hrb, hknb, hnb⟩ := id hb
  have eab := z_apart ha1 hb0
  have eba := z_apart hb1 ha0
  refine zMet.ofZ (by decide) (Nat.le_of_ble_eq_true rfl) ?_
  intro X hl hini C
  have loop : ∀ (m i : Nat) (g : Nat → Int32), i ≤ kb → kb + 1 ≤ i + m → (∀ j, j < i → g j = fI (B j)) → Z X E 3 (zQ X E 0 0 (fun v s M' => none = v ∧ sz = s ∧ zp E M' a n kb B ∧ zout M M' a)) 0 0 sz (zU (zU M a (.inr (3, [.ref (a + 1), .int (tI kb)]))) (a + 1) (.inl (E.2.1 0, n, .inl g))) 20 [(0, .ref a), (1, .ref b), (2, .int (nI i))] [] := by
    intro m
    induction m with
    | zero => intro i g h1 h2; omega
    | succ m ih =>
      intro i g hi hm hg
      refine z_iload_n C d_P_copy_20 rfl rfl ?_
      refine z_aload_n C d_P_copy_21 rfl rfl ?_
      refine z_get C in_P ((zU_ne (by omega)).trans zU_eq) rfl 1 (by decide) fl_P_9 rfl rfl d_P_copy_22 ?_
      refine z_icmp_gt (tgt := 46) C d_P_copy_25 (by decide) (fun c25 => ?_) (fun c25 => ?_)
      · have c25 := (tI_gtn (by omega) (by omega)).mp c25
        exact z_vret C ⟨rfl, rfl, ⟨g, (zU_ne (by omega)).trans zU_eq, zU_eq, ⟨hrb.1, hrb.2.1, fun j hj => hg j (by omega)⟩, hk, hn⟩, zout_uu⟩ d_P_copy_46
      · have c25 : i < kb := Nat.not_le.mp (fun q => c25 ((tI_gtn (by omega) (by omega)).mpr q))
        refine z_aload_n C d_P_copy_28 rfl rfl ?_
        refine z_get C in_P ((zU_ne (by omega)).trans zU_eq) rfl 0 (by decide) fl_P_15 rfl rfl d_P_copy_29 ?_
        refine z_iload_n C d_P_copy_32 rfl rfl ?_
        refine z_aload_n C d_P_copy_33 rfl rfl ?_
        refine z_get C in_P ((zU_ne (by omega)).trans ((zU_ne (by omega)).trans hb0)) rfl 0 (by decide) fl_P_15 rfl rfl d_P_copy_34 ?_
        refine z_iload_n C d_P_copy_37 rfl rfl ?_
        refine z_iald C ((zU_ne (by omega)).trans ((zU_ne (by omega)).trans hb1)) 0 rfl i (rfl) (by omega) (by omega) d_P_copy_38 ?_
        refine z_top (y := fI (B i)) (hrb.2.2 i c25) ?_
        refine z_iast C zU_eq 0 rfl i (rfl) (by omega) (by omega) d_P_copy_39 ?_
        refine z_world zU_uu ?_
        refine z_iinc (v := nI (i + 1)) (L' := [(0, .ref a), (1, .ref b), (2, .int (nI (i + 1)))]) C d_P_copy_40 rfl (nI_1 i) (by decide) rfl ?_
        refine z_goto (tgt := 20) C d_P_copy_43 (by decide) ?_
        exact ih (i + 1) _ (by omega) (by omega) (inv_up hg rfl)
  show Z X E 3 _ 0 0 sz M 0 [(0, .ref a), (1, .ref b)] []
  refine z_aload_n C d_P_copy_0 rfl rfl ?_
  refine z_aload_n C d_P_copy_1 rfl rfl ?_
  refine z_get C in_P hb0 rfl 1 (by decide) fl_P_9 rfl rfl d_P_copy_2 ?_
  refine z_aload_n C d_P_copy_5 rfl rfl ?_
  refine z_get C in_P ha0 rfl 0 (by decide) fl_P_15 rfl rfl d_P_copy_6 ?_
  refine z_alen (v := nI n) C ha1 0 rfl (rfl) d_P_copy_9 ?_
  refine z_iconst (v := 1) C d_P_copy_10 (by decide) ?_
  refine z_isub C d_P_copy_11 ?_
  refine z_mmin C ml_P_23 sm_jM_min ii_jM k_jM_min (by decide) (Nat.le_of_ble_eq_true rfl) (Nat.zero_le _) (Nat.zero_le _) d_P_copy_12 ?_
  refine z_top (y := tI kb) (if_neg (fun q => absurd ((tI_lt (n := n) (m := kb) (by omega) (by omega)).mp q) (by omega))) ?_
  refine z_put C in_P ty_P tok_P nm_P ha0 rfl 1 (by decide) fl_P_9 rfl rfl rfl (rfl) (rfl) (Nat.le_of_ble_eq_true rfl) d_P_copy_15 ?_
  show Z _ _ _ _ _ _ _ (zU M a (.inr (3, [.ref (a + 1), .int (tI kb)]))) _ _ _
  refine z_iconst (v := nI 0) C d_P_copy_18 (by decide) ?_
  refine z_istore_n (L' := [(0, .ref a), (1, .ref b), (2, .int (nI 0))]) C d_P_copy_19 rfl (by decide) rfl ?_
  refine z_world (zU_id (a := a + 1) (e := .inl (E.2.1 0, n, .inl f)) ((zU_ne (by omega)).trans ha1)).symm ?_
  exact loop (kb + 1) 0 f (by omega) (by omega) (fun j hj => absurd hj (by omega))
set_option maxHeartbeats 4000000 in
/-- Polynomial.isSame -/
theorem p_isSame (E : zE) (l : Launch) (sz : Nat) (M : zM) {a n k b nb kb : Nat} {P B : PS} (ha : zp E M a n k P) (hb : zp E M b nb kb B) : zMet E l y_P_isSame c_P_isSame 3 (some .boolean) { frames := 1, cells := 0, slots := 0, locals := 21 } 0 0 [.ref a, .ref b] sz M (fun v s M' => sz = s ∧ M = M' ∧ ((P = B ∧ some (.int 1) = v) ∨ (P ≠ B ∧ some (.int 0) = v))) := by
  obtain ⟨f, ha0, ha1, hr, hkn, hn⟩ := id ha
  obtain ⟨fb, hb0, hb1, hrb, hknb, hnb⟩ := id hb
  refine zMet.ofZ (by decide) (Nat.le_of_ble_eq_true rfl) ?_
  intro X hl hini C
  have loop : k = kb → ∀ (m i : Nat), i ≤ k → k + 1 ≤ i + m → (∀ j, j < i → P j = B j) → Z X E 3 (zQ X E 0 0 (fun v s M' => sz = s ∧ M = M' ∧ ((P = B ∧ some (.int 1) = v) ∨ (P ≠ B ∧ some (.int 0) = v)))) 0 0 sz M 15 [(0, .ref a), (1, .ref b), (2, .int (nI i))] [] := by
    intro hkk m
    induction m with
    | zero => intro i h1 h2; omega
    | succ m ih =>
      intro i hi hm hg
      refine z_iload_n C d_P_isSame_15 rfl rfl ?_
      refine z_aload_n C d_P_isSame_16 rfl rfl ?_
      refine z_get C in_P ha0 rfl 1 (by decide) fl_P_9 rfl rfl d_P_isSame_17 ?_
      refine z_icmp_gt (tgt := 45) C d_P_isSame_20 (by decide) (fun c20 => ?_) (fun c20 => ?_)
      · have c20 := (tI_gtn (by omega) (by omega)).mp c20
        have hPB : P = B := by
          funext j
          rcases Nat.lt_or_ge j k with q | q
          · exact hg j (by omega)
          · rw [hr.1 j q, hrb.1 j (by omega)]
        refine z_iconst (v := 1) C d_P_isSame_45 (by decide) ?_
        exact z_zret C rfl ⟨rfl, rfl, Or.inl ⟨hPB, rfl⟩⟩ d_P_isSame_46
      · have c20 : i < k := Nat.not_le.mp (fun q => c20 ((tI_gtn (by omega) (by omega)).mpr q))
        refine z_aload_n C d_P_isSame_23 rfl rfl ?_
        refine z_get C in_P ha0 rfl 0 (by decide) fl_P_15 rfl rfl d_P_isSame_24 ?_
        refine z_iload_n C d_P_isSame_27 rfl rfl ?_
        refine z_iald C ha1 0 rfl i (rfl) (by omega) (by omega) d_P_isSame_28 ?_
        refine z_top (y := fI (P i)) (hr.2.2 i c20) ?_
        refine z_aload_n C d_P_isSame_29 rfl rfl ?_
        refine z_iload_n C d_P_isSame_30 rfl rfl ?_
        refine z_callV (rest := [.int (fI (P i))]) (n := 1) (As := [.int (nI i)]) C (p_get E X.2.1 sz M i (by omega) hb) ⟨z_cb C k_P_get ml_P_19 ii_P rfl rfl (by decide +kernel) ⟨by decide, by decide⟩, C.2.2.2.2.1 _ im_P_get, C.2.2.2.2.1 _ se_P_get⟩ hb0 rfl rfl rfl (Nat.le_of_ble_eq_true rfl) d_P_isSame_31 ⟨by decide, by decide⟩ ?_
        intro v_31 s_31 M_31 hp_31
        obtain ⟨rfl, rfl, rfl⟩ := hp_31
        show Z _ _ _ _ _ _ _ _ 34 _ [.int (fI (B i)), .int (fI (P i))]
        refine z_icmp_eq (tgt := 39) C d_P_isSame_34 (by decide) (fun c34 => ?_) (fun c34 => ?_)
        · have c34 : P i = B i := fI_inj.mp c34
          refine z_iinc (v := nI (i + 1)) (L' := [(0, .ref a), (1, .ref b), (2, .int (nI (i + 1)))]) C d_P_isSame_39 rfl (nI_1 i) (by decide) rfl ?_
          refine z_goto (tgt := 15) C d_P_isSame_42 (by decide) ?_
          exact ih (i + 1) (by omega) (by omega) (fun j hj => by
            rcases Nat.lt_or_ge j i with q | q
            · exact hg j q
            · rw [show j = i by omega]; exact c34)
        · have hPB : P ≠ B := fun q => c34 (by rw [q])
          refine z_iconst (v := 0) C d_P_isSame_37 (by decide) ?_
          exact z_zret C rfl ⟨rfl, rfl, Or.inr ⟨hPB, rfl⟩⟩ d_P_isSame_38
  show Z X E 3 _ 0 0 sz M 0 [(0, .ref a), (1, .ref b)] []
  refine z_aload_n C d_P_isSame_0 rfl rfl ?_
  refine z_get C in_P ha0 rfl 1 (by decide) fl_P_9 rfl rfl d_P_isSame_1 ?_
  refine z_aload_n C d_P_isSame_4 rfl rfl ?_
  refine z_get C in_P hb0 rfl 1 (by decide) fl_P_9 rfl rfl d_P_isSame_5 ?_
  refine z_icmp_eq (tgt := 13) C d_P_isSame_8 (by decide) (fun c8 => ?_) (fun c8 => ?_)
  · have c8 := (tI_eq (by omega) (by omega)).mp c8
    refine z_iconst (v := nI 0) C d_P_isSame_13 (by decide) ?_
    refine z_istore_n (L' := [(0, .ref a), (1, .ref b), (2, .int (nI 0))]) C d_P_isSame_14 rfl (by decide) rfl ?_
    exact loop c8 (k + 1) 0 (by omega) (by omega) (fun j hj => absurd hj (by omega))
  · have hPB : P ≠ B := fun q => c8 (by
      subst q
      rw [rep_un hr hrb])
    refine z_iconst (v := 0) C d_P_isSame_11 (by decide) ?_
    exact z_zret C rfl ⟨rfl, rfl, Or.inr ⟨hPB, rfl⟩⟩ d_P_isSame_12
set_option maxHeartbeats 4000000 in
/-- Polynomial.scale -/
theorem p_scale (E : zE) (l : Launch) (sz : Nat) (M : zM) {a n k : Nat} {P : PS} (ha : zp E M a n k P) (c : FF) : zMet E l y_P_scale c_P_scale 3 none { frames := 1, cells := 0, slots := 0, locals := 22 } 0 0 [.ref a, .int (fI c)] sz M (fun v s M' => none = v ∧ sz = s ∧ (∃ k', zp E M' a n k' (ps_mul (ps_C c) P)) ∧ zout M M' a) := by
  obtain ⟨f, ha0, ha1, hr, hkn, hn⟩ := id ha
  refine zMet.ofZ (by decide) (Nat.le_of_ble_eq_true rfl) ?_
  intro X hl hini C
  have loop : ∀ (m i : Nat) (g : Nat → Int32), i ≤ k → k + 1 ≤ i + m → (∀ j, j < i → g j = fI (ps_mul (ps_C c) P j)) → (∀ j, i ≤ j → g j = f j) → Z X E 3 (zQ X E 0 0 (fun v s M' => none = v ∧ sz = s ∧ (∃ k', zp E M' a n k' (ps_mul (ps_C c) P)) ∧ zout M M' a)) 0 0 sz (zU M (a + 1) (.inl (E.2.1 0, n, .inl g))) 2 [(0, .ref a), (1, .int (fI c)), (2, .int (nI i))] [] := by
    intro m
    induction m with
    | zero => intro i g h1 h2; omega
    | succ m ih =>
      intro i g hi hm hg hf
      refine z_iload_n C d_P_scale_2 rfl rfl ?_
      refine z_aload_n C d_P_scale_3 rfl rfl ?_
      refine z_get C in_P ((zU_ne (by omega)).trans ha0) rfl 1 (by decide) fl_P_9 rfl rfl d_P_scale_4 ?_
      refine z_icmp_gt (tgt := 34) C d_P_scale_7 (by decide) (fun c7 => ?_) (fun c7 => ?_)
      · have c7 := (tI_gtn (by omega) (by omega)).mp c7
        refine z_aload_n C d_P_scale_34 rfl rfl ?_
        refine z_aload_n C d_P_scale_35 rfl rfl ?_
        refine z_get C in_P ((zU_ne (by omega)).trans ha0) rfl 1 (by decide) fl_P_9 rfl rfl d_P_scale_36 ?_
        refine z_callV (rest := []) (n := 1) (As := [.int (tI k)]) C (p_trimFrom (P := ps_mul (ps_C c) P) E X.2.1 sz _ ((zU_ne (by omega)).trans ha0) zU_eq hkn hn (fun i hi => by simp only [ps_mul, ps_mC, hr.1 i hi]; grind) (fun i hi => hg i (by omega))) ⟨z_cb C k_P_trimFrom ml_P_33 ii_P rfl rfl (by decide +kernel) ⟨by decide, by decide⟩, C.2.2.2.2.1 _ im_P_trimFrom, C.2.2.2.2.1 _ se_P_trimFrom⟩ ((zU_ne (by omega)).trans ha0) rfl rfl rfl (Nat.le_of_ble_eq_true rfl) d_P_scale_39 ⟨by decide, by decide⟩ ?_
        intro v_39 s_39 M_39 hp_39
        obtain ⟨rfl, rfl, hz, ho⟩ := hp_39
        show Z _ _ _ _ _ _ _ _ 42 _ []
        exact z_vret C ⟨rfl, rfl, hz, zout_tr zout_u1 ho⟩ d_P_scale_42
      · have c7 : i < k := Nat.not_le.mp (fun q => c7 ((tI_gtn (by omega) (by omega)).mpr q))
        refine z_aload_n C d_P_scale_10 rfl rfl ?_
        refine z_get C in_P ((zU_ne (by omega)).trans ha0) rfl 0 (by decide) fl_P_15 rfl rfl d_P_scale_11 ?_
        refine z_iload_n C d_P_scale_14 rfl rfl ?_
        refine z_aload_n C d_P_scale_15 rfl rfl ?_
        refine z_get C in_P ((zU_ne (by omega)).trans ha0) rfl 0 (by decide) fl_P_15 rfl rfl d_P_scale_16 ?_
        refine z_iload_n C d_P_scale_19 rfl rfl ?_
        refine z_iald C zU_eq 0 rfl i (rfl) (by omega) (by omega) d_P_scale_20 ?_
        refine z_top (y := fI (P i)) ((hf i (Nat.le_refl i)).trans (hr.2.2 i c7)) ?_
        refine z_iload_n C d_P_scale_21 rfl rfl ?_
        refine z_imul C d_P_scale_22 ?_
        refine z_sipush (v := 10007) C d_P_scale_23 (by decide) ?_
        refine z_irem C d_P_scale_26 (by decide) ?_
        refine z_top (y := fI (ps_mul (ps_C c) P i)) (by rw [fI_mul, ff_cm]; simp only [ps_mul, ps_mC]) ?_
        refine z_iast C zU_eq 0 rfl i (rfl) (by omega) (by omega) d_P_scale_27 ?_
        refine z_world zU_uu ?_
        refine z_iinc (v := nI (i + 1)) (L' := [(0, .ref a), (1, .int (fI c)), (2, .int (nI (i + 1)))]) C d_P_scale_28 rfl (nI_1 i) (by decide) rfl ?_
        refine z_goto (tgt := 2) C d_P_scale_31 (by decide) ?_
        exact ih (i + 1) _ (by omega) (by omega) (inv_up hg rfl) (inv_keep hf)
  show Z X E 3 _ 0 0 sz M 0 [(0, .ref a), (1, .int (fI c))] []
  refine z_iconst (v := nI 0) C d_P_scale_0 (by decide) ?_
  refine z_istore_n (L' := [(0, .ref a), (1, .int (fI c)), (2, .int (nI 0))]) C d_P_scale_1 rfl (by decide) rfl ?_
  refine z_world (zU_id (a := a + 1) (e := .inl (E.2.1 0, n, .inl f)) ha1).symm ?_
  exact loop (k + 1) 0 f (by omega) (by omega) (fun j hj => absurd hj (by omega)) (fun _ _ => rfl)
set_option maxHeartbeats 4000000 in
/-- Polynomial.valueAt -/
theorem p_valueAt (E : zE) (l : Launch) (sz : Nat) (M : zM) {a n k : Nat} {P : PS} (ha : zp E M a n k P) (c : FF) : zMet E l y_P_valueAt c_P_valueAt 4 (some .int) { frames := 0, cells := 0, slots := 0, locals := 0 } 0 0 [.ref a, .int (fI c)] sz M (zRet (some (.int (fI (ev k P c)))) sz M) := by
  obtain ⟨f, ha0, ha1, hr, hkn, hn⟩ := id ha
  refine zMet.ofZ (by decide) (Nat.le_of_ble_eq_true rfl) ?_
  intro X hl hini C
  have loop : ∀ (i : Nat), i ≤ k → Z X E 4 (zQ X E 0 0 (zRet (some (.int (fI (ev k P c)))) sz M)) 0 0 sz M 7 [(0, .ref a), (1, .int (fI c)), (2, .int (fI (ev (k - i) (fun j => P (i + j)) c))), (3, .int (tI i))] [] := by
    intro i
    induction i with
    | zero =>
      intro hi
      refine z_iload_n C d_P_valueAt_7 rfl rfl ?_
      refine z_if_lt (tgt := 32) C d_P_valueAt_8 (by decide) (fun _ => ?_) (fun c_8 => absurd (by decide) c_8)
      refine z_iload_n C d_P_valueAt_32 rfl rfl ?_
      exact z_iret C ⟨by rw [Nat.sub_zero, show (fun j => P (0 + j)) = P by funext j; rw [Nat.zero_add]], rfl, rfl⟩ d_P_valueAt_33
    | succ i ih =>
      intro hi
      have e : ev (k - i) (fun j => P (i + j)) c = P i + c * ev (k - (i + 1)) (fun j => P (i + 1 + j)) c := by
        rw [show k - i = (k - (i + 1)) + 1 by omega, ev]
        rw [show ps_sh (fun j => P (i + j)) = (fun j => P (i + 1 + j)) by funext j; simp only [ps_sh]; congr 1; omega]
        rw [Nat.add_zero]
      refine z_iload_n C d_P_valueAt_7 rfl rfl ?_
      refine z_if_lt (tgt := 32) C d_P_valueAt_8 (by decide) (fun c_8 => absurd c_8 (by rw [tI_s]; exact nI_pos (by omega))) (fun _ => ?_)
      refine z_iload_n C d_P_valueAt_11 rfl rfl ?_
      refine z_iload_n C d_P_valueAt_12 rfl rfl ?_
      refine z_imul C d_P_valueAt_13 ?_
      refine z_aload_n C d_P_valueAt_14 rfl rfl ?_
      refine z_get C in_P ha0 rfl 0 (by decide) fl_P_15 rfl rfl d_P_valueAt_15 ?_
      refine z_iload_n C d_P_valueAt_18 rfl rfl ?_
      refine z_iald C ha1 0 rfl i (tI_s i) (by omega) (by omega) d_P_valueAt_19 ?_
      refine z_top (y := fI (P i)) (hr.2.2 i (by omega)) ?_
      refine z_iadd C d_P_valueAt_20 ?_
      refine z_sipush (v := 10007) C d_P_valueAt_21 (by decide) ?_
      refine z_irem C d_P_valueAt_24 (by decide) ?_
      refine z_top (y := fI (ev (k - i) (fun j => P (i + j)) c)) (by rw [fI_madd', e]; congr 1; grind) ?_
      refine z_istore_n (L' := [(0, .ref a), (1, .int (fI c)), (2, .int (fI (ev (k - i) (fun j => P (i + j)) c))), (3, .int (tI (i + 1)))]) C d_P_valueAt_25 rfl (by decide) rfl ?_
      refine z_iinc (v := tI i) (L' := [(0, .ref a), (1, .int (fI c)), (2, .int (fI (ev (k - i) (fun j => P (i + j)) c))), (3, .int (tI i))]) C d_P_valueAt_26 rfl (tI_dec i) (by decide) rfl ?_
      refine z_goto (tgt := 7) C d_P_valueAt_29 (by decide) ?_
      exact ih (by omega)
  show Z X E 4 _ 0 0 sz M 0 [(0, .ref a), (1, .int (fI c))] []
  refine z_iconst (v := fI (ev (k - k) (fun j => P (k + j)) c)) C d_P_valueAt_0 (by rw [Nat.sub_self]; exact fI_0.symm) ?_
  refine z_istore_n (L' := [(0, .ref a), (1, .int (fI c)), (2, .int (fI (ev (k - k) (fun j => P (k + j)) c)))]) C d_P_valueAt_1 rfl (by decide) rfl ?_
  refine z_aload_n C d_P_valueAt_2 rfl rfl ?_
  refine z_get C in_P ha0 rfl 1 (by decide) fl_P_9 rfl rfl d_P_valueAt_3 ?_
  refine z_istore_n (L' := [(0, .ref a), (1, .int (fI c)), (2, .int (fI (ev (k - k) (fun j => P (k + j)) c))), (3, .int (tI k))]) C d_P_valueAt_6 rfl (by decide) rfl ?_
  exact loop k (Nat.le_refl k)
end
section
/-! pure rows for products, quotients and sums of rows -/
theorem getv {f g : Nat → Int32} {n k i : Nat} {P : PS} (hr : rep f k P) (hkn : k ≤ n) (hn : n < 1000) (hi : i < 2 ^ 20) (hg : g i = f i) : (if 0 ≤ nI i ∧ nI i ≤ tI k ∧ nI i < nI n then g (nI i).toNatClampNeg else 0) = fI (P i) := by
  by_cases h : i < k
  · rw [if_pos ⟨nI_pos' (by omega), (tI_le (by omega) (by omega)).mpr h, nI_lt (by omega) (by omega)⟩, nI_clamp (by omega), hg, hr.2.2 i h]
  · rw [if_neg (fun q => h ((tI_le (by omega) (by omega)).mp q.2.1)), hr.1 i (by omega), fI_0]
theorem tI_max {k m : Nat} (hk : k < 1000) (hm : m < 1000) : (if tI k < tI m then tI m else tI k) = tI (max k m) := by
  by_cases h : k < m
  · rw [if_pos ((tI_lt (by omega) (by omega)).mpr h), Nat.max_eq_right (by omega)]
  · rw [if_neg (fun q => h ((tI_lt (by omega) (by omega)).mp q)), Nat.max_eq_left (by omega)]
theorem tI_min {k m : Nat} (hk : k < 1000) (hm : m < 1000) (h : k ≤ m) : (if tI m < tI k then tI m else tI k) = tI k := if_neg (fun q => absurd ((tI_lt (by omega) (by omega)).mp q) (by omega))
theorem tI_add {k m : Nat} (hk : 1 ≤ k) (hm : 1 ≤ m) : tI k + tI m = tI (k + m - 1) := by
  obtain ⟨x, rfl⟩ : ∃ x, k = x + 1 := ⟨k - 1, by omega⟩
  obtain ⟨y, rfl⟩ : ∃ y, m = y + 1 := ⟨m - 1, by omega⟩
  rw [show x + 1 + (y + 1) - 1 = (x + y) + 1 by omega, tI_s, tI_s, tI_s, nI_add]
theorem tI_subn {k m : Nat} (h : m < k) : tI k - nI m = tI (k - m) := by
  obtain ⟨x, rfl⟩ : ∃ x, k = m + x + 1 := ⟨k - m - 1, by omega⟩
  rw [show m + x + 1 - m = x + 1 by omega, tI_s, tI_s, pk_sub (by omega), show m + x - m = x by omega]
/-- the first places alone -/
def ps_tr (B : PS) (i : Nat) : PS := fun n => if n < i then B n else 0
def pacc (B C : PS) (i j : Nat) : PS := ps_add (ps_mul (ps_tr B i) C) (ps_mul (mono (B i) i) (ps_tr C j))
theorem ps_tr0 (B : PS) : ps_tr B 0 = ps_0 := by
  funext n
  simp [ps_tr, ps_0]
theorem ps_trs (B : PS) (i : Nat) : ps_tr B (i + 1) = ps_add (ps_tr B i) (mono (B i) i) := by
  funext n
  simp only [ps_tr, ps_add, mono]
  rcases Nat.lt_trichotomy n i with h | h | h
  · rw [if_pos (by omega), if_pos h, if_neg (by omega)]; grind
  · subst h; rw [if_pos (by omega), if_neg (by omega), if_pos rfl]; grind
  · rw [if_neg (by omega), if_neg (by omega), if_neg (by omega)]; grind
theorem ps_tre {B : PS} {k : Nat} (h : ∀ i, k ≤ i → B i = 0) : ps_tr B k = B := by
  funext n
  simp only [ps_tr]
  by_cases hn : n < k
  · rw [if_pos hn]
  · rw [if_neg hn, h n (by omega)]
theorem ps_mul0r (f : PS) : ps_mul f ps_0 = ps_0 := by
  funext n
  exact (ps_m_cm (f := f)).trans (ps_m0 (fun _ => rfl))
theorem ps_mul0l (f : PS) : ps_mul ps_0 f = ps_0 := by
  funext n
  exact ps_m0 (fun _ => rfl)
theorem ps_add0 (f : PS) : ps_add f ps_0 = f := by
  funext n
  simp only [ps_add, ps_0]
  grind
theorem pacc_0 (B C : PS) : pacc B C 0 0 = ps_0 := by
  simp only [pacc, ps_tr0, ps_mul0r, ps_mul0l, ps_add0]
theorem pacc_step (B C : PS) (i j t : Nat) : pacc B C i (j + 1) t = if t = i + j then pacc B C i j t + B i * C j else pacc B C i j t := by
  simp only [pacc, ps_add]
  rw [mono_mul, mono_mul]
  by_cases h : t < i
  · rw [if_pos h, if_pos h, if_neg (by omega)]
  · rw [if_neg h, if_neg h]
    simp only [ps_tr]
    rcases Nat.lt_trichotomy (t - i) j with q | q | q
    · rw [if_pos (by omega), if_pos q, if_neg (by omega)]
    · have ht : t = i + j := by omega
      subst ht
      rw [show i + j - i = j by omega, if_pos (show j < j + 1 by omega), if_neg (show ¬ j < j by omega), if_pos (show i + j = i + j from rfl)]; grind
    · rw [if_neg (by omega), if_neg (by omega), if_neg (by omega)]
theorem pacc_next {B C : PS} {kc : Nat} (hC : ∀ j, kc ≤ j → C j = 0) (i : Nat) : pacc B C (i + 1) 0 = pacc B C i kc := by
  simp only [pacc, ps_tr0, ps_mul0r, ps_add0, ps_trs, ps_tre hC]
  generalize ps_tr B i = a
  generalize mono (B i) i = b
  letI := ps_ring
  show (a + b) * C = a * C + b * C
  grind
theorem pacc_skip {B C : PS} {i : Nat} (h : B i = 0) : pacc B C (i + 1) 0 = pacc B C i 0 := by
  have e : mono (B i) i = ps_0 := by
    funext n
    simp [mono, ps_0, h]
  simp only [pacc, ps_tr0, ps_mul0r, ps_add0, ps_trs, e]
theorem pacc_end {B C : PS} {kb : Nat} (hB : ∀ i, kb ≤ i → B i = 0) : pacc B C kb 0 = ps_mul B C := by
  simp only [pacc, ps_tr0, ps_mul0r, ps_add0, ps_tre hB]
theorem fI_msub (x y z : FF) : fI x + (10007 - fI y) * fI z - (fI x + (10007 - fI y) * fI z) / 10007 * 10007 = fI (x - y * z) := by
  have hx := x.isLt
  have hy := y.isLt
  have hz := z.isLt
  have e1 : (10007 : Int32) - fI y = nI (10007 - y.val) := by
    show nI 10007 - nI y.val = _
    rw [pk_sub (by omega)]
  have hb : (10007 - y.val) * z.val ≤ 10007 * 10006 := Nat.mul_le_mul (by omega) (Nat.le_of_lt_succ hz)
  rw [e1]
  show nI x.val + nI (10007 - y.val) * nI z.val - (nI x.val + nI (10007 - y.val) * nI z.val) / 10007 * 10007 = nI (x - y * z).val
  rw [pk_mul, nI_add, nI_mod (by omega)]
  congr 1
  have e2 : x - y * z = x + (Fin.ofNat 10007 (10007 - y.val)) * z := by
    have e3 : (Fin.ofNat 10007 (10007 - y.val) : FF) = - y := by
      apply Fin.ext
      rw [Fin.neg_def]
      rfl
    rw [e3]
    grind
  rw [e2, ff_madd, ff_of]
  generalize 10007 - y.val = w
  rw [Nat.add_mod x.val (w * z.val), Nat.mul_mod w z.val, Nat.add_mod x.val (w % 10007 * z.val), Nat.mul_mod (w % 10007) z.val, Nat.mod_mod]
end
section
set_option maxHeartbeats 4000000 in
/-- Polynomial.addMultiple -/
theorem p_addMultiple (E : zE) (l : Launch) (sz : Nat) (M : zM) {a n k b nb kb : Nat} {P B : PS} (ha : zp E M a n k P) (hb : zp E M b nb kb B) (hne : a ≠ b) (hk : kb ≤ n) (c : FF) : zMet E l y_P_addMultiple c_P_addMultiple 5 none { frames := 1, cells := 0, slots := 0, locals := 22 } 0 0 [.ref a, .ref b, .int (fI c)] sz M (fun v s M' => none = v ∧ sz = s ∧ (∃ k', zp E M' a n k' (ps_add P (ps_mul (ps_C c) B))) ∧ zout M M' a) := by
  obtain ⟨f, ha0, ha1, hr, hkn, hn⟩ := id ha
  obtain ⟨fb, hb0, hb1, hrb, hknb, hnb⟩ := id hb
  have eab := z_apart ha1 hb0
  have eba := z_apart hb1 ha0
  obtain ⟨K, hK⟩ : ∃ K, K = max k kb := ⟨_, rfl⟩
  have hKk : k ≤ K := by omega
  have hKb : kb ≤ K := by omega
  have hKn : K ≤ n := by omega
  have hR : ∀ i, K ≤ i → (ps_add P (ps_mul (ps_C c) B)) i = 0 := fun i hi => by simp only [ps_add, ps_mul, ps_mC, hr.1 i (by omega), hrb.1 i (by omega)]; grind
  refine zMet.ofZ (by decide) (Nat.le_of_ble_eq_true rfl) ?_
  intro X hl hini C
  have loop : ∀ (m i : Nat) (g : Nat → Int32), i ≤ K → K + 1 ≤ i + m → (∀ j, j < i → g j = fI ((ps_add P (ps_mul (ps_C c) B)) j)) → (∀ j, i ≤ j → g j = f j) → Z X E 5 (zQ X E 0 0 (fun v s M' => none = v ∧ sz = s ∧ (∃ k', zp E M' a n k' (ps_add P (ps_mul (ps_C c) B))) ∧ zout M M' a)) 0 0 sz (zU M (a + 1) (.inl (E.2.1 0, n, .inl g))) 25 [(0, .ref a), (1, .ref b), (2, .int (fI c)), (3, .int (tI K)), (4, .int (nI i))] [] := by
    intro m
    induction m with
    | zero => intro i g h1 h2; omega
    | succ m ih =>
      intro i g hi hm hg hf
      refine z_iload C d_P_addMultiple_25 rfl ?_
      refine z_iload_n C d_P_addMultiple_27 rfl rfl ?_
      refine z_icmp_gt (tgt := 63) C d_P_addMultiple_28 (by decide) (fun c28 => ?_) (fun c28 => ?_)
      · have c28 := (tI_gtn (by omega) (by omega)).mp c28
        refine z_aload_n C d_P_addMultiple_63 rfl rfl ?_
        refine z_iload_n C d_P_addMultiple_64 rfl rfl ?_
        refine z_callV (rest := []) (n := 1) (As := [.int (tI K)]) C (p_trimFrom (P := (ps_add P (ps_mul (ps_C c) B))) E X.2.1 sz _ ((zU_ne (by omega)).trans ha0) zU_eq hKn hn hR (fun i hi => hg i (by omega))) ⟨z_cb C k_P_trimFrom ml_P_33 ii_P rfl rfl (by decide +kernel) ⟨by decide, by decide⟩, C.2.2.2.2.1 _ im_P_trimFrom, C.2.2.2.2.1 _ se_P_trimFrom⟩ ((zU_ne (by omega)).trans ha0) rfl rfl rfl (Nat.le_of_ble_eq_true rfl) d_P_addMultiple_65 ⟨by decide, by decide⟩ ?_
        intro v_65 s_65 M_65 hp_65
        obtain ⟨rfl, rfl, hz, ho⟩ := hp_65
        show Z _ _ _ _ _ _ _ _ 68 _ []
        exact z_vret C ⟨rfl, rfl, hz, zout_tr zout_u1 ho⟩ d_P_addMultiple_68
      · have c28 : i < K := Nat.not_le.mp (fun q => c28 ((tI_gtn (by omega) (by omega)).mpr q))
        refine z_aload_n C d_P_addMultiple_31 rfl rfl ?_
        refine z_get C in_P ((zU_ne (by omega)).trans ha0) rfl 0 (by decide) fl_P_15 rfl rfl d_P_addMultiple_32 ?_
        refine z_iload C d_P_addMultiple_35 rfl ?_
        refine z_aload_n C d_P_addMultiple_37 rfl rfl ?_
        refine z_iload C d_P_addMultiple_38 rfl ?_
        refine z_callV (rest := [.int (nI i), .ref (a + 1)]) (n := 1) (As := [.int (nI i)]) C (q_P_get E X.2.1 sz _ a (nI i) ((zU_ne (by omega)).trans ha0) zU_eq (by omega)) ⟨z_cb C k_P_get ml_P_19 ii_P rfl rfl (by decide +kernel) ⟨by decide, by decide⟩, C.2.2.2.2.1 _ im_P_get, C.2.2.2.2.1 _ se_P_get⟩ ((zU_ne (by omega)).trans ha0) rfl rfl rfl (Nat.le_of_ble_eq_true rfl) d_P_addMultiple_40 ⟨by decide, by decide⟩ ?_
        intro v_40 s_40 M_40 hp_40
        obtain ⟨rfl, rfl, rfl⟩ := hp_40
        show Z _ _ _ _ _ _ _ _ 43 _ [.int _, .int (nI i), .ref (a + 1)]
        refine z_top (y := fI (P i)) (getv hr hkn hn (by omega) (hf i (Nat.le_refl i))) ?_
        refine z_aload_n C d_P_addMultiple_43 rfl rfl ?_
        refine z_iload C d_P_addMultiple_44 rfl ?_
        refine z_callV (rest := [.int (fI (P i)), .int (nI i), .ref (a + 1)]) (n := 1) (As := [.int (nI i)]) C (p_get E X.2.1 sz _ i (by omega) (zp_kept hb (zU_ne (by omega)) (zU_ne (by omega)))) ⟨z_cb C k_P_get ml_P_19 ii_P rfl rfl (by decide +kernel) ⟨by decide, by decide⟩, C.2.2.2.2.1 _ im_P_get, C.2.2.2.2.1 _ se_P_get⟩ ((zU_ne (by omega)).trans hb0) rfl rfl rfl (Nat.le_of_ble_eq_true rfl) d_P_addMultiple_46 ⟨by decide, by decide⟩ ?_
        intro v_46 s_46 M_46 hp_46
        obtain ⟨rfl, rfl, rfl⟩ := hp_46
        show Z _ _ _ _ _ _ _ _ 49 _ [.int (fI (B i)), .int (fI (P i)), .int (nI i), .ref (a + 1)]
        refine z_iload_n C d_P_addMultiple_49 rfl rfl ?_
        refine z_imul C d_P_addMultiple_50 ?_
        refine z_iadd C d_P_addMultiple_51 ?_
        refine z_sipush (v := 10007) C d_P_addMultiple_52 (by decide) ?_
        refine z_irem C d_P_addMultiple_55 (by decide) ?_
        refine z_top (y := fI ((ps_add P (ps_mul (ps_C c) B)) i)) (by rw [fI_madd]; congr 1; simp only [ps_add, ps_mul, ps_mC]; grind) ?_
        refine z_iast C zU_eq 0 rfl i (rfl) (by omega) (by omega) d_P_addMultiple_56 ?_
        refine z_world zU_uu ?_
        refine z_iinc (v := nI (i + 1)) (L' := [(0, .ref a), (1, .ref b), (2, .int (fI c)), (3, .int (tI K)), (4, .int (nI (i + 1)))]) C d_P_addMultiple_57 rfl (nI_1 i) (by decide) rfl ?_
        refine z_goto (tgt := 25) C d_P_addMultiple_60 (by decide) ?_
        exact ih (i + 1) _ (by omega) (by omega) (inv_up hg rfl) (inv_keep hf)
  show Z X E 5 _ 0 0 sz M 0 [(0, .ref a), (1, .ref b), (2, .int (fI c))] []
  refine z_aload_n C d_P_addMultiple_0 rfl rfl ?_
  refine z_get C in_P ha0 rfl 1 (by decide) fl_P_9 rfl rfl d_P_addMultiple_1 ?_
  refine z_aload_n C d_P_addMultiple_4 rfl rfl ?_
  refine z_get C in_P hb0 rfl 1 (by decide) fl_P_9 rfl rfl d_P_addMultiple_5 ?_
  refine z_mmax C ml_P_37 sm_jM_max ii_jM k_jM_max (by decide) (Nat.le_of_ble_eq_true rfl) (Nat.zero_le _) (Nat.zero_le _) d_P_addMultiple_8 ?_
  refine z_top (y := tI K) (by rw [hK]; exact tI_max (by omega) (by omega)) ?_
  refine z_aload_n C d_P_addMultiple_11 rfl rfl ?_
  refine z_get C in_P ha0 rfl 0 (by decide) fl_P_15 rfl rfl d_P_addMultiple_12 ?_
  refine z_alen (v := nI n) C ha1 0 rfl (rfl) d_P_addMultiple_15 ?_
  refine z_iconst (v := 1) C d_P_addMultiple_16 (by decide) ?_
  refine z_isub C d_P_addMultiple_17 ?_
  refine z_mmin C ml_P_23 sm_jM_min ii_jM k_jM_min (by decide) (Nat.le_of_ble_eq_true rfl) (Nat.zero_le _) (Nat.zero_le _) d_P_addMultiple_18 ?_
  refine z_top (y := tI K) (tI_min (k := K) (m := n) (by omega) (by omega) hKn) ?_
  refine z_istore_n (L' := [(0, .ref a), (1, .ref b), (2, .int (fI c)), (3, .int (tI K))]) C d_P_addMultiple_21 rfl (by decide) rfl ?_
  refine z_iconst (v := nI 0) C d_P_addMultiple_22 (by decide) ?_
  refine z_istore (L' := [(0, .ref a), (1, .ref b), (2, .int (fI c)), (3, .int (tI K)), (4, .int (nI 0))]) C d_P_addMultiple_23 (by decide) rfl ?_
  refine z_world (zU_id (a := a + 1) (e := .inl (E.2.1 0, n, .inl f)) ha1).symm ?_
  exact loop (K + 1) 0 f (by omega) (by omega) (fun j hj => absurd hj (by omega)) (fun _ _ => rfl)
set_option maxHeartbeats 4000000 in
/-- Polynomial.setDerivative of 0 -/
theorem p_setDer0 (E : zE) (l : Launch) (sz : Nat) (M : zM) {a n k b nb : Nat} {P B : PS} (ha : zp E M a n k P) (hb : zp E M b nb 0 B) (hne : a ≠ b) : zMet E l y_P_setDerivative c_P_setDerivative 4 none { frames := 1, cells := 0, slots := 0, locals := 22 } 0 0 [.ref a, .ref b] sz M (fun v s M' => none = v ∧ sz = s ∧ (∃ k', zp E M' a n k' (ps_der B)) ∧ zout M M' a) := by
  obtain ⟨f, ha0, ha1, hr, hkn, hn⟩ := id ha
  obtain ⟨fb, hb0, hb1, hrb, hkb0, hnb⟩ := id hb
  have eab := z_apart ha1 hb0
  have eba := z_apart hb1 ha0
  refine zMet.ofZ (by decide) (Nat.le_of_ble_eq_true rfl) ?_
  intro X hl hini C
  show Z X E 4 _ 0 0 sz M 0 [(0, .ref a), (1, .ref b)] []
  refine z_aload_n C d_P_setDerivative_0 rfl rfl ?_
  refine z_get C in_P hb0 rfl 1 (by decide) fl_P_9 rfl rfl d_P_setDerivative_1 ?_
  refine z_iconst (v := 1) C d_P_setDerivative_4 (by decide) ?_
  refine z_isub C d_P_setDerivative_5 ?_
  refine z_top (y := -2) (by decide) ?_
  refine z_aload_n C d_P_setDerivative_6 rfl rfl ?_
  refine z_get C in_P ha0 rfl 0 (by decide) fl_P_15 rfl rfl d_P_setDerivative_7 ?_
  refine z_alen (v := nI n) C ha1 0 rfl (rfl) d_P_setDerivative_10 ?_
  refine z_iconst (v := 1) C d_P_setDerivative_11 (by decide) ?_
  refine z_isub C d_P_setDerivative_12 ?_
  refine z_mmin C ml_P_23 sm_jM_min ii_jM k_jM_min (by decide) (Nat.le_of_ble_eq_true rfl) (Nat.zero_le _) (Nat.zero_le _) d_P_setDerivative_13 ?_
  refine z_top (y := -2) (if_neg (by rw [Int32.lt_iff_toInt_lt]; show ¬ ((tI n).toInt < (-2 : Int32).toInt); rw [tI_int (by omega)]; show ¬ ((n : Int) - 1 < -2); omega)) ?_
  refine z_istore_n (L' := [(0, .ref a), (1, .ref b), (2, .int (-2))]) C d_P_setDerivative_16 rfl (by decide) rfl ?_
  refine z_iconst (v := 0) C d_P_setDerivative_17 (by decide) ?_
  refine z_istore_n (L' := [(0, .ref a), (1, .ref b), (2, .int (-2)), (3, .int 0)]) C d_P_setDerivative_18 rfl (by decide) rfl ?_
  refine z_iload_n C d_P_setDerivative_19 rfl rfl ?_
  refine z_iload_n C d_P_setDerivative_20 rfl rfl ?_
  refine z_icmp_gt (tgt := 51) C d_P_setDerivative_21 (by decide) (fun _ => ?_) (fun c_21 => absurd (by decide) c_21)
  refine z_aload_n C d_P_setDerivative_51 rfl rfl ?_
  refine z_iload_n C d_P_setDerivative_52 rfl rfl ?_
  refine z_callV (rest := []) (n := 1) (As := [.int (-2)]) C (p_trimNeg (P := ps_der B) E X.2.1 sz _ ha0 ha1 (by decide) hn (fun i => by simp only [ps_der, hrb.1 (i + 1) (Nat.zero_le _)]; grind)) ⟨z_cb C k_P_trimFrom ml_P_33 ii_P rfl rfl (by decide +kernel) ⟨by decide, by decide⟩, C.2.2.2.2.1 _ im_P_trimFrom, C.2.2.2.2.1 _ se_P_trimFrom⟩ ha0 rfl rfl rfl (Nat.le_of_ble_eq_true rfl) d_P_setDerivative_53 ⟨by decide, by decide⟩ ?_
  intro v_53 s_53 M_53 hp_53
  obtain ⟨rfl, rfl, hz, ho⟩ := hp_53
  show Z _ _ _ _ _ _ _ _ 56 _ []
  exact z_vret C ⟨rfl, rfl, hz, ho⟩ d_P_setDerivative_56
set_option maxHeartbeats 4000000 in
/-- Polynomial.setDerivative -/
theorem p_setDerS (E : zE) (l : Launch) (sz : Nat) (M : zM) {a n k b nb m : Nat} {P B : PS} (ha : zp E M a n k P) (hb : zp E M b nb (m + 1) B) (hne : a ≠ b) (hmn : m ≤ n) : zMet E l y_P_setDerivative c_P_setDerivative 4 none { frames := 1, cells := 0, slots := 0, locals := 22 } 0 0 [.ref a, .ref b] sz M (fun v s M' => none = v ∧ sz = s ∧ (∃ k', zp E M' a n k' (ps_der B)) ∧ zout M M' a) := by
  obtain ⟨f, ha0, ha1, hr, hkn, hn⟩ := id ha
  obtain ⟨fb, hb0, hb1, hrb, hknb, hnb⟩ := id hb
  have eab := z_apart ha1 hb0
  have eba := z_apart hb1 ha0
  have hR : ∀ i, m ≤ i → ps_der B i = 0 := fun i hi => by simp only [ps_der, hrb.1 (i + 1) (by omega)]; grind
  refine zMet.ofZ (by decide) (Nat.le_of_ble_eq_true rfl) ?_
  intro X hl hini C
  have loop : ∀ (p i : Nat) (g : Nat → Int32), i ≤ m → m + 1 ≤ i + p → (∀ j, j < i → g j = fI (ps_der B j)) → Z X E 4 (zQ X E 0 0 (fun v s M' => none = v ∧ sz = s ∧ (∃ k', zp E M' a n k' (ps_der B)) ∧ zout M M' a)) 0 0 sz (zU M (a + 1) (.inl (E.2.1 0, n, .inl g))) 19 [(0, .ref a), (1, .ref b), (2, .int (tI m)), (3, .int (nI i))] [] := by
    intro p
    induction p with
    | zero => intro i g h1 h2; omega
    | succ p ih =>
      intro i g hi hm hg
      refine z_iload_n C d_P_setDerivative_19 rfl rfl ?_
      refine z_iload_n C d_P_setDerivative_20 rfl rfl ?_
      refine z_icmp_gt (tgt := 51) C d_P_setDerivative_21 (by decide) (fun c21 => ?_) (fun c21 => ?_)
      · have c21 := (tI_gtn (by omega) (by omega)).mp c21
        refine z_aload_n C d_P_setDerivative_51 rfl rfl ?_
        refine z_iload_n C d_P_setDerivative_52 rfl rfl ?_
        refine z_callV (rest := []) (n := 1) (As := [.int (tI m)]) C (p_trimFrom (P := ps_der B) E X.2.1 sz _ ((zU_ne (by omega)).trans ha0) zU_eq hmn hn hR (fun i hi => hg i (by omega))) ⟨z_cb C k_P_trimFrom ml_P_33 ii_P rfl rfl (by decide +kernel) ⟨by decide, by decide⟩, C.2.2.2.2.1 _ im_P_trimFrom, C.2.2.2.2.1 _ se_P_trimFrom⟩ ((zU_ne (by omega)).trans ha0) rfl rfl rfl (Nat.le_of_ble_eq_true rfl) d_P_setDerivative_53 ⟨by decide, by decide⟩ ?_
        intro v_53 s_53 M_53 hp_53
        obtain ⟨rfl, rfl, hz, ho⟩ := hp_53
        show Z _ _ _ _ _ _ _ _ 56 _ []
        exact z_vret C ⟨rfl, rfl, hz, zout_tr zout_u1 ho⟩ d_P_setDerivative_56
      · have c21 : i < m := Nat.not_le.mp (fun q => c21 ((tI_gtn (by omega) (by omega)).mpr q))
        refine z_aload_n C d_P_setDerivative_24 rfl rfl ?_
        refine z_get C in_P ((zU_ne (by omega)).trans ha0) rfl 0 (by decide) fl_P_15 rfl rfl d_P_setDerivative_25 ?_
        refine z_iload_n C d_P_setDerivative_28 rfl rfl ?_
        refine z_aload_n C d_P_setDerivative_29 rfl rfl ?_
        refine z_iload_n C d_P_setDerivative_30 rfl rfl ?_
        refine z_iconst (v := 1) C d_P_setDerivative_31 (by decide) ?_
        refine z_iadd C d_P_setDerivative_32 ?_
        refine z_top (y := nI (i + 1)) (nI_1 i) ?_
        refine z_callV (rest := [.int (nI i), .ref (a + 1)]) (n := 1) (As := [.int (nI (i + 1))]) C (p_get E X.2.1 sz _ (i + 1) (by omega) (zp_kept hb (zU_ne (by omega)) (zU_ne (by omega)))) ⟨z_cb C k_P_get ml_P_19 ii_P rfl rfl (by decide +kernel) ⟨by decide, by decide⟩, C.2.2.2.2.1 _ im_P_get, C.2.2.2.2.1 _ se_P_get⟩ ((zU_ne (by omega)).trans hb0) rfl rfl rfl (Nat.le_of_ble_eq_true rfl) d_P_setDerivative_33 ⟨by decide, by decide⟩ ?_
        intro v_33 s_33 M_33 hp_33
        obtain ⟨rfl, rfl, rfl⟩ := hp_33
        show Z _ _ _ _ _ _ _ _ 36 _ [.int (fI (B (i + 1))), .int (nI i), .ref (a + 1)]
        refine z_iload_n C d_P_setDerivative_36 rfl rfl ?_
        refine z_iconst (v := 1) C d_P_setDerivative_37 (by decide) ?_
        refine z_iadd C d_P_setDerivative_38 ?_
        refine z_top (y := nI (i + 1)) (nI_1 i) ?_
        refine z_imul C d_P_setDerivative_39 ?_
        refine z_sipush (v := 10007) C d_P_setDerivative_40 (by decide) ?_
        refine z_irem C d_P_setDerivative_43 (by decide) ?_
        refine z_top (y := fI (ps_der B i)) (fI_muln (by omega)) ?_
        refine z_iast C zU_eq 0 rfl i (rfl) (by omega) (by omega) d_P_setDerivative_44 ?_
        refine z_world zU_uu ?_
        refine z_iinc (v := nI (i + 1)) (L' := [(0, .ref a), (1, .ref b), (2, .int (tI m)), (3, .int (nI (i + 1)))]) C d_P_setDerivative_45 rfl (nI_1 i) (by decide) rfl ?_
        refine z_goto (tgt := 19) C d_P_setDerivative_48 (by decide) ?_
        exact ih (i + 1) _ (by omega) (by omega) (inv_up hg rfl)
  show Z X E 4 _ 0 0 sz M 0 [(0, .ref a), (1, .ref b)] []
  refine z_aload_n C d_P_setDerivative_0 rfl rfl ?_
  refine z_get C in_P hb0 rfl 1 (by decide) fl_P_9 rfl rfl d_P_setDerivative_1 ?_
  refine z_iconst (v := 1) C d_P_setDerivative_4 (by decide) ?_
  refine z_isub C d_P_setDerivative_5 ?_
  refine z_top (y := tI m) (by rw [tI_s]; rfl) ?_
  refine z_aload_n C d_P_setDerivative_6 rfl rfl ?_
  refine z_get C in_P ha0 rfl 0 (by decide) fl_P_15 rfl rfl d_P_setDerivative_7 ?_
  refine z_alen (v := nI n) C ha1 0 rfl (rfl) d_P_setDerivative_10 ?_
  refine z_iconst (v := 1) C d_P_setDerivative_11 (by decide) ?_
  refine z_isub C d_P_setDerivative_12 ?_
  refine z_mmin C ml_P_23 sm_jM_min ii_jM k_jM_min (by decide) (Nat.le_of_ble_eq_true rfl) (Nat.zero_le _) (Nat.zero_le _) d_P_setDerivative_13 ?_
  refine z_top (y := tI m) (tI_min (k := m) (m := n) (by omega) (by omega) hmn) ?_
  refine z_istore_n (L' := [(0, .ref a), (1, .ref b), (2, .int (tI m))]) C d_P_setDerivative_16 rfl (by decide) rfl ?_
  refine z_iconst (v := nI 0) C d_P_setDerivative_17 (by decide) ?_
  refine z_istore_n (L' := [(0, .ref a), (1, .ref b), (2, .int (tI m)), (3, .int (nI 0))]) C d_P_setDerivative_18 rfl (by decide) rfl ?_
  refine z_world (zU_id (a := a + 1) (e := .inl (E.2.1 0, n, .inl f)) ha1).symm ?_
  exact loop (m + 1) 0 f (by omega) (by omega) (fun j hj => absurd hj (by omega))
theorem p_setDerivative (E : zE) (l : Launch) (sz : Nat) (M : zM) {a n k b nb kb : Nat} {P B : PS} (ha : zp E M a n k P) (hb : zp E M b nb kb B) (hne : a ≠ b) (hk : kb ≤ n + 1) : zMet E l y_P_setDerivative c_P_setDerivative 4 none { frames := 1, cells := 0, slots := 0, locals := 22 } 0 0 [.ref a, .ref b] sz M (fun v s M' => none = v ∧ sz = s ∧ (∃ k', zp E M' a n k' (ps_der B)) ∧ zout M M' a) := by
  cases kb with
  | zero => exact p_setDer0 E l sz M ha hb hne
  | succ m => exact p_setDerS E l sz M ha hb hne (by omega)
end
section
set_option maxHeartbeats 4000000 in
/-- Polynomial.setProduct -/
theorem p_setProduct (E : zE) (l : Launch) (sz : Nat) (M : zM) {a n k b nb kb c nc kc : Nat} {P B D : PS} (ha : zp E M a n k P) (hb : zp E M b nb kb B) (hc : zp E M c nc kc D) (hne : a ≠ b) (hne2 : a ≠ c) (hk : kb + kc ≤ n + 1) : zMet E l y_P_setProduct c_P_setProduct 6 none { frames := 1, cells := 0, slots := 0, locals := 21 } 0 0 [.ref a, .ref b, .ref c] sz M (fun v s M' => none = v ∧ sz = s ∧ (∃ k', zp E M' a n k' (ps_mul B D)) ∧ zout M M' a) := by
  obtain ⟨f, ha0, ha1, hr, hkn, hn⟩ := id ha
  obtain ⟨fb, hb0, hb1, hrb, hknb, hnb⟩ := id hb
  obtain ⟨fc, hc0, hc1, hrc, hknc, hnc⟩ := id hc
  have eab := z_apart ha1 hb0
  have eba := z_apart hb1 ha0
  have eac := z_apart ha1 hc0
  have eca := z_apart hc1 ha0
  refine zMet.ofZ (by decide) (Nat.le_of_ble_eq_true rfl) ?_
  intro X hl hini C
  have big : 1 ≤ kb → 1 ≤ kc → ∀ K, K = kb + kc - 1 → ∀ g0 : Nat → Int32, Z X E 6 (zQ X E 0 0 (fun v s M' => none = v ∧ sz = s ∧ (∃ k', zp E M' a n k' (ps_mul B D)) ∧ zout M M' a)) 0 0 sz (zU (zU M a (.inr (3, [.ref (a + 1), .int (tI K)]))) (a + 1) (.inl (E.2.1 0, n, .inl g0))) 45 [(0, .ref a), (1, .ref b), (2, .ref c), (3, .int (nI 0))] [] := by
    intro hb1' hc1' K hK g0
    have inner : ∀ i, i < kb → B i ≠ 0 → (∀ g : Nat → Int32, (∀ t, t < K → g t = fI (pacc B D (i + 1) 0 t)) → Z X E 6 (zQ X E 0 0 (fun v s M' => none = v ∧ sz = s ∧ (∃ k', zp E M' a n k' (ps_mul B D)) ∧ zout M M' a)) 0 0 sz (zU (zU M a (.inr (3, [.ref (a + 1), .int (tI K)]))) (a + 1) (.inl (E.2.1 0, n, .inl g))) 151 [(0, .ref a), (1, .ref b), (2, .ref c), (3, .int (nI i))] []) → ∀ (m j : Nat) (g : Nat → Int32), j ≤ kc → kc + 1 ≤ j + m → (∀ t, t < K → g t = fI (pacc B D i j t)) → Z X E 6 (zQ X E 0 0 (fun v s M' => none = v ∧ sz = s ∧ (∃ k', zp E M' a n k' (ps_mul B D)) ∧ zout M M' a)) 0 0 sz (zU (zU M a (.inr (3, [.ref (a + 1), .int (tI K)]))) (a + 1) (.inl (E.2.1 0, n, .inl g))) 87 [(0, .ref a), (1, .ref b), (2, .ref c), (3, .int (nI i)), (4, .int (fI (B i))), (5, .int (nI j))] [] := by
      intro i hi hBi kx m
      induction m with
      | zero => intro j g h1 h2; omega
      | succ m ih =>
        intro j g hj hm hg
        refine z_iload C d_P_setProduct_87 rfl ?_
        refine z_if_eq (tgt := 151) C d_P_setProduct_89 (by decide) (fun c_89 => absurd c_89 (fun q => hBi (fI_eq0.mp q))) (fun _ => ?_)
        refine z_iload C d_P_setProduct_92 rfl ?_
        refine z_aload_n C d_P_setProduct_94 rfl rfl ?_
        refine z_get C in_P ((zU_ne (by omega)).trans ((zU_ne (by omega)).trans hc0)) rfl 1 (by decide) fl_P_9 rfl rfl d_P_setProduct_95 ?_
        refine z_icmp_gt (tgt := 151) C d_P_setProduct_98 (by decide) (fun c98 => ?_) (fun c98 => ?_)
        · have c98 := (tI_gtn (by omega) (by omega)).mp c98
          refine z_sub [0, 1, 2, 3] rfl ?_
          exact kx g (fun t ht => by rw [pacc_next hrc.1, show kc = j by omega]; exact hg t ht)
        · have c98 : j < kc := Nat.not_le.mp (fun q => c98 ((tI_gtn (by omega) (by omega)).mpr q))
          refine z_iload_n C d_P_setProduct_101 rfl rfl ?_
          refine z_iload C d_P_setProduct_102 rfl ?_
          refine z_iadd C d_P_setProduct_104 ?_
          refine z_top (y := nI (i + j)) (nI_add i j) ?_
          refine z_aload_n C d_P_setProduct_105 rfl rfl ?_
          refine z_get C in_P ((zU_ne (by omega)).trans zU_eq) rfl 1 (by decide) fl_P_9 rfl rfl d_P_setProduct_106 ?_
          refine z_icmp_gt (tgt := 151) C d_P_setProduct_109 (by decide) (fun c_109 => absurd c_109 (fun q => absurd ((tI_gtn (by omega) (by omega)).mp q) (by omega))) (fun _ => ?_)
          refine z_aload_n C d_P_setProduct_112 rfl rfl ?_
          refine z_get C in_P ((zU_ne (by omega)).trans zU_eq) rfl 0 (by decide) fl_P_15 rfl rfl d_P_setProduct_113 ?_
          refine z_iload_n C d_P_setProduct_116 rfl rfl ?_
          refine z_iload C d_P_setProduct_117 rfl ?_
          refine z_iadd C d_P_setProduct_119 ?_
          refine z_top (y := nI (i + j)) (nI_add i j) ?_
          refine z_aload_n C d_P_setProduct_120 rfl rfl ?_
          refine z_get C in_P ((zU_ne (by omega)).trans zU_eq) rfl 0 (by decide) fl_P_15 rfl rfl d_P_setProduct_121 ?_
          refine z_iload_n C d_P_setProduct_124 rfl rfl ?_
          refine z_iload C d_P_setProduct_125 rfl ?_
          refine z_iadd C d_P_setProduct_127 ?_
          refine z_top (y := nI (i + j)) (nI_add i j) ?_
          refine z_iald C zU_eq 0 rfl (i + j) (rfl) (by omega) (by omega) d_P_setProduct_128 ?_
          refine z_top (y := fI (pacc B D i j (i + j))) (hg (i + j) (by omega)) ?_
          refine z_iload C d_P_setProduct_129 rfl ?_
          refine z_aload_n C d_P_setProduct_131 rfl rfl ?_
          refine z_get C in_P ((zU_ne (by omega)).trans ((zU_ne (by omega)).trans hc0)) rfl 0 (by decide) fl_P_15 rfl rfl d_P_setProduct_132 ?_
          refine z_iload C d_P_setProduct_135 rfl ?_
          refine z_iald C ((zU_ne (by omega)).trans ((zU_ne (by omega)).trans hc1)) 0 rfl j (rfl) (by omega) (by omega) d_P_setProduct_137 ?_
          refine z_top (y := fI (D j)) (hrc.2.2 j c98) ?_
          refine z_imul C d_P_setProduct_138 ?_
          refine z_iadd C d_P_setProduct_139 ?_
          refine z_sipush (v := 10007) C d_P_setProduct_140 (by decide) ?_
          refine z_irem C d_P_setProduct_143 (by decide) ?_
          refine z_top (y := fI (pacc B D i j (i + j) + B i * D j)) (fI_madd _ _ _) ?_
          refine z_iast C zU_eq 0 rfl (i + j) (rfl) (by omega) (by omega) d_P_setProduct_144 ?_
          refine z_world zU_uu ?_
          refine z_iinc (v := nI (j + 1)) (L' := [(0, .ref a), (1, .ref b), (2, .ref c), (3, .int (nI i)), (4, .int (fI (B i))), (5, .int (nI (j + 1)))]) C d_P_setProduct_145 rfl (nI_1 j) (by decide) rfl ?_
          refine z_goto (tgt := 87) C d_P_setProduct_148 (by decide) ?_
          refine ih (j + 1) _ (by omega) (by omega) (fun t ht => ?_)
          rw [pacc_step]
          by_cases q : t = i + j
          · rw [if_pos q, q, upd_eq]
          · rw [if_neg q, upd_ne q, hg t ht]
    have outer : ∀ (m i : Nat) (g : Nat → Int32), i ≤ kb → kb + 1 ≤ i + m → (∀ t, t < K → g t = fI (pacc B D i 0 t)) → Z X E 6 (zQ X E 0 0 (fun v s M' => none = v ∧ sz = s ∧ (∃ k', zp E M' a n k' (ps_mul B D)) ∧ zout M M' a)) 0 0 sz (zU (zU M a (.inr (3, [.ref (a + 1), .int (tI K)]))) (a + 1) (.inl (E.2.1 0, n, .inl g))) 68 [(0, .ref a), (1, .ref b), (2, .ref c), (3, .int (nI i))] [] := by
      intro m
      induction m with
      | zero => intro i g h1 h2; omega
      | succ m ih =>
        intro i g hi hm hg
        have next : i < kb → ∀ g' : Nat → Int32, (∀ t, t < K → g' t = fI (pacc B D (i + 1) 0 t)) → Z X E 6 (zQ X E 0 0 (fun v s M' => none = v ∧ sz = s ∧ (∃ k', zp E M' a n k' (ps_mul B D)) ∧ zout M M' a)) 0 0 sz (zU (zU M a (.inr (3, [.ref (a + 1), .int (tI K)]))) (a + 1) (.inl (E.2.1 0, n, .inl g'))) 151 [(0, .ref a), (1, .ref b), (2, .ref c), (3, .int (nI i))] [] := by
          intro hlt g' hg'
          refine z_iinc (v := nI (i + 1)) (L' := [(0, .ref a), (1, .ref b), (2, .ref c), (3, .int (nI (i + 1)))]) C d_P_setProduct_151 rfl (nI_1 i) (by decide) rfl ?_
          refine z_goto (tgt := 68) C d_P_setProduct_154 (by decide) ?_
          exact ih (i + 1) _ (by omega) (by omega) hg'
        refine z_iload_n C d_P_setProduct_68 rfl rfl ?_
        refine z_aload_n C d_P_setProduct_69 rfl rfl ?_
        refine z_get C in_P ((zU_ne (by omega)).trans ((zU_ne (by omega)).trans hb0)) rfl 1 (by decide) fl_P_9 rfl rfl d_P_setProduct_70 ?_
        refine z_icmp_gt (tgt := 157) C d_P_setProduct_73 (by decide) (fun c73 => ?_) (fun c73 => ?_)
        · have c73 := (tI_gtn (by omega) (by omega)).mp c73
          have tp := ps_top (m := kc - 1) (g := D) (fun j hj => hrc.1 j (by omega)) (n := kb - 1) (f := B) (fun j hj => hrb.1 j (by omega))
          refine z_vret C ⟨rfl, rfl, ⟨K, g, (zU_ne (by omega)).trans zU_eq, zU_eq, ⟨fun j hj => tp.2 j (by omega), fun m hm => ?_, fun t ht => by rw [hg t (by omega), show i = kb by omega, pacc_end hrb.1]⟩, by omega, hn⟩, zout_uu⟩ d_P_setProduct_157
          rw [show m = kb - 1 + (kc - 1) by omega]
          show ps_m _ _ _ ≠ 0
          rw [tp.1]
          exact ff_mul_ne (hrb.2.1 _ (by omega)) (hrc.2.1 _ (by omega))
        · have c73 : i < kb := Nat.not_le.mp (fun q => c73 ((tI_gtn (by omega) (by omega)).mpr q))
          refine z_aload_n C d_P_setProduct_76 rfl rfl ?_
          refine z_get C in_P ((zU_ne (by omega)).trans ((zU_ne (by omega)).trans hb0)) rfl 0 (by decide) fl_P_15 rfl rfl d_P_setProduct_77 ?_
          refine z_iload_n C d_P_setProduct_80 rfl rfl ?_
          refine z_iald C ((zU_ne (by omega)).trans ((zU_ne (by omega)).trans hb1)) 0 rfl i (rfl) (by omega) (by omega) d_P_setProduct_81 ?_
          refine z_top (y := fI (B i)) (hrb.2.2 i c73) ?_
          refine z_istore (L' := [(0, .ref a), (1, .ref b), (2, .ref c), (3, .int (nI i)), (4, .int (fI (B i)))]) C d_P_setProduct_82 (by decide) rfl ?_
          refine z_iconst (v := nI 0) C d_P_setProduct_84 (by decide) ?_
          refine z_istore (L' := [(0, .ref a), (1, .ref b), (2, .ref c), (3, .int (nI i)), (4, .int (fI (B i))), (5, .int (nI 0))]) C d_P_setProduct_85 (by decide) rfl ?_
          by_cases hBi : B i = 0
          · refine z_iload C d_P_setProduct_87 rfl ?_
            refine z_if_eq (tgt := 151) C d_P_setProduct_89 (by decide) (fun _ => ?_) (fun q => absurd (fI_eq0.mpr hBi) q)
            refine z_sub [0, 1, 2, 3] rfl ?_
            exact next c73 g (fun t ht => by rw [pacc_skip hBi]; exact hg t ht)
          · exact inner i c73 hBi (next c73) (kc + 1) 0 g (by omega) (by omega) hg
    have zero : ∀ (m i : Nat) (g : Nat → Int32), i ≤ K → K + 1 ≤ i + m → (∀ t, t < i → g t = fI (pacc B D 0 0 t)) → Z X E 6 (zQ X E 0 0 (fun v s M' => none = v ∧ sz = s ∧ (∃ k', zp E M' a n k' (ps_mul B D)) ∧ zout M M' a)) 0 0 sz (zU (zU M a (.inr (3, [.ref (a + 1), .int (tI K)]))) (a + 1) (.inl (E.2.1 0, n, .inl g))) 45 [(0, .ref a), (1, .ref b), (2, .ref c), (3, .int (nI i))] [] := by
      intro m
      induction m with
      | zero => intro i g h1 h2; omega
      | succ m ih =>
        intro i g hi hm hg
        refine z_iload_n C d_P_setProduct_45 rfl rfl ?_
        refine z_aload_n C d_P_setProduct_46 rfl rfl ?_
        refine z_get C in_P ((zU_ne (by omega)).trans zU_eq) rfl 1 (by decide) fl_P_9 rfl rfl d_P_setProduct_47 ?_
        refine z_icmp_gt (tgt := 66) C d_P_setProduct_50 (by decide) (fun c50 => ?_) (fun c50 => ?_)
        · have c50 := (tI_gtn (by omega) (by omega)).mp c50
          refine z_iconst (v := nI 0) C d_P_setProduct_66 (by decide) ?_
          refine z_istore_n (L' := [(0, .ref a), (1, .ref b), (2, .ref c), (3, .int (nI 0))]) C d_P_setProduct_67 rfl (by decide) rfl ?_
          exact outer (kb + 1) 0 g (by omega) (by omega) (fun t ht => hg t (by omega))
        · have c50 : i < K := Nat.not_le.mp (fun q => c50 ((tI_gtn (by omega) (by omega)).mpr q))
          refine z_aload_n C d_P_setProduct_53 rfl rfl ?_
          refine z_get C in_P ((zU_ne (by omega)).trans zU_eq) rfl 0 (by decide) fl_P_15 rfl rfl d_P_setProduct_54 ?_
          refine z_iload_n C d_P_setProduct_57 rfl rfl ?_
          refine z_iconst (v := 0) C d_P_setProduct_58 (by decide) ?_
          refine z_iast C zU_eq 0 rfl i (rfl) (by omega) (by omega) d_P_setProduct_59 ?_
          refine z_world zU_uu ?_
          refine z_iinc (v := nI (i + 1)) (L' := [(0, .ref a), (1, .ref b), (2, .ref c), (3, .int (nI (i + 1)))]) C d_P_setProduct_60 rfl (nI_1 i) (by decide) rfl ?_
          refine z_goto (tgt := 45) C d_P_setProduct_63 (by decide) ?_
          exact ih (i + 1) _ (by omega) (by omega) (inv_up hg (by rw [pacc_0]; exact fI_0.symm))
    exact zero (K + 1) 0 g0 (by omega) (by omega) (fun t ht => absurd ht (by omega))
  show Z X E 6 _ 0 0 sz M 0 [(0, .ref a), (1, .ref b), (2, .ref c)] []
  refine z_aload_n C d_P_setProduct_0 rfl rfl ?_
  refine z_iconst (v := tI 0) C d_P_setProduct_1 (by decide) ?_
  refine z_put C in_P ty_P tok_P nm_P ha0 rfl 1 (by decide) fl_P_9 rfl rfl rfl (rfl) (rfl) (Nat.le_of_ble_eq_true rfl) d_P_setProduct_2 ?_
  show Z _ _ _ _ _ _ _ (zU M a (.inr (3, [.ref (a + 1), .int (tI 0)]))) _ _ _
  refine z_aload_n C d_P_setProduct_5 rfl rfl ?_
  refine z_callV (rest := []) (n := 0) (As := []) C (p_isZero E X.2.1 sz _ (zp_kept hb (zU_ne (by omega)) (zU_ne (by omega)))) ⟨z_cb C k_P_isZero ml_P_29 ii_P rfl rfl (by decide +kernel) ⟨by decide, by decide⟩, C.2.2.2.2.1 _ im_P_isZero, C.2.2.2.2.1 _ se_P_isZero⟩ ((zU_ne (by omega)).trans hb0) rfl rfl rfl (Nat.le_of_ble_eq_true rfl) d_P_setProduct_6 ⟨by decide, by decide⟩ ?_
  intro v_6 s_6 M_6 hp_6
  obtain ⟨rfl, rfl, rfl⟩ := hp_6
  show Z _ _ _ _ _ _ _ _ 9 _ [.int (if kb = 0 then 1 else 0)]
  refine z_if_ne (tgt := 19) C d_P_setProduct_9 (by decide) (fun c9 => ?_) (fun c9 => ?_)
  · have c9 : kb = 0 := by
      by_cases q : kb = 0
      · exact q
      · exact absurd (if_neg q) c9
    have hz : ∀ i, ps_mul B D i = 0 := fun i => ps_m0 (fun j => hrb.1 j (by omega))
    refine z_vret C ⟨rfl, rfl, ⟨0, f, zU_eq, (zU_ne (by omega)).trans ha1, ⟨fun i _ => hz i, fun m hm => absurd hm (by omega), fun i hi => absurd hi (by omega)⟩, by omega, hn⟩, zout_u0⟩ d_P_setProduct_19
  · have c9 : kb ≠ 0 := fun q => by rw [if_pos q] at c9; exact absurd c9 (by decide)
    refine z_aload_n C d_P_setProduct_12 rfl rfl ?_
    refine z_callV (rest := []) (n := 0) (As := []) C (p_isZero E X.2.1 sz _ (zp_kept hc (zU_ne (by omega)) (zU_ne (by omega)))) ⟨z_cb C k_P_isZero ml_P_29 ii_P rfl rfl (by decide +kernel) ⟨by decide, by decide⟩, C.2.2.2.2.1 _ im_P_isZero, C.2.2.2.2.1 _ se_P_isZero⟩ ((zU_ne (by omega)).trans hc0) rfl rfl rfl (Nat.le_of_ble_eq_true rfl) d_P_setProduct_13 ⟨by decide, by decide⟩ ?_
    intro v_13 s_13 M_13 hp_13
    obtain ⟨rfl, rfl, rfl⟩ := hp_13
    show Z _ _ _ _ _ _ _ _ 16 _ [.int (if kc = 0 then 1 else 0)]
    refine z_if_eq (tgt := 20) C d_P_setProduct_16 (by decide) (fun c16 => ?_) (fun c16 => ?_)
    · have c16 : kc ≠ 0 := fun q => by rw [if_pos q] at c16; exact absurd c16 (by decide)
      refine z_aload_n C d_P_setProduct_20 rfl rfl ?_
      refine z_aload_n C d_P_setProduct_21 rfl rfl ?_
      refine z_get C in_P ((zU_ne (by omega)).trans hb0) rfl 1 (by decide) fl_P_9 rfl rfl d_P_setProduct_22 ?_
      refine z_aload_n C d_P_setProduct_25 rfl rfl ?_
      refine z_get C in_P ((zU_ne (by omega)).trans hc0) rfl 1 (by decide) fl_P_9 rfl rfl d_P_setProduct_26 ?_
      refine z_iadd C d_P_setProduct_29 ?_
      refine z_top (y := tI (kb + kc - 1)) (tI_add (by omega) (by omega)) ?_
      refine z_aload_n C d_P_setProduct_30 rfl rfl ?_
      refine z_get C in_P zU_eq rfl 0 (by decide) fl_P_15 rfl rfl d_P_setProduct_31 ?_
      refine z_alen (v := nI n) C ((zU_ne (by omega)).trans ha1) 0 rfl (rfl) d_P_setProduct_34 ?_
      refine z_iconst (v := 1) C d_P_setProduct_35 (by decide) ?_
      refine z_isub C d_P_setProduct_36 ?_
      refine z_mmin C ml_P_23 sm_jM_min ii_jM k_jM_min (by decide) (Nat.le_of_ble_eq_true rfl) (Nat.zero_le _) (Nat.zero_le _) d_P_setProduct_37 ?_
      refine z_top (y := tI (kb + kc - 1)) (tI_min (k := kb + kc - 1) (m := n) (by omega) (by omega) (by omega)) ?_
      refine z_put C in_P ty_P tok_P nm_P zU_eq rfl 1 (by decide) fl_P_9 rfl rfl rfl (rfl) (rfl) (Nat.le_of_ble_eq_true rfl) d_P_setProduct_40 ?_
      show Z _ _ _ _ _ _ _ (zU (zU M a (.inr (3, [.ref (a + 1), .int (tI 0)]))) a (.inr (3, [.ref (a + 1), .int (tI (kb + kc - 1))]))) _ _ _
      refine z_world zU_uu ?_
      refine z_iconst (v := nI 0) C d_P_setProduct_43 (by decide) ?_
      refine z_istore_n (L' := [(0, .ref a), (1, .ref b), (2, .ref c), (3, .int (nI 0))]) C d_P_setProduct_44 rfl (by decide) rfl ?_
      refine z_world (zU_id (a := a + 1) (e := .inl (E.2.1 0, n, .inl f)) ((zU_ne (by omega)).trans ha1)).symm ?_
      exact big (by omega) (by omega) _ rfl f
    · have c16 : kc = 0 := by
        by_cases q : kc = 0
        · exact q
        · exact absurd (if_neg q) c16
      have hz : ∀ i, ps_mul B D i = 0 := fun i => (ps_m_cm (f := B)).trans (ps_m0 (fun j => hrc.1 j (by omega)))
      refine z_vret C ⟨rfl, rfl, ⟨0, f, zU_eq, (zU_ne (by omega)).trans ha1, ⟨fun i _ => hz i, fun m hm => absurd hm (by omega), fun i hi => absurd hi (by omega)⟩, by omega, hn⟩, zout_u0⟩ d_P_setProduct_19
set_option maxHeartbeats 4000000 in
/-- Polynomial(highest) -/
theorem p_init (E : zE) (l : Launch) (M : zM) {a h : Nat} (h0 : M a = some (.inr (3, [.null, .int 0]))) (hh : h < 900) : zMet E l y_P_init c_P_init 2 none { frames := 1, cells := 1, slots := h + 1, locals := 20 } 1 (h + 1) [.ref a, .int (nI h)] (a + 1) M (fun v s M' => none = v ∧ a + 2 = s ∧ zp E M' a (h + 1) 0 ps_0 ∧ zout M M' a) := by
  refine zMet.ofZ (by decide) (Nat.le_of_ble_eq_true rfl) ?_
  intro X hl hini C
  show Z X E 2 _ 0 0 (a + 1) M 0 [(0, .ref a), (1, .int (nI h))] []
  refine z_aload_n C d_P_init_0 rfl rfl ?_
  refine z_obj C ml_P_3 im_jO_init k_jO_init d_P_init_1 (Nat.le_of_ble_eq_true rfl) (Nat.le_of_ble_eq_true rfl) ?_
  refine z_aload_n C d_P_init_4 rfl rfl ?_
  refine z_iconst (v := tI 0) C d_P_init_5 (by decide) ?_
  refine z_put C in_P ty_P tok_P nm_P h0 rfl 1 (by decide) fl_P_9 rfl rfl rfl (rfl) (rfl) (Nat.le_of_ble_eq_true rfl) d_P_init_6 ?_
  show Z _ _ _ _ _ _ _ (zU M a (.inr (3, [.null, .int (tI 0)]))) _ _ _
  refine z_aload_n C d_P_init_9 rfl rfl ?_
  refine z_iload_n C d_P_init_10 rfl rfl ?_
  refine z_iconst (v := 1) C d_P_init_11 (by decide) ?_
  refine z_iadd C d_P_init_12 ?_
  refine z_top (y := nI (h + 1)) (nI_1 h) ?_
  refine z_newa (atype := .int) (a0 := (h + 1, .inl (fun _ => 0))) C ac_int rfl 0 rfl (fun _ q => by cases q) (h + 1) rfl (rfl) (by show (h + 1) * 4 ≤ _; omega) (by omega) (Nat.le_refl _) (by show 0 + (h + 1) ≤ h + 1; omega) d_P_init_13 ?_
  refine z_putF C in_P ty_P tok_P nm_P hini ((zU_ne (by omega)).trans zU_eq) rfl 0 (by decide) fl_P_15 rfl rfl rfl rfl (rfl) (rfl) (Nat.le_of_ble_eq_true rfl) d_P_init_15 ?_
  show Z _ _ _ _ _ _ _ (zU (zU (zU M a (.inr (3, [.null, .int (tI 0)]))) (a + 1) (.inl (E.2.1 0, h + 1, .inl (fun _ => 0)))) a (.inr (3, [.ref (a + 1), .int (tI 0)]))) _ _ _
  refine z_world (M' := zU (zU M a (.inr (3, [.ref (a + 1), .int (tI 0)]))) (a + 1) (.inl (E.2.1 0, h + 1, .inl (fun _ => 0)))) (by rw [zU_cm (by omega), zU_uu]) ?_
  refine z_widen (k := 1) (n := h + 1) (by omega) (by omega) ?_
  exact z_vret C ⟨rfl, rfl, ⟨_, (zU_ne (by omega)).trans zU_eq, zU_eq, ⟨fun i _ => rfl, fun m hm => absurd hm (by omega), fun i hi => absurd hi (by omega)⟩, by omega, by omega⟩, zout_uu⟩ d_P_init_18
end
section
/-- one step of a division by a polynomial whose highest coefficient is 1 -/
theorem dv_step {A B Q R : PS} {lo t : Nat} (hB : ∀ j, lo < j → B j = 0) (hB1 : B lo = 1) (hA : A = ps_add (ps_mul Q B) R) (hR : ∀ j, t + 1 + lo ≤ j → R j = 0) :
    A = ps_add (ps_mul (ps_add Q (mono (R (t + lo)) t)) B) (ps_sub R (ps_mul (mono (R (t + lo)) t) B)) ∧ (∀ j, t + lo ≤ j → ps_sub R (ps_mul (mono (R (t + lo)) t) B) j = 0) ∧ ∀ j, ps_sub R (ps_mul (mono (R (t + lo)) t) B) j = if t ≤ j ∧ j < t + (lo + 1) then R j - R (t + lo) * B (j - t) else R j := by
  refine ⟨?_, fun j hj => ?_, fun j => ?_⟩
  · rw [hA]
    generalize mono _ t = x
    letI := ps_ring
    show Q * B + R = (Q + x) * B + (R - x * B)
    grind
  · simp only [ps_sub]
    rw [mono_mul, if_neg (by omega)]
    rcases Nat.lt_or_ge (t + lo) j with q | q
    · rw [hR j (by omega), hB (j - t) (by omega)]; grind
    · rw [show j = t + lo by omega, show t + lo - t = lo by omega, hB1]; grind
  · simp only [ps_sub]
    rw [mono_mul]
    by_cases h : j < t
    · rw [if_pos h, if_neg (by omega)]; grind
    · rw [if_neg h]
      by_cases h2 : j < t + (lo + 1)
      · rw [if_pos ⟨by omega, h2⟩]
      · rw [if_neg (by omega), hB (j - t) (by omega)]; grind
theorem dv_top {A B Q R : PS} {lo k : Nat} (hlo : lo < k) (hB : ∀ j, lo < j → B j = 0) (hB1 : B lo = 1) (hA : A = ps_add (ps_mul Q B) R) (hR : ∀ j, lo ≤ j → R j = 0) (hQ : ∀ s, k - lo ≤ s → Q s = 0) (hk : A (k - 1) ≠ 0) : Q (k - lo - 1) ≠ 0 := by
  intro q
  apply hk
  have tp := (ps_top (m := lo) (g := B) hB (n := k - lo - 1) (f := Q) (fun j hj => hQ j (by omega))).1
  rw [show k - lo - 1 + lo = k - 1 by omega, q] at tp
  rw [hA]
  show ps_m (k - 1) Q B + R (k - 1) = 0
  rw [tp, hR (k - 1) (by omega)]
  grind
end
section
set_option maxHeartbeats 4000000 in
/-- Polynomial.divideBy -/
theorem p_divideBy (E : zE) (l : Launch) (sz : Nat) (M : zM) {a n k b nb lo c nc kc : Nat} {P B D : PS} (ha : zp E M a n k P) (hb : zp E M b nb (lo + 1) B) (hc : zp E M c nc kc D) (hB1 : B lo = 1) (hab : a ≠ b) (hac : a ≠ c) (hbc : b ≠ c) (hk : k - lo ≤ nc) : zMet E l y_P_divideBy c_P_divideBy 7 none { frames := 1, cells := 0, slots := 0, locals := 22 } 0 0 [.ref a, .ref b, .ref c] sz M (fun v s M' => none = v ∧ sz = s ∧ ∃ (Q R : PS) (kr kq : Nat), P = ps_add (ps_mul Q B) R ∧ (∀ j, lo ≤ j → R j = 0) ∧ zp E M' a n kr R ∧ zp E M' c nc kq Q ∧ ∀ q, q ≠ a → q ≠ a + 1 → q ≠ c → q ≠ c + 1 → M' q = M q) := by
  obtain ⟨f, ha0, ha1, hr, hkn, hn⟩ := id ha
  obtain ⟨fb, hb0, hb1, hrb, hknb, hnb⟩ := id hb
  obtain ⟨fc, hc0, hc1, hrc, hknc, hnc⟩ := id hc
  have eab := z_apart ha1 hb0
  have eba := z_apart hb1 ha0
  have eac := z_apart ha1 hc0
  have eca := z_apart hc1 ha0
  have ebc := z_apart hb1 hc0
  have ecb := z_apart hc1 hb0
  have hBz : ∀ j, lo < j → B j = 0 := fun j hj => hrb.1 j hj
  refine zMet.ofZ (by decide) (Nat.le_of_ble_eq_true rfl) ?_
  intro X hl hini C
  have inner : ∀ (t : Nat) (h : Nat → Int32) (R : PS), lo < k → t + lo < k → R (t + lo) ≠ 0 → (∀ g : Nat → Int32, (∀ s, s < k → g s = fI (if t ≤ s ∧ s < t + (lo + 1) then R s - R (t + lo) * B (s - t) else R s)) → Z X E 7 (zQ X E 0 0 (fun v s M' => none = v ∧ sz = s ∧ ∃ (Q R : PS) (kr kq : Nat), P = ps_add (ps_mul Q B) R ∧ (∀ j, lo ≤ j → R j = 0) ∧ zp E M' a n kr R ∧ zp E M' c nc kq Q ∧ ∀ q, q ≠ a → q ≠ a + 1 → q ≠ c → q ≠ c + 1 → M' q = M q)) 0 0 sz (zU (zU (zU M c (.inr (3, [.ref (c + 1), .int (tI (k - lo))]))) (c + 1) (.inl (E.2.1 0, nc, .inl h))) (a + 1) (.inl (E.2.1 0, n, .inl g))) 133 [(0, .ref a), (1, .ref b), (2, .ref c), (3, .int (nI lo)), (4, .int (tI (t + 1)))] []) → ∀ (m j : Nat) (g : Nat → Int32), j ≤ lo + 1 → lo + 2 ≤ j + m → (∀ s, s < k → g s = fI (if t ≤ s ∧ s < t + j then R s - R (t + lo) * B (s - t) else R s)) → Z X E 7 (zQ X E 0 0 (fun v s M' => none = v ∧ sz = s ∧ ∃ (Q R : PS) (kr kq : Nat), P = ps_add (ps_mul Q B) R ∧ (∀ j, lo ≤ j → R j = 0) ∧ zp E M' a n kr R ∧ zp E M' c nc kq Q ∧ ∀ q, q ≠ a → q ≠ a + 1 → q ≠ c → q ≠ c + 1 → M' q = M q)) 0 0 sz (zU (zU (zU M c (.inr (3, [.ref (c + 1), .int (tI (k - lo))]))) (c + 1) (.inl (E.2.1 0, nc, .inl h))) (a + 1) (.inl (E.2.1 0, n, .inl g))) 77 [(0, .ref a), (1, .ref b), (2, .ref c), (3, .int (nI lo)), (4, .int (tI (t + 1))), (5, .int (fI (R (t + lo)))), (6, .int (nI j))] [] := by
    intro t h R hlk htl hx kx m
    induction m with
    | zero => intro j g h1 h2; omega
    | succ m ih =>
      intro j g hj hm hg
      refine z_iload C d_P_divideBy_77 rfl ?_
      refine z_if_eq (tgt := 133) C d_P_divideBy_79 (by decide) (fun c_79 => absurd c_79 (fun q => hx (fI_eq0.mp q))) (fun _ => ?_)
      refine z_iload C d_P_divideBy_82 rfl ?_
      refine z_iload_n C d_P_divideBy_84 rfl rfl ?_
      refine z_icmp_gt (tgt := 133) C d_P_divideBy_85 (by decide) (fun c85 => ?_) (fun c85 => ?_)
      · have c85 := (nI_ltI (by omega) (by omega)).mp c85
        refine z_sub [0, 1, 2, 3, 4] rfl ?_
        exact kx g (fun s hs => by rw [hg s hs, show j = lo + 1 by omega])
      · have c85 : j ≤ lo := Nat.not_lt.mp (fun q => c85 ((nI_ltI (by omega) (by omega)).mpr q))
        refine z_aload_n C d_P_divideBy_88 rfl rfl ?_
        refine z_get C in_P ((zU_ne (by omega)).trans ((zU_ne (by omega)).trans ((zU_ne (by omega)).trans ha0))) rfl 0 (by decide) fl_P_15 rfl rfl d_P_divideBy_89 ?_
        refine z_iload C d_P_divideBy_92 rfl ?_
        refine z_iload C d_P_divideBy_94 rfl ?_
        refine z_iadd C d_P_divideBy_96 ?_
        refine z_top (y := nI (t + j)) (by rw [tI_s, nI_add]) ?_
        refine z_aload_n C d_P_divideBy_97 rfl rfl ?_
        refine z_get C in_P ((zU_ne (by omega)).trans ((zU_ne (by omega)).trans ((zU_ne (by omega)).trans ha0))) rfl 0 (by decide) fl_P_15 rfl rfl d_P_divideBy_98 ?_
        refine z_iload C d_P_divideBy_101 rfl ?_
        refine z_iload C d_P_divideBy_103 rfl ?_
        refine z_iadd C d_P_divideBy_105 ?_
        refine z_top (y := nI (t + j)) (by rw [tI_s, nI_add]) ?_
        refine z_iald C zU_eq 0 rfl (t + j) (rfl) (by omega) (by omega) d_P_divideBy_106 ?_
        refine z_top (y := fI (R (t + j))) (by rw [hg (t + j) (by omega), if_neg (by omega)]) ?_
        refine z_sipush (v := 10007) C d_P_divideBy_107 (by decide) ?_
        refine z_iload C d_P_divideBy_110 rfl ?_
        refine z_isub C d_P_divideBy_112 ?_
        refine z_aload_n C d_P_divideBy_113 rfl rfl ?_
        refine z_get C in_P ((zU_ne (by omega)).trans ((zU_ne (by omega)).trans ((zU_ne (by omega)).trans hb0))) rfl 0 (by decide) fl_P_15 rfl rfl d_P_divideBy_114 ?_
        refine z_iload C d_P_divideBy_117 rfl ?_
        refine z_iald C ((zU_ne (by omega)).trans ((zU_ne (by omega)).trans ((zU_ne (by omega)).trans hb1))) 0 rfl j (rfl) (by omega) (by omega) d_P_divideBy_119 ?_
        refine z_top (y := fI (B j)) (hrb.2.2 j (by omega)) ?_
        refine z_imul C d_P_divideBy_120 ?_
        refine z_iadd C d_P_divideBy_121 ?_
        refine z_sipush (v := 10007) C d_P_divideBy_122 (by decide) ?_
        refine z_irem C d_P_divideBy_125 (by decide) ?_
        refine z_top (y := fI (R (t + j) - R (t + lo) * B j)) (fI_msub _ _ _) ?_
        refine z_iast C zU_eq 0 rfl (t + j) (rfl) (by omega) (by omega) d_P_divideBy_126 ?_
        refine z_world zU_uu ?_
        refine z_iinc (v := nI (j + 1)) (L' := [(0, .ref a), (1, .ref b), (2, .ref c), (3, .int (nI lo)), (4, .int (tI (t + 1))), (5, .int (fI (R (t + lo)))), (6, .int (nI (j + 1)))]) C d_P_divideBy_127 rfl (nI_1 j) (by decide) rfl ?_
        refine z_goto (tgt := 77) C d_P_divideBy_130 (by decide) ?_
        refine ih (j + 1) _ (by omega) (by omega) (fun s hs => ?_)
        by_cases q : s = t + j
        · rw [q, upd_eq, if_pos (by omega), show t + j - t = j by omega]
        · rw [upd_ne q, hg s hs]
          by_cases q2 : t ≤ s ∧ s < t + j
          · rw [if_pos q2, if_pos (by omega)]
          · rw [if_neg q2, if_neg (by omega)]
  have loop : lo < k → ∀ (t : Nat), t ≤ k - lo → ∀ (g h : Nat → Int32) (Q R : PS), P = ps_add (ps_mul Q B) R → (∀ s, s < k → g s = fI (R s)) → (∀ s, t + lo ≤ s → R s = 0) → (∀ s, t ≤ s → s < k - lo → h s = fI (Q s)) → (∀ s, s < t → Q s = 0) → (∀ s, k - lo ≤ s → Q s = 0) → Z X E 7 (zQ X E 0 0 (fun v s M' => none = v ∧ sz = s ∧ ∃ (Q R : PS) (kr kq : Nat), P = ps_add (ps_mul Q B) R ∧ (∀ j, lo ≤ j → R j = 0) ∧ zp E M' a n kr R ∧ zp E M' c nc kq Q ∧ ∀ q, q ≠ a → q ≠ a + 1 → q ≠ c → q ≠ c + 1 → M' q = M q)) 0 0 sz (zU (zU (zU M c (.inr (3, [.ref (c + 1), .int (tI (k - lo))]))) (c + 1) (.inl (E.2.1 0, nc, .inl h))) (a + 1) (.inl (E.2.1 0, n, .inl g))) 49 [(0, .ref a), (1, .ref b), (2, .ref c), (3, .int (nI lo)), (4, .int (tI t))] [] := by
    intro hlk t
    induction t with
    | zero =>
      intro ht g h Q R hA hg hR hh hQ0 hQ1
      refine z_iload C d_P_divideBy_49 rfl ?_
      refine z_if_lt (tgt := 139) C d_P_divideBy_51 (by decide) (fun _ => ?_) (fun c_51 => absurd (by decide) c_51)
      refine z_aload_n C d_P_divideBy_139 rfl rfl ?_
      refine z_iload_n C d_P_divideBy_140 rfl rfl ?_
      refine z_iconst (v := 1) C d_P_divideBy_141 (by decide) ?_
      refine z_isub C d_P_divideBy_142 ?_
      refine z_top (y := tI lo) (rfl) ?_
      refine z_callV (rest := []) (n := 1) (As := [.int (tI lo)]) C (p_trimFrom (P := R) (m := lo) E X.2.1 sz _ ((zU_ne (by omega)).trans ((zU_ne (by omega)).trans ((zU_ne (by omega)).trans ha0))) zU_eq (by omega) hn (fun s hs => hR s (by omega)) (fun s hs => hg s (by omega))) ⟨z_cb C k_P_trimFrom ml_P_33 ii_P rfl rfl (by decide +kernel) ⟨by decide, by decide⟩, C.2.2.2.2.1 _ im_P_trimFrom, C.2.2.2.2.1 _ se_P_trimFrom⟩ ((zU_ne (by omega)).trans ((zU_ne (by omega)).trans ((zU_ne (by omega)).trans ha0))) rfl rfl rfl (Nat.le_of_ble_eq_true rfl) d_P_divideBy_143 ⟨by decide, by decide⟩ ?_
      intro v_143 s_143 M_143 hp_143
      obtain ⟨rfl, rfl, ⟨kr, hz⟩, ho⟩ := hp_143
      show Z _ _ _ _ _ _ _ _ 146 _ []
      refine z_vret C ⟨rfl, rfl, Q, R, kr, k - lo, hA, fun s hs => hR s (by omega), hz, ⟨h, ?_, ?_, ⟨hQ1, fun m hm => ?_, fun s hs => hh s (Nat.zero_le s) hs⟩, hk, hnc⟩, fun q q1 q2 q3 q4 => ?_⟩ d_P_divideBy_146
      · rw [ho c (by omega) (by omega)]; exact (zU_ne (by omega)).trans ((zU_ne (by omega)).trans zU_eq)
      · rw [ho (c + 1) (by omega) (by omega)]; exact (zU_ne (by omega)).trans zU_eq
      · rw [show m = k - lo - 1 by omega]; exact dv_top hlk hBz hB1 hA (fun s hs => hR s (by omega)) hQ1 (hr.2.1 _ (by omega))
      · rw [ho q q1 q2]; exact (zU_ne q2).trans ((zU_ne q4).trans (zU_ne q3))
    | succ t ih =>
      intro ht g h Q R hA hg hR hh hQ0 hQ1
      obtain ⟨s1, s2, s3⟩ := dv_step (t := t) hBz hB1 hA hR
      have next : ∀ g' : Nat → Int32, (∀ s, s < k → g' s = fI (if t ≤ s ∧ s < t + (lo + 1) then R s - R (t + lo) * B (s - t) else R s)) → Z X E 7 (zQ X E 0 0 (fun v s M' => none = v ∧ sz = s ∧ ∃ (Q R : PS) (kr kq : Nat), P = ps_add (ps_mul Q B) R ∧ (∀ j, lo ≤ j → R j = 0) ∧ zp E M' a n kr R ∧ zp E M' c nc kq Q ∧ ∀ q, q ≠ a → q ≠ a + 1 → q ≠ c → q ≠ c + 1 → M' q = M q)) 0 0 sz (zU (zU (zU M c (.inr (3, [.ref (c + 1), .int (tI (k - lo))]))) (c + 1) (.inl (E.2.1 0, nc, .inl (upd h t (fI (R (t + lo))))))) (a + 1) (.inl (E.2.1 0, n, .inl g'))) 133 [(0, .ref a), (1, .ref b), (2, .ref c), (3, .int (nI lo)), (4, .int (tI (t + 1)))] [] := by
        intro g' hg'
        refine z_iinc (v := tI t) (L' := [(0, .ref a), (1, .ref b), (2, .ref c), (3, .int (nI lo)), (4, .int (tI t))]) C d_P_divideBy_133 rfl (tI_dec t) (by decide) rfl ?_
        refine z_goto (tgt := 49) C d_P_divideBy_136 (by decide) ?_
        refine ih (by omega) _ _ _ _ s1 (fun s hs => by rw [hg' s hs, s3]) s2 (fun s hs1 hs2 => ?_) (fun s hs => ?_) (fun s hs => ?_)
        · by_cases q : s = t
          · rw [q, upd_eq]; simp only [ps_add, mono, if_true, hQ0 t (by omega)]; congr 1; grind
          · rw [upd_ne q, hh s (by omega) hs2]; simp only [ps_add, mono, if_neg q]; congr 1; grind
        · simp only [ps_add, mono, if_neg (show s ≠ t by omega), hQ0 s (by omega)]; grind
        · simp only [ps_add, mono, if_neg (show s ≠ t by omega), hQ1 s hs]; grind
      refine z_iload C d_P_divideBy_49 rfl ?_
      refine z_if_lt (tgt := 139) C d_P_divideBy_51 (by decide) (fun c_51 => absurd c_51 (by rw [tI_s]; exact nI_pos (by omega))) (fun _ => ?_)
      refine z_aload_n C d_P_divideBy_54 rfl rfl ?_
      refine z_get C in_P ((zU_ne (by omega)).trans ((zU_ne (by omega)).trans ((zU_ne (by omega)).trans ha0))) rfl 0 (by decide) fl_P_15 rfl rfl d_P_divideBy_55 ?_
      refine z_iload C d_P_divideBy_58 rfl ?_
      refine z_iload_n C d_P_divideBy_60 rfl rfl ?_
      refine z_iadd C d_P_divideBy_61 ?_
      refine z_top (y := nI (t + lo)) (by rw [tI_s, nI_add]) ?_
      refine z_iald C zU_eq 0 rfl (t + lo) (rfl) (by omega) (by omega) d_P_divideBy_62 ?_
      refine z_top (y := fI (R (t + lo))) (hg _ (by omega)) ?_
      refine z_istore (L' := [(0, .ref a), (1, .ref b), (2, .ref c), (3, .int (nI lo)), (4, .int (tI (t + 1))), (5, .int (fI (R (t + lo))))]) C d_P_divideBy_63 (by decide) rfl ?_
      refine z_aload_n C d_P_divideBy_65 rfl rfl ?_
      refine z_get C in_P ((zU_ne (by omega)).trans ((zU_ne (by omega)).trans zU_eq)) rfl 0 (by decide) fl_P_15 rfl rfl d_P_divideBy_66 ?_
      refine z_iload C d_P_divideBy_69 rfl ?_
      refine z_iload C d_P_divideBy_71 rfl ?_
      refine z_iast C ((zU_ne (by omega)).trans zU_eq) 0 rfl t (tI_s t) (by omega) (by omega) d_P_divideBy_73 ?_
      refine z_world (M' := zU (zU (zU M c (.inr (3, [.ref (c + 1), .int (tI (k - lo))]))) (c + 1) (.inl (E.2.1 0, nc, .inl (upd h t (fI (R (t + lo))))))) (a + 1) (.inl (E.2.1 0, n, .inl g))) (by rw [zU_cm (by omega), zU_uu]) ?_
      refine z_iconst (v := nI 0) C d_P_divideBy_74 (by decide) ?_
      refine z_istore (L' := [(0, .ref a), (1, .ref b), (2, .ref c), (3, .int (nI lo)), (4, .int (tI (t + 1))), (5, .int (fI (R (t + lo)))), (6, .int (nI 0))]) C d_P_divideBy_75 (by decide) rfl ?_
      by_cases hx : R (t + lo) = 0
      · refine z_iload C d_P_divideBy_77 rfl ?_
        refine z_if_eq (tgt := 133) C d_P_divideBy_79 (by decide) (fun _ => ?_) (fun q => absurd (fI_eq0.mpr hx) q)
        refine z_sub [0, 1, 2, 3, 4] rfl ?_
        refine next g (fun s hs => ?_)
        rw [hg s hs]
        split
        · congr 1; rw [hx]; grind
        · rfl
      · exact inner t _ R hlk (by omega) hx next (lo + 2) 0 g (by omega) (by omega) (fun s hs => by rw [if_neg (by omega)]; exact hg s hs)
  show Z X E 7 _ 0 0 sz M 0 [(0, .ref a), (1, .ref b), (2, .ref c)] []
  refine z_aload_n C d_P_divideBy_0 rfl rfl ?_
  refine z_get C in_P hb0 rfl 1 (by decide) fl_P_9 rfl rfl d_P_divideBy_1 ?_
  refine z_top (y := nI lo) (tI_s lo) ?_
  refine z_istore_n (L' := [(0, .ref a), (1, .ref b), (2, .ref c), (3, .int (nI lo))]) C d_P_divideBy_4 rfl (by decide) rfl ?_
  refine z_iload_n C d_P_divideBy_5 rfl rfl ?_
  refine z_if_lt (tgt := 17) C d_P_divideBy_6 (by decide) (fun c_6 => absurd c_6 (nI_pos (by omega))) (fun _ => ?_)
  refine z_aload_n C d_P_divideBy_9 rfl rfl ?_
  refine z_get C in_P ha0 rfl 1 (by decide) fl_P_9 rfl rfl d_P_divideBy_10 ?_
  refine z_iload_n C d_P_divideBy_13 rfl rfl ?_
  refine z_icmp_ge (tgt := 23) C d_P_divideBy_14 (by decide) (fun c14 => ?_) (fun c14 => ?_)
  · have c14 := (tI_le (by omega) (by omega)).mp c14
    refine z_aload_n C d_P_divideBy_23 rfl rfl ?_
    refine z_aload_n C d_P_divideBy_24 rfl rfl ?_
    refine z_get C in_P ha0 rfl 1 (by decide) fl_P_9 rfl rfl d_P_divideBy_25 ?_
    refine z_iload_n C d_P_divideBy_28 rfl rfl ?_
    refine z_isub C d_P_divideBy_29 ?_
    refine z_top (y := tI (k - lo)) (tI_subn c14) ?_
    refine z_aload_n C d_P_divideBy_30 rfl rfl ?_
    refine z_get C in_P hc0 rfl 0 (by decide) fl_P_15 rfl rfl d_P_divideBy_31 ?_
    refine z_alen (v := nI nc) C hc1 0 rfl (rfl) d_P_divideBy_34 ?_
    refine z_iconst (v := 1) C d_P_divideBy_35 (by decide) ?_
    refine z_isub C d_P_divideBy_36 ?_
    refine z_mmin C ml_P_23 sm_jM_min ii_jM k_jM_min (by decide) (Nat.le_of_ble_eq_true rfl) (Nat.zero_le _) (Nat.zero_le _) d_P_divideBy_37 ?_
    refine z_top (y := tI (k - lo)) (tI_min (k := k - lo) (m := nc) (by omega) (by omega) hk) ?_
    refine z_put C in_P ty_P tok_P nm_P hc0 rfl 1 (by decide) fl_P_9 rfl rfl rfl (rfl) (rfl) (Nat.le_of_ble_eq_true rfl) d_P_divideBy_40 ?_
    show Z _ _ _ _ _ _ _ (zU M c (.inr (3, [.ref (c + 1), .int (tI (k - lo))]))) _ _ _
    refine z_aload_n C d_P_divideBy_43 rfl rfl ?_
    refine z_get C in_P zU_eq rfl 1 (by decide) fl_P_9 rfl rfl d_P_divideBy_44 ?_
    refine z_istore (L' := [(0, .ref a), (1, .ref b), (2, .ref c), (3, .int (nI lo)), (4, .int (tI (k - lo)))]) C d_P_divideBy_47 (by decide) rfl ?_
    refine z_world (zU_id (a := c + 1) (e := .inl (E.2.1 0, nc, .inl fc)) ((zU_ne (by omega)).trans hc1)).symm ?_
    refine z_world (zU_id (a := a + 1) (e := .inl (E.2.1 0, n, .inl f)) ((zU_ne (by omega)).trans ((zU_ne (by omega)).trans ha1))).symm ?_
    exact loop c14 (k - lo) (Nat.le_refl _) f fc ps_0 P (by rw [ps_mul0l]; funext s; simp only [ps_add, ps_0]; grind) (fun s hs => hr.2.2 s hs) (fun s hs => hr.1 s (by omega)) (fun s h1 h2 => absurd h2 (by omega)) (fun _ _ => rfl) (fun _ _ => rfl)
  · have c14 : k ≤ lo := Nat.not_lt.mp (fun q => c14 ((tI_le (by omega) (by omega)).mpr q))
    refine z_aload_n C d_P_divideBy_17 rfl rfl ?_
    refine z_iconst (v := tI 0) C d_P_divideBy_18 (by decide) ?_
    refine z_put C in_P ty_P tok_P nm_P hc0 rfl 1 (by decide) fl_P_9 rfl rfl rfl (rfl) (rfl) (Nat.le_of_ble_eq_true rfl) d_P_divideBy_19 ?_
    show Z _ _ _ _ _ _ _ (zU M c (.inr (3, [.ref (c + 1), .int (tI 0)]))) _ _ _
    refine z_vret C ⟨rfl, rfl, ps_0, P, k, 0, by rw [ps_mul0l]; funext s; simp only [ps_add, ps_0]; grind, fun s hs => hr.1 s (by omega), zp_kept ha (zU_ne (by omega)) (zU_ne (by omega)), ⟨fc, zU_eq, (zU_ne (by omega)).trans hc1, ⟨fun _ _ => rfl, fun m hm => absurd hm (by omega), fun s hs => absurd hs (by omega)⟩, by omega, hnc⟩, fun q q1 q2 q3 q4 => zU_ne q3⟩ d_P_divideBy_22
end
section
theorem d_S_init_0 : decode c_S_init 0 = .ok (.aload_n 0, 1) := by decide +kernel
theorem d_S_init_1 : decode c_S_init 1 = .ok (.invokespecial 3, 3) := by decide +kernel
theorem d_S_init_4 : decode c_S_init 4 = .ok (.aload_n 0, 1) := by decide +kernel
theorem d_S_init_5 : decode c_S_init 5 = .ok (.new 9, 3) := by decide +kernel
theorem d_S_init_8 : decode c_S_init 8 = .ok (.dup, 1) := by decide +kernel
theorem d_S_init_9 : decode c_S_init 9 = .ok (.invokespecial 11, 3) := by decide +kernel
theorem d_S_init_12 : decode c_S_init 12 = .ok (.putfield 12, 3) := by decide +kernel
theorem d_S_init_15 : decode c_S_init 15 = .ok (.aload_n 0, 1) := by decide +kernel
theorem d_S_init_16 : decode c_S_init 16 = .ok (.new 16, 3) := by decide +kernel
theorem d_S_init_19 : decode c_S_init 19 = .ok (.dup, 1) := by decide +kernel
theorem d_S_init_20 : decode c_S_init 20 = .ok (.invokespecial 18, 3) := by decide +kernel
theorem d_S_init_23 : decode c_S_init 23 = .ok (.putfield 19, 3) := by decide +kernel
theorem d_S_init_26 : decode c_S_init 26 = .ok (.aload_n 0, 1) := by decide +kernel
theorem d_S_init_27 : decode c_S_init 27 = .ok (.new 23, 3) := by decide +kernel
theorem d_S_init_30 : decode c_S_init 30 = .ok (.dup, 1) := by decide +kernel
theorem d_S_init_31 : decode c_S_init 31 = .ok (.invokespecial 25, 3) := by decide +kernel
theorem d_S_init_34 : decode c_S_init 34 = .ok (.putfield 26, 3) := by decide +kernel
theorem d_S_init_37 : decode c_S_init 37 = .ok (.aload_n 0, 1) := by decide +kernel
theorem d_S_init_38 : decode c_S_init 38 = .ok (.new 30, 3) := by decide +kernel
theorem d_S_init_41 : decode c_S_init 41 = .ok (.dup, 1) := by decide +kernel
theorem d_S_init_42 : decode c_S_init 42 = .ok (.invokespecial 32, 3) := by decide +kernel
theorem d_S_init_45 : decode c_S_init 45 = .ok (.putfield 33, 3) := by decide +kernel
theorem d_S_init_48 : decode c_S_init 48 = .ok (.aload_n 0, 1) := by decide +kernel
theorem d_S_init_49 : decode c_S_init 49 = .ok (.new 37, 3) := by decide +kernel
theorem d_S_init_52 : decode c_S_init 52 = .ok (.dup, 1) := by decide +kernel
theorem d_S_init_53 : decode c_S_init 53 = .ok (.invokespecial 39, 3) := by decide +kernel
theorem d_S_init_56 : decode c_S_init 56 = .ok (.putfield 40, 3) := by decide +kernel
theorem d_S_init_59 : decode c_S_init 59 = .ok (.aload_n 0, 1) := by decide +kernel
theorem d_S_init_60 : decode c_S_init 60 = .ok (.new 44, 3) := by decide +kernel
theorem d_S_init_63 : decode c_S_init 63 = .ok (.dup, 1) := by decide +kernel
theorem d_S_init_64 : decode c_S_init 64 = .ok (.invokespecial 46, 3) := by decide +kernel
theorem d_S_init_67 : decode c_S_init 67 = .ok (.putfield 47, 3) := by decide +kernel
theorem d_S_init_70 : decode c_S_init 70 = .ok (.aload_n 0, 1) := by decide +kernel
theorem d_S_init_71 : decode c_S_init 71 = .ok (.iconst (-1), 1) := by decide +kernel
theorem d_S_init_72 : decode c_S_init 72 = .ok (.putfield 51, 3) := by decide +kernel
theorem d_S_init_75 : decode c_S_init 75 = .ok (.return_, 1) := by decide +kernel
theorem d_W_init_0 : decode c_W_init 0 = .ok (.aload_n 0, 1) := by decide +kernel
theorem d_W_init_1 : decode c_W_init 1 = .ok (.invokespecial 3, 3) := by decide +kernel
theorem d_W_init_4 : decode c_W_init 4 = .ok (.aload_n 0, 1) := by decide +kernel
theorem d_W_init_5 : decode c_W_init 5 = .ok (.new 9, 3) := by decide +kernel
theorem d_W_init_8 : decode c_W_init 8 = .ok (.dup, 1) := by decide +kernel
theorem d_W_init_9 : decode c_W_init 9 = .ok (.bipush 24, 2) := by decide +kernel
theorem d_W_init_11 : decode c_W_init 11 = .ok (.invokespecial 13, 3) := by decide +kernel
theorem d_W_init_14 : decode c_W_init 14 = .ok (.putfield 16, 3) := by decide +kernel
theorem d_W_init_17 : decode c_W_init 17 = .ok (.aload_n 0, 1) := by decide +kernel
theorem d_W_init_18 : decode c_W_init 18 = .ok (.new 9, 3) := by decide +kernel
theorem d_W_init_21 : decode c_W_init 21 = .ok (.dup, 1) := by decide +kernel
theorem d_W_init_22 : decode c_W_init 22 = .ok (.bipush 24, 2) := by decide +kernel
theorem d_W_init_24 : decode c_W_init 24 = .ok (.invokespecial 13, 3) := by decide +kernel
theorem d_W_init_27 : decode c_W_init 27 = .ok (.putfield 20, 3) := by decide +kernel
theorem d_W_init_30 : decode c_W_init 30 = .ok (.aload_n 0, 1) := by decide +kernel
theorem d_W_init_31 : decode c_W_init 31 = .ok (.new 9, 3) := by decide +kernel
theorem d_W_init_34 : decode c_W_init 34 = .ok (.dup, 1) := by decide +kernel
theorem d_W_init_35 : decode c_W_init 35 = .ok (.bipush 24, 2) := by decide +kernel
theorem d_W_init_37 : decode c_W_init 37 = .ok (.invokespecial 13, 3) := by decide +kernel
theorem d_W_init_40 : decode c_W_init 40 = .ok (.putfield 23, 3) := by decide +kernel
theorem d_W_init_43 : decode c_W_init 43 = .ok (.aload_n 0, 1) := by decide +kernel
theorem d_W_init_44 : decode c_W_init 44 = .ok (.new 9, 3) := by decide +kernel
theorem d_W_init_47 : decode c_W_init 47 = .ok (.dup, 1) := by decide +kernel
theorem d_W_init_48 : decode c_W_init 48 = .ok (.bipush 24, 2) := by decide +kernel
theorem d_W_init_50 : decode c_W_init 50 = .ok (.invokespecial 13, 3) := by decide +kernel
theorem d_W_init_53 : decode c_W_init 53 = .ok (.putfield 26, 3) := by decide +kernel
theorem d_W_init_56 : decode c_W_init 56 = .ok (.aload_n 0, 1) := by decide +kernel
theorem d_W_init_57 : decode c_W_init 57 = .ok (.new 9, 3) := by decide +kernel
theorem d_W_init_60 : decode c_W_init 60 = .ok (.dup, 1) := by decide +kernel
theorem d_W_init_61 : decode c_W_init 61 = .ok (.bipush 24, 2) := by decide +kernel
theorem d_W_init_63 : decode c_W_init 63 = .ok (.invokespecial 13, 3) := by decide +kernel
theorem d_W_init_66 : decode c_W_init 66 = .ok (.putfield 29, 3) := by decide +kernel
theorem d_W_init_69 : decode c_W_init 69 = .ok (.aload_n 0, 1) := by decide +kernel
theorem d_W_init_70 : decode c_W_init 70 = .ok (.new 9, 3) := by decide +kernel
theorem d_W_init_73 : decode c_W_init 73 = .ok (.dup, 1) := by decide +kernel
theorem d_W_init_74 : decode c_W_init 74 = .ok (.bipush 24, 2) := by decide +kernel
theorem d_W_init_76 : decode c_W_init 76 = .ok (.invokespecial 13, 3) := by decide +kernel
theorem d_W_init_79 : decode c_W_init 79 = .ok (.putfield 32, 3) := by decide +kernel
theorem d_W_init_82 : decode c_W_init 82 = .ok (.aload_n 0, 1) := by decide +kernel
theorem d_W_init_83 : decode c_W_init 83 = .ok (.new 9, 3) := by decide +kernel
theorem d_W_init_86 : decode c_W_init 86 = .ok (.dup, 1) := by decide +kernel
theorem d_W_init_87 : decode c_W_init 87 = .ok (.bipush 24, 2) := by decide +kernel
theorem d_W_init_89 : decode c_W_init 89 = .ok (.invokespecial 13, 3) := by decide +kernel
theorem d_W_init_92 : decode c_W_init 92 = .ok (.putfield 35, 3) := by decide +kernel
theorem d_W_init_95 : decode c_W_init 95 = .ok (.return_, 1) := by decide +kernel
theorem d_F_init_0 : decode c_F_init 0 = .ok (.aload_n 0, 1) := by decide +kernel
theorem d_F_init_1 : decode c_F_init 1 = .ok (.invokespecial 3, 3) := by decide +kernel
theorem d_F_init_4 : decode c_F_init 4 = .ok (.aload_n 0, 1) := by decide +kernel
theorem d_F_init_5 : decode c_F_init 5 = .ok (.new 9, 3) := by decide +kernel
theorem d_F_init_8 : decode c_F_init 8 = .ok (.dup, 1) := by decide +kernel
theorem d_F_init_9 : decode c_F_init 9 = .ok (.bipush 12, 2) := by decide +kernel
theorem d_F_init_11 : decode c_F_init 11 = .ok (.invokespecial 11, 3) := by decide +kernel
theorem d_F_init_14 : decode c_F_init 14 = .ok (.putfield 14, 3) := by decide +kernel
theorem d_F_init_17 : decode c_F_init 17 = .ok (.aload_n 0, 1) := by decide +kernel
theorem d_F_init_18 : decode c_F_init 18 = .ok (.new 9, 3) := by decide +kernel
theorem d_F_init_21 : decode c_F_init 21 = .ok (.dup, 1) := by decide +kernel
theorem d_F_init_22 : decode c_F_init 22 = .ok (.bipush 12, 2) := by decide +kernel
theorem d_F_init_24 : decode c_F_init 24 = .ok (.invokespecial 11, 3) := by decide +kernel
theorem d_F_init_27 : decode c_F_init 27 = .ok (.putfield 20, 3) := by decide +kernel
theorem d_F_init_30 : decode c_F_init 30 = .ok (.return_, 1) := by decide +kernel
theorem d_S_type_0 : decode c_S_type 0 = .ok (.iload_n 1, 1) := by decide +kernel
theorem d_S_type_1 : decode c_S_type 1 = .ok (.invokestatic 55, 3) := by decide +kernel
theorem d_S_type_4 : decode c_S_type 4 = .ok (.ifCond .ne 5, 3) := by decide +kernel
theorem d_S_type_7 : decode c_S_type 7 = .ok (.iconst (-1), 1) := by decide +kernel
theorem d_S_type_8 : decode c_S_type 8 = .ok (.ireturn, 1) := by decide +kernel
theorem d_S_type_9 : decode c_S_type 9 = .ok (.aload_n 0, 1) := by decide +kernel
theorem d_S_type_10 : decode c_S_type 10 = .ok (.getfield 12, 3) := by decide +kernel
theorem d_S_type_13 : decode c_S_type 13 = .ok (.iload_n 1, 1) := by decide +kernel
theorem d_S_type_14 : decode c_S_type 14 = .ok (.i2c, 1) := by decide +kernel
theorem d_S_type_15 : decode c_S_type 15 = .ok (.invokevirtual 59, 3) := by decide +kernel
theorem d_S_type_18 : decode c_S_type 18 = .ok (.ifCond .eq 13, 3) := by decide +kernel
theorem d_S_type_21 : decode c_S_type 21 = .ok (.aload_n 0, 1) := by decide +kernel
theorem d_S_type_22 : decode c_S_type 22 = .ok (.getfield 12, 3) := by decide +kernel
theorem d_S_type_25 : decode c_S_type 25 = .ok (.getfield 63, 3) := by decide +kernel
theorem d_S_type_28 : decode c_S_type 28 = .ok (.goto 5, 3) := by decide +kernel
theorem d_S_type_31 : decode c_S_type 31 = .ok (.bipush (-2), 2) := by decide +kernel
theorem d_S_type_33 : decode c_S_type 33 = .ok (.ireturn, 1) := by decide +kernel
theorem d_S_types_0 : decode c_S_types 0 = .ok (.bipush 56, 2) := by decide +kernel
theorem d_S_types_2 : decode c_S_types 2 = .ok (.istore_n 3, 1) := by decide +kernel
theorem d_S_types_3 : decode c_S_types 3 = .ok (.iload_n 3, 1) := by decide +kernel
theorem d_S_types_4 : decode c_S_types 4 = .ok (.ifCond .lt 40, 3) := by decide +kernel
theorem d_S_types_7 : decode c_S_types 7 = .ok (.lload_n 1, 1) := by decide +kernel
theorem d_S_types_8 : decode c_S_types 8 = .ok (.iload_n 3, 1) := by decide +kernel
theorem d_S_types_9 : decode c_S_types 9 = .ok (.lushr, 1) := by decide +kernel
theorem d_S_types_10 : decode c_S_types 10 = .ok (.l2i, 1) := by decide +kernel
theorem d_S_types_11 : decode c_S_types 11 = .ok (.sipush 255, 3) := by decide +kernel
theorem d_S_types_14 : decode c_S_types 14 = .ok (.iand, 1) := by decide +kernel
theorem d_S_types_15 : decode c_S_types 15 = .ok (.istore 4, 2) := by decide +kernel
theorem d_S_types_17 : decode c_S_types 17 = .ok (.iload 4, 2) := by decide +kernel
theorem d_S_types_19 : decode c_S_types 19 = .ok (.ifCond .eq 19, 3) := by decide +kernel
theorem d_S_types_22 : decode c_S_types 22 = .ok (.aload_n 0, 1) := by decide +kernel
theorem d_S_types_23 : decode c_S_types 23 = .ok (.iload 4, 2) := by decide +kernel
theorem d_S_types_25 : decode c_S_types 25 = .ok (.invokevirtual 66, 3) := by decide +kernel
theorem d_S_types_28 : decode c_S_types 28 = .ok (.istore 5, 2) := by decide +kernel
theorem d_S_types_30 : decode c_S_types 30 = .ok (.iload 5, 2) := by decide +kernel
theorem d_S_types_32 : decode c_S_types 32 = .ok (.ifCond .ge 6, 3) := by decide +kernel
theorem d_S_types_35 : decode c_S_types 35 = .ok (.iload 5, 2) := by decide +kernel
theorem d_S_types_37 : decode c_S_types 37 = .ok (.ireturn, 1) := by decide +kernel
theorem d_S_types_38 : decode c_S_types 38 = .ok (.iinc 3 (-8), 3) := by decide +kernel
theorem d_S_types_41 : decode c_S_types 41 = .ok (.goto (-38), 3) := by decide +kernel
theorem d_S_types_44 : decode c_S_types 44 = .ok (.aload_n 0, 1) := by decide +kernel
theorem d_S_types_45 : decode c_S_types 45 = .ok (.getfield 12, 3) := by decide +kernel
theorem d_S_types_48 : decode c_S_types 48 = .ok (.getfield 63, 3) := by decide +kernel
theorem d_S_types_51 : decode c_S_types 51 = .ok (.ireturn, 1) := by decide +kernel
theorem d_S_back_0 : decode c_S_back 0 = .ok (.aload_n 0, 1) := by decide +kernel
theorem d_S_back_1 : decode c_S_back 1 = .ok (.getfield 12, 3) := by decide +kernel
theorem d_S_back_4 : decode c_S_back 4 = .ok (.invokevirtual 70, 3) := by decide +kernel
theorem d_S_back_7 : decode c_S_back 7 = .ok (.ifCond .eq 13, 3) := by decide +kernel
theorem d_S_back_10 : decode c_S_back 10 = .ok (.aload_n 0, 1) := by decide +kernel
theorem d_S_back_11 : decode c_S_back 11 = .ok (.getfield 12, 3) := by decide +kernel
theorem d_S_back_14 : decode c_S_back 14 = .ok (.getfield 63, 3) := by decide +kernel
theorem d_S_back_17 : decode c_S_back 17 = .ok (.goto 4, 3) := by decide +kernel
theorem d_S_back_20 : decode c_S_back 20 = .ok (.iconst (-1), 1) := by decide +kernel
theorem d_S_back_21 : decode c_S_back 21 = .ok (.ireturn, 1) := by decide +kernel
theorem d_S_enter_0 : decode c_S_enter 0 = .ok (.aload_n 0, 1) := by decide +kernel
theorem d_S_enter_1 : decode c_S_enter 1 = .ok (.getfield 19, 3) := by decide +kernel
theorem d_S_enter_4 : decode c_S_enter 4 = .ok (.aload_n 0, 1) := by decide +kernel
theorem d_S_enter_5 : decode c_S_enter 5 = .ok (.getfield 12, 3) := by decide +kernel
theorem d_S_enter_8 : decode c_S_enter 8 = .ok (.aload_n 0, 1) := by decide +kernel
theorem d_S_enter_9 : decode c_S_enter 9 = .ok (.getfield 26, 3) := by decide +kernel
theorem d_S_enter_12 : decode c_S_enter 12 = .ok (.invokevirtual 74, 3) := by decide +kernel
theorem d_S_enter_15 : decode c_S_enter 15 = .ok (.istore_n 1, 1) := by decide +kernel
theorem d_S_enter_16 : decode c_S_enter 16 = .ok (.aload_n 0, 1) := by decide +kernel
theorem d_S_enter_17 : decode c_S_enter 17 = .ok (.getfield 12, 3) := by decide +kernel
theorem d_S_enter_20 : decode c_S_enter 20 = .ok (.invokevirtual 78, 3) := by decide +kernel
theorem d_S_enter_23 : decode c_S_enter 23 = .ok (.aload_n 0, 1) := by decide +kernel
theorem d_S_enter_24 : decode c_S_enter 24 = .ok (.getfield 40, 3) := by decide +kernel
theorem d_S_enter_27 : decode c_S_enter 27 = .ok (.invokevirtual 81, 3) := by decide +kernel
theorem d_S_enter_30 : decode c_S_enter 30 = .ok (.ifCond .eq 6, 3) := by decide +kernel
theorem d_S_enter_33 : decode c_S_enter 33 = .ok (.bipush (-2), 2) := by decide +kernel
theorem d_S_enter_35 : decode c_S_enter 35 = .ok (.ireturn, 1) := by decide +kernel
theorem d_S_enter_36 : decode c_S_enter 36 = .ok (.iload_n 1, 1) := by decide +kernel
theorem d_S_enter_37 : decode c_S_enter 37 = .ok (.iconst (-1), 1) := by decide +kernel
theorem d_S_enter_38 : decode c_S_enter 38 = .ok (.if_icmp .eq 11, 3) := by decide +kernel
theorem d_S_enter_41 : decode c_S_enter 41 = .ok (.aload_n 0, 1) := by decide +kernel
theorem d_S_enter_42 : decode c_S_enter 42 = .ok (.iload_n 1, 1) := by decide +kernel
theorem d_S_enter_43 : decode c_S_enter 43 = .ok (.putfield 51, 3) := by decide +kernel
theorem d_S_enter_46 : decode c_S_enter 46 = .ok (.bipush (-3), 2) := by decide +kernel
theorem d_S_enter_48 : decode c_S_enter 48 = .ok (.ireturn, 1) := by decide +kernel
theorem d_S_enter_49 : decode c_S_enter 49 = .ok (.aload_n 0, 1) := by decide +kernel
theorem d_S_enter_50 : decode c_S_enter 50 = .ok (.getfield 33, 3) := by decide +kernel
theorem d_S_enter_53 : decode c_S_enter 53 = .ok (.aload_n 0, 1) := by decide +kernel
theorem d_S_enter_54 : decode c_S_enter 54 = .ok (.getfield 26, 3) := by decide +kernel
theorem d_S_enter_57 : decode c_S_enter 57 = .ok (.aload_n 0, 1) := by decide +kernel
theorem d_S_enter_58 : decode c_S_enter 58 = .ok (.getfield 40, 3) := by decide +kernel
theorem d_S_enter_61 : decode c_S_enter 61 = .ok (.invokevirtual 84, 3) := by decide +kernel
theorem d_S_enter_64 : decode c_S_enter 64 = .ok (.istore_n 2, 1) := by decide +kernel
theorem d_S_enter_65 : decode c_S_enter 65 = .ok (.iload_n 2, 1) := by decide +kernel
theorem d_S_enter_66 : decode c_S_enter 66 = .ok (.ifCond .eq 5, 3) := by decide +kernel
theorem d_S_enter_69 : decode c_S_enter 69 = .ok (.iload_n 2, 1) := by decide +kernel
theorem d_S_enter_70 : decode c_S_enter 70 = .ok (.ireturn, 1) := by decide +kernel
theorem d_S_enter_71 : decode c_S_enter 71 = .ok (.aload_n 0, 1) := by decide +kernel
theorem d_S_enter_72 : decode c_S_enter 72 = .ok (.getfield 40, 3) := by decide +kernel
theorem d_S_enter_75 : decode c_S_enter 75 = .ok (.aload_n 0, 1) := by decide +kernel
theorem d_S_enter_76 : decode c_S_enter 76 = .ok (.getfield 33, 3) := by decide +kernel
theorem d_S_enter_79 : decode c_S_enter 79 = .ok (.invokevirtual 88, 3) := by decide +kernel
theorem d_S_enter_82 : decode c_S_enter 82 = .ok (.invokevirtual 92, 3) := by decide +kernel
theorem d_S_enter_85 : decode c_S_enter 85 = .ok (.istore_n 3, 1) := by decide +kernel
theorem d_S_enter_86 : decode c_S_enter 86 = .ok (.aload_n 0, 1) := by decide +kernel
theorem d_S_enter_87 : decode c_S_enter 87 = .ok (.getfield 40, 3) := by decide +kernel
theorem d_S_enter_90 : decode c_S_enter 90 = .ok (.aload_n 0, 1) := by decide +kernel
theorem d_S_enter_91 : decode c_S_enter 91 = .ok (.getfield 26, 3) := by decide +kernel
theorem d_S_enter_94 : decode c_S_enter 94 = .ok (.getfield 96, 3) := by decide +kernel
theorem d_S_enter_97 : decode c_S_enter 97 = .ok (.iload_n 3, 1) := by decide +kernel
theorem d_S_enter_98 : decode c_S_enter 98 = .ok (.invokevirtual 99, 3) := by decide +kernel
theorem d_S_enter_101 : decode c_S_enter 101 = .ok (.iload_n 3, 1) := by decide +kernel
theorem d_S_enter_102 : decode c_S_enter 102 = .ok (.ireturn, 1) := by decide +kernel
theorem d_F_setConstant_0 : decode c_F_setConstant 0 = .ok (.aload_n 0, 1) := by decide +kernel
theorem d_F_setConstant_1 : decode c_F_setConstant 1 = .ok (.getfield 14, 3) := by decide +kernel
theorem d_F_setConstant_4 : decode c_F_setConstant 4 = .ok (.iload_n 1, 1) := by decide +kernel
theorem d_F_setConstant_5 : decode c_F_setConstant 5 = .ok (.invokevirtual 37, 3) := by decide +kernel
theorem d_F_setConstant_8 : decode c_F_setConstant 8 = .ok (.aload_n 0, 1) := by decide +kernel
theorem d_F_setConstant_9 : decode c_F_setConstant 9 = .ok (.getfield 20, 3) := by decide +kernel
theorem d_F_setConstant_12 : decode c_F_setConstant 12 = .ok (.iconst 1, 1) := by decide +kernel
theorem d_F_setConstant_13 : decode c_F_setConstant 13 = .ok (.invokevirtual 37, 3) := by decide +kernel
theorem d_F_setConstant_16 : decode c_F_setConstant 16 = .ok (.return_, 1) := by decide +kernel
theorem d_F_setLetter_0 : decode c_F_setLetter 0 = .ok (.aload_n 0, 1) := by decide +kernel
theorem d_F_setLetter_1 : decode c_F_setLetter 1 = .ok (.getfield 14, 3) := by decide +kernel
theorem d_F_setLetter_4 : decode c_F_setLetter 4 = .ok (.invokevirtual 40, 3) := by decide +kernel
theorem d_F_setLetter_7 : decode c_F_setLetter 7 = .ok (.aload_n 0, 1) := by decide +kernel
theorem d_F_setLetter_8 : decode c_F_setLetter 8 = .ok (.getfield 20, 3) := by decide +kernel
theorem d_F_setLetter_11 : decode c_F_setLetter 11 = .ok (.iconst 1, 1) := by decide +kernel
theorem d_F_setLetter_12 : decode c_F_setLetter 12 = .ok (.invokevirtual 37, 3) := by decide +kernel
theorem d_F_setLetter_15 : decode c_F_setLetter 15 = .ok (.return_, 1) := by decide +kernel
theorem d_F_copy_0 : decode c_F_copy 0 = .ok (.aload_n 0, 1) := by decide +kernel
theorem d_F_copy_1 : decode c_F_copy 1 = .ok (.getfield 14, 3) := by decide +kernel
theorem d_F_copy_4 : decode c_F_copy 4 = .ok (.aload_n 1, 1) := by decide +kernel
theorem d_F_copy_5 : decode c_F_copy 5 = .ok (.getfield 14, 3) := by decide +kernel
theorem d_F_copy_8 : decode c_F_copy 8 = .ok (.invokevirtual 43, 3) := by decide +kernel
theorem d_F_copy_11 : decode c_F_copy 11 = .ok (.aload_n 0, 1) := by decide +kernel
theorem d_F_copy_12 : decode c_F_copy 12 = .ok (.getfield 20, 3) := by decide +kernel
theorem d_F_copy_15 : decode c_F_copy 15 = .ok (.aload_n 1, 1) := by decide +kernel
theorem d_F_copy_16 : decode c_F_copy 16 = .ok (.getfield 20, 3) := by decide +kernel
theorem d_F_copy_19 : decode c_F_copy 19 = .ok (.invokevirtual 43, 3) := by decide +kernel
theorem d_F_copy_22 : decode c_F_copy 22 = .ok (.return_, 1) := by decide +kernel
theorem d_W_add_0 : decode c_W_add 0 = .ok (.aload_n 0, 1) := by decide +kernel
theorem d_W_add_1 : decode c_W_add 1 = .ok (.getfield 16, 3) := by decide +kernel
theorem d_W_add_4 : decode c_W_add 4 = .ok (.aload_n 1, 1) := by decide +kernel
theorem d_W_add_5 : decode c_W_add 5 = .ok (.getfield 38, 3) := by decide +kernel
theorem d_W_add_8 : decode c_W_add 8 = .ok (.aload_n 2, 1) := by decide +kernel
theorem d_W_add_9 : decode c_W_add 9 = .ok (.getfield 41, 3) := by decide +kernel
theorem d_W_add_12 : decode c_W_add 12 = .ok (.invokevirtual 42, 3) := by decide +kernel
theorem d_W_add_15 : decode c_W_add 15 = .ok (.aload_n 0, 1) := by decide +kernel
theorem d_W_add_16 : decode c_W_add 16 = .ok (.getfield 23, 3) := by decide +kernel
theorem d_W_add_19 : decode c_W_add 19 = .ok (.aload_n 2, 1) := by decide +kernel
theorem d_W_add_20 : decode c_W_add 20 = .ok (.getfield 38, 3) := by decide +kernel
theorem d_W_add_23 : decode c_W_add 23 = .ok (.aload_n 1, 1) := by decide +kernel
theorem d_W_add_24 : decode c_W_add 24 = .ok (.getfield 41, 3) := by decide +kernel
theorem d_W_add_27 : decode c_W_add 27 = .ok (.invokevirtual 42, 3) := by decide +kernel
theorem d_W_add_30 : decode c_W_add 30 = .ok (.aload_n 0, 1) := by decide +kernel
theorem d_W_add_31 : decode c_W_add 31 = .ok (.getfield 16, 3) := by decide +kernel
theorem d_W_add_34 : decode c_W_add 34 = .ok (.aload_n 0, 1) := by decide +kernel
theorem d_W_add_35 : decode c_W_add 35 = .ok (.getfield 23, 3) := by decide +kernel
theorem d_W_add_38 : decode c_W_add 38 = .ok (.iload_n 3, 1) := by decide +kernel
theorem d_W_add_39 : decode c_W_add 39 = .ok (.invokevirtual 46, 3) := by decide +kernel
theorem d_W_add_42 : decode c_W_add 42 = .ok (.aload_n 0, 1) := by decide +kernel
theorem d_W_add_43 : decode c_W_add 43 = .ok (.getfield 20, 3) := by decide +kernel
theorem d_W_add_46 : decode c_W_add 46 = .ok (.aload_n 1, 1) := by decide +kernel
theorem d_W_add_47 : decode c_W_add 47 = .ok (.getfield 41, 3) := by decide +kernel
theorem d_W_add_50 : decode c_W_add 50 = .ok (.aload_n 2, 1) := by decide +kernel
theorem d_W_add_51 : decode c_W_add 51 = .ok (.getfield 41, 3) := by decide +kernel
theorem d_W_add_54 : decode c_W_add 54 = .ok (.invokevirtual 42, 3) := by decide +kernel
theorem d_W_add_57 : decode c_W_add 57 = .ok (.return_, 1) := by decide +kernel
theorem d_W_multiply_0 : decode c_W_multiply 0 = .ok (.aload_n 0, 1) := by decide +kernel
theorem d_W_multiply_1 : decode c_W_multiply 1 = .ok (.getfield 16, 3) := by decide +kernel
theorem d_W_multiply_4 : decode c_W_multiply 4 = .ok (.aload_n 1, 1) := by decide +kernel
theorem d_W_multiply_5 : decode c_W_multiply 5 = .ok (.getfield 38, 3) := by decide +kernel
theorem d_W_multiply_8 : decode c_W_multiply 8 = .ok (.aload_n 2, 1) := by decide +kernel
theorem d_W_multiply_9 : decode c_W_multiply 9 = .ok (.getfield 38, 3) := by decide +kernel
theorem d_W_multiply_12 : decode c_W_multiply 12 = .ok (.invokevirtual 42, 3) := by decide +kernel
theorem d_W_multiply_15 : decode c_W_multiply 15 = .ok (.aload_n 0, 1) := by decide +kernel
theorem d_W_multiply_16 : decode c_W_multiply 16 = .ok (.getfield 20, 3) := by decide +kernel
theorem d_W_multiply_19 : decode c_W_multiply 19 = .ok (.aload_n 1, 1) := by decide +kernel
theorem d_W_multiply_20 : decode c_W_multiply 20 = .ok (.getfield 41, 3) := by decide +kernel
theorem d_W_multiply_23 : decode c_W_multiply 23 = .ok (.aload_n 2, 1) := by decide +kernel
theorem d_W_multiply_24 : decode c_W_multiply 24 = .ok (.getfield 41, 3) := by decide +kernel
theorem d_W_multiply_27 : decode c_W_multiply 27 = .ok (.invokevirtual 42, 3) := by decide +kernel
theorem d_W_multiply_30 : decode c_W_multiply 30 = .ok (.return_, 1) := by decide +kernel
theorem d_W_divide_0 : decode c_W_divide 0 = .ok (.aload_n 2, 1) := by decide +kernel
theorem d_W_divide_1 : decode c_W_divide 1 = .ok (.invokevirtual 50, 3) := by decide +kernel
theorem d_W_divide_4 : decode c_W_divide 4 = .ok (.ifCond .eq 6, 3) := by decide +kernel
theorem d_W_divide_7 : decode c_W_divide 7 = .ok (.bipush (-5), 2) := by decide +kernel
theorem d_W_divide_9 : decode c_W_divide 9 = .ok (.ireturn, 1) := by decide +kernel
theorem d_W_divide_10 : decode c_W_divide 10 = .ok (.aload_n 0, 1) := by decide +kernel
theorem d_W_divide_11 : decode c_W_divide 11 = .ok (.getfield 16, 3) := by decide +kernel
theorem d_W_divide_14 : decode c_W_divide 14 = .ok (.aload_n 1, 1) := by decide +kernel
theorem d_W_divide_15 : decode c_W_divide 15 = .ok (.getfield 38, 3) := by decide +kernel
theorem d_W_divide_18 : decode c_W_divide 18 = .ok (.aload_n 2, 1) := by decide +kernel
theorem d_W_divide_19 : decode c_W_divide 19 = .ok (.getfield 41, 3) := by decide +kernel
theorem d_W_divide_22 : decode c_W_divide 22 = .ok (.invokevirtual 42, 3) := by decide +kernel
theorem d_W_divide_25 : decode c_W_divide 25 = .ok (.aload_n 0, 1) := by decide +kernel
theorem d_W_divide_26 : decode c_W_divide 26 = .ok (.getfield 20, 3) := by decide +kernel
theorem d_W_divide_29 : decode c_W_divide 29 = .ok (.aload_n 1, 1) := by decide +kernel
theorem d_W_divide_30 : decode c_W_divide 30 = .ok (.getfield 41, 3) := by decide +kernel
theorem d_W_divide_33 : decode c_W_divide 33 = .ok (.aload_n 2, 1) := by decide +kernel
theorem d_W_divide_34 : decode c_W_divide 34 = .ok (.getfield 38, 3) := by decide +kernel
theorem d_W_divide_37 : decode c_W_divide 37 = .ok (.invokevirtual 42, 3) := by decide +kernel
theorem d_W_divide_40 : decode c_W_divide 40 = .ok (.iconst 0, 1) := by decide +kernel
theorem d_W_divide_41 : decode c_W_divide 41 = .ok (.ireturn, 1) := by decide +kernel
theorem d_F_isZero_0 : decode c_F_isZero 0 = .ok (.aload_n 0, 1) := by decide +kernel
theorem d_F_isZero_1 : decode c_F_isZero 1 = .ok (.getfield 14, 3) := by decide +kernel
theorem d_F_isZero_4 : decode c_F_isZero 4 = .ok (.invokevirtual 23, 3) := by decide +kernel
theorem d_F_isZero_7 : decode c_F_isZero 7 = .ok (.ireturn, 1) := by decide +kernel
theorem d_W_compose_0 : decode c_W_compose 0 = .ok (.aload_n 1, 1) := by decide +kernel
theorem d_W_compose_1 : decode c_W_compose 1 = .ok (.invokevirtual 70, 3) := by decide +kernel
theorem d_W_compose_4 : decode c_W_compose 4 = .ok (.istore_n 3, 1) := by decide +kernel
theorem d_W_compose_5 : decode c_W_compose 5 = .ok (.iload_n 3, 1) := by decide +kernel
theorem d_W_compose_6 : decode c_W_compose 6 = .ok (.aload_n 2, 1) := by decide +kernel
theorem d_W_compose_7 : decode c_W_compose 7 = .ok (.invokevirtual 70, 3) := by decide +kernel
theorem d_W_compose_10 : decode c_W_compose 10 = .ok (.imul, 1) := by decide +kernel
theorem d_W_compose_11 : decode c_W_compose 11 = .ok (.bipush 12, 2) := by decide +kernel
theorem d_W_compose_13 : decode c_W_compose 13 = .ok (.if_icmp .le 6, 3) := by decide +kernel
theorem d_W_compose_16 : decode c_W_compose 16 = .ok (.bipush (-6), 2) := by decide +kernel
theorem d_W_compose_18 : decode c_W_compose 18 = .ok (.ireturn, 1) := by decide +kernel
theorem d_W_compose_19 : decode c_W_compose 19 = .ok (.aload_n 0, 1) := by decide +kernel
theorem d_W_compose_20 : decode c_W_compose 20 = .ok (.aload_n 1, 1) := by decide +kernel
theorem d_W_compose_21 : decode c_W_compose 21 = .ok (.getfield 38, 3) := by decide +kernel
theorem d_W_compose_24 : decode c_W_compose 24 = .ok (.iload_n 3, 1) := by decide +kernel
theorem d_W_compose_25 : decode c_W_compose 25 = .ok (.aload_n 2, 1) := by decide +kernel
theorem d_W_compose_26 : decode c_W_compose 26 = .ok (.aload_n 0, 1) := by decide +kernel
theorem d_W_compose_27 : decode c_W_compose 27 = .ok (.getfield 16, 3) := by decide +kernel
theorem d_W_compose_30 : decode c_W_compose 30 = .ok (.invokevirtual 81, 3) := by decide +kernel
theorem d_W_compose_33 : decode c_W_compose 33 = .ok (.aload_n 0, 1) := by decide +kernel
theorem d_W_compose_34 : decode c_W_compose 34 = .ok (.aload_n 1, 1) := by decide +kernel
theorem d_W_compose_35 : decode c_W_compose 35 = .ok (.getfield 41, 3) := by decide +kernel
theorem d_W_compose_38 : decode c_W_compose 38 = .ok (.iload_n 3, 1) := by decide +kernel
theorem d_W_compose_39 : decode c_W_compose 39 = .ok (.aload_n 2, 1) := by decide +kernel
theorem d_W_compose_40 : decode c_W_compose 40 = .ok (.aload_n 0, 1) := by decide +kernel
theorem d_W_compose_41 : decode c_W_compose 41 = .ok (.getfield 20, 3) := by decide +kernel
theorem d_W_compose_44 : decode c_W_compose 44 = .ok (.invokevirtual 81, 3) := by decide +kernel
theorem d_W_compose_47 : decode c_W_compose 47 = .ok (.aload_n 0, 1) := by decide +kernel
theorem d_W_compose_48 : decode c_W_compose 48 = .ok (.getfield 20, 3) := by decide +kernel
theorem d_W_compose_51 : decode c_W_compose 51 = .ok (.invokevirtual 85, 3) := by decide +kernel
theorem d_W_compose_54 : decode c_W_compose 54 = .ok (.ifCond .eq 8, 3) := by decide +kernel
theorem d_W_compose_57 : decode c_W_compose 57 = .ok (.bipush (-5), 2) := by decide +kernel
theorem d_W_compose_59 : decode c_W_compose 59 = .ok (.goto 4, 3) := by decide +kernel
theorem d_W_compose_62 : decode c_W_compose 62 = .ok (.iconst 0, 1) := by decide +kernel
theorem d_W_compose_63 : decode c_W_compose 63 = .ok (.ireturn, 1) := by decide +kernel
theorem d_F_height_0 : decode c_F_height 0 = .ok (.aload_n 0, 1) := by decide +kernel
theorem d_F_height_1 : decode c_F_height 1 = .ok (.getfield 14, 3) := by decide +kernel
theorem d_F_height_4 : decode c_F_height 4 = .ok (.getfield 27, 3) := by decide +kernel
theorem d_F_height_7 : decode c_F_height 7 = .ok (.aload_n 0, 1) := by decide +kernel
theorem d_F_height_8 : decode c_F_height 8 = .ok (.getfield 20, 3) := by decide +kernel
theorem d_F_height_11 : decode c_F_height 11 = .ok (.getfield 27, 3) := by decide +kernel
theorem d_F_height_14 : decode c_F_height 14 = .ok (.invokestatic 31, 3) := by decide +kernel
theorem d_F_height_17 : decode c_F_height 17 = .ok (.ireturn, 1) := by decide +kernel
theorem d_W_putInto_0 : decode c_W_putInto 0 = .ok (.aload 4, 2) := by decide +kernel
theorem d_W_putInto_2 : decode c_W_putInto 2 = .ok (.aload_n 1, 1) := by decide +kernel
theorem d_W_putInto_3 : decode c_W_putInto 3 = .ok (.iload_n 2, 1) := by decide +kernel
theorem d_W_putInto_4 : decode c_W_putInto 4 = .ok (.invokevirtual 86, 3) := by decide +kernel
theorem d_W_putInto_7 : decode c_W_putInto 7 = .ok (.invokevirtual 78, 3) := by decide +kernel
theorem d_W_putInto_10 : decode c_W_putInto 10 = .ok (.aload_n 0, 1) := by decide +kernel
theorem d_W_putInto_11 : decode c_W_putInto 11 = .ok (.getfield 26, 3) := by decide +kernel
theorem d_W_putInto_14 : decode c_W_putInto 14 = .ok (.iconst 1, 1) := by decide +kernel
theorem d_W_putInto_15 : decode c_W_putInto 15 = .ok (.invokevirtual 78, 3) := by decide +kernel
theorem d_W_putInto_18 : decode c_W_putInto 18 = .ok (.iload_n 2, 1) := by decide +kernel
theorem d_W_putInto_19 : decode c_W_putInto 19 = .ok (.iconst 1, 1) := by decide +kernel
theorem d_W_putInto_20 : decode c_W_putInto 20 = .ok (.isub, 1) := by decide +kernel
theorem d_W_putInto_21 : decode c_W_putInto 21 = .ok (.istore 5, 2) := by decide +kernel
theorem d_W_putInto_23 : decode c_W_putInto 23 = .ok (.iload 5, 2) := by decide +kernel
theorem d_W_putInto_25 : decode c_W_putInto 25 = .ok (.ifCond .lt 72, 3) := by decide +kernel
theorem d_W_putInto_28 : decode c_W_putInto 28 = .ok (.aload_n 0, 1) := by decide +kernel
theorem d_W_putInto_29 : decode c_W_putInto 29 = .ok (.getfield 23, 3) := by decide +kernel
theorem d_W_putInto_32 : decode c_W_putInto 32 = .ok (.aload 4, 2) := by decide +kernel
theorem d_W_putInto_34 : decode c_W_putInto 34 = .ok (.aload_n 3, 1) := by decide +kernel
theorem d_W_putInto_35 : decode c_W_putInto 35 = .ok (.getfield 38, 3) := by decide +kernel
theorem d_W_putInto_38 : decode c_W_putInto 38 = .ok (.invokevirtual 42, 3) := by decide +kernel
theorem d_W_putInto_41 : decode c_W_putInto 41 = .ok (.aload 4, 2) := by decide +kernel
theorem d_W_putInto_43 : decode c_W_putInto 43 = .ok (.aload_n 0, 1) := by decide +kernel
theorem d_W_putInto_44 : decode c_W_putInto 44 = .ok (.getfield 23, 3) := by decide +kernel
theorem d_W_putInto_47 : decode c_W_putInto 47 = .ok (.invokevirtual 54, 3) := by decide +kernel
theorem d_W_putInto_50 : decode c_W_putInto 50 = .ok (.aload_n 0, 1) := by decide +kernel
theorem d_W_putInto_51 : decode c_W_putInto 51 = .ok (.getfield 23, 3) := by decide +kernel
theorem d_W_putInto_54 : decode c_W_putInto 54 = .ok (.aload_n 0, 1) := by decide +kernel
theorem d_W_putInto_55 : decode c_W_putInto 55 = .ok (.getfield 26, 3) := by decide +kernel
theorem d_W_putInto_58 : decode c_W_putInto 58 = .ok (.aload_n 3, 1) := by decide +kernel
theorem d_W_putInto_59 : decode c_W_putInto 59 = .ok (.getfield 41, 3) := by decide +kernel
theorem d_W_putInto_62 : decode c_W_putInto 62 = .ok (.invokevirtual 42, 3) := by decide +kernel
theorem d_W_putInto_65 : decode c_W_putInto 65 = .ok (.aload_n 0, 1) := by decide +kernel
theorem d_W_putInto_66 : decode c_W_putInto 66 = .ok (.getfield 26, 3) := by decide +kernel
theorem d_W_putInto_69 : decode c_W_putInto 69 = .ok (.aload_n 0, 1) := by decide +kernel
theorem d_W_putInto_70 : decode c_W_putInto 70 = .ok (.getfield 23, 3) := by decide +kernel
theorem d_W_putInto_73 : decode c_W_putInto 73 = .ok (.invokevirtual 54, 3) := by decide +kernel
theorem d_W_putInto_76 : decode c_W_putInto 76 = .ok (.aload 4, 2) := by decide +kernel
theorem d_W_putInto_78 : decode c_W_putInto 78 = .ok (.aload_n 0, 1) := by decide +kernel
theorem d_W_putInto_79 : decode c_W_putInto 79 = .ok (.getfield 26, 3) := by decide +kernel
theorem d_W_putInto_82 : decode c_W_putInto 82 = .ok (.aload_n 1, 1) := by decide +kernel
theorem d_W_putInto_83 : decode c_W_putInto 83 = .ok (.iload 5, 2) := by decide +kernel
theorem d_W_putInto_85 : decode c_W_putInto 85 = .ok (.invokevirtual 86, 3) := by decide +kernel
theorem d_W_putInto_88 : decode c_W_putInto 88 = .ok (.invokevirtual 46, 3) := by decide +kernel
theorem d_W_putInto_91 : decode c_W_putInto 91 = .ok (.iinc 5 (-1), 3) := by decide +kernel
theorem d_W_putInto_94 : decode c_W_putInto 94 = .ok (.goto (-71), 3) := by decide +kernel
theorem d_W_putInto_97 : decode c_W_putInto 97 = .ok (.return_, 1) := by decide +kernel
theorem d_W_power_0 : decode c_W_power 0 = .ok (.iload_n 2, 1) := by decide +kernel
theorem d_W_power_1 : decode c_W_power 1 = .ok (.invokestatic 64, 3) := by decide +kernel
theorem d_W_power_4 : decode c_W_power 4 = .ok (.istore_n 3, 1) := by decide +kernel
theorem d_W_power_5 : decode c_W_power 5 = .ok (.iload_n 2, 1) := by decide +kernel
theorem d_W_power_6 : decode c_W_power 6 = .ok (.ifCond .ge 13, 3) := by decide +kernel
theorem d_W_power_9 : decode c_W_power 9 = .ok (.aload_n 1, 1) := by decide +kernel
theorem d_W_power_10 : decode c_W_power 10 = .ok (.invokevirtual 50, 3) := by decide +kernel
theorem d_W_power_13 : decode c_W_power 13 = .ok (.ifCond .eq 6, 3) := by decide +kernel
theorem d_W_power_16 : decode c_W_power 16 = .ok (.bipush (-5), 2) := by decide +kernel
theorem d_W_power_18 : decode c_W_power 18 = .ok (.ireturn, 1) := by decide +kernel
theorem d_W_power_19 : decode c_W_power 19 = .ok (.iload_n 3, 1) := by decide +kernel
theorem d_W_power_20 : decode c_W_power 20 = .ok (.aload_n 1, 1) := by decide +kernel
theorem d_W_power_21 : decode c_W_power 21 = .ok (.invokevirtual 70, 3) := by decide +kernel
theorem d_W_power_24 : decode c_W_power 24 = .ok (.imul, 1) := by decide +kernel
theorem d_W_power_25 : decode c_W_power 25 = .ok (.bipush 12, 2) := by decide +kernel
theorem d_W_power_27 : decode c_W_power 27 = .ok (.if_icmp .le 6, 3) := by decide +kernel
theorem d_W_power_30 : decode c_W_power 30 = .ok (.bipush (-6), 2) := by decide +kernel
theorem d_W_power_32 : decode c_W_power 32 = .ok (.ireturn, 1) := by decide +kernel
theorem d_W_power_33 : decode c_W_power 33 = .ok (.aload_n 0, 1) := by decide +kernel
theorem d_W_power_34 : decode c_W_power 34 = .ok (.aload_n 1, 1) := by decide +kernel
theorem d_W_power_35 : decode c_W_power 35 = .ok (.getfield 38, 3) := by decide +kernel
theorem d_W_power_38 : decode c_W_power 38 = .ok (.iload_n 3, 1) := by decide +kernel
theorem d_W_power_39 : decode c_W_power 39 = .ok (.iload_n 2, 1) := by decide +kernel
theorem d_W_power_40 : decode c_W_power 40 = .ok (.ifCond .ge 10, 3) := by decide +kernel
theorem d_W_power_43 : decode c_W_power 43 = .ok (.aload_n 0, 1) := by decide +kernel
theorem d_W_power_44 : decode c_W_power 44 = .ok (.getfield 20, 3) := by decide +kernel
theorem d_W_power_47 : decode c_W_power 47 = .ok (.goto 7, 3) := by decide +kernel
theorem d_W_power_50 : decode c_W_power 50 = .ok (.aload_n 0, 1) := by decide +kernel
theorem d_W_power_51 : decode c_W_power 51 = .ok (.getfield 16, 3) := by decide +kernel
theorem d_W_power_54 : decode c_W_power 54 = .ok (.invokevirtual 74, 3) := by decide +kernel
theorem d_W_power_57 : decode c_W_power 57 = .ok (.aload_n 0, 1) := by decide +kernel
theorem d_W_power_58 : decode c_W_power 58 = .ok (.aload_n 1, 1) := by decide +kernel
theorem d_W_power_59 : decode c_W_power 59 = .ok (.getfield 41, 3) := by decide +kernel
theorem d_W_power_62 : decode c_W_power 62 = .ok (.iload_n 3, 1) := by decide +kernel
theorem d_W_power_63 : decode c_W_power 63 = .ok (.iload_n 2, 1) := by decide +kernel
theorem d_W_power_64 : decode c_W_power 64 = .ok (.ifCond .ge 10, 3) := by decide +kernel
theorem d_W_power_67 : decode c_W_power 67 = .ok (.aload_n 0, 1) := by decide +kernel
theorem d_W_power_68 : decode c_W_power 68 = .ok (.getfield 16, 3) := by decide +kernel
theorem d_W_power_71 : decode c_W_power 71 = .ok (.goto 7, 3) := by decide +kernel
theorem d_W_power_74 : decode c_W_power 74 = .ok (.aload_n 0, 1) := by decide +kernel
theorem d_W_power_75 : decode c_W_power 75 = .ok (.getfield 20, 3) := by decide +kernel
theorem d_W_power_78 : decode c_W_power 78 = .ok (.invokevirtual 74, 3) := by decide +kernel
theorem d_W_power_81 : decode c_W_power 81 = .ok (.iconst 0, 1) := by decide +kernel
theorem d_W_power_82 : decode c_W_power 82 = .ok (.ireturn, 1) := by decide +kernel
theorem d_W_raise_0 : decode c_W_raise 0 = .ok (.aload_n 3, 1) := by decide +kernel
theorem d_W_raise_1 : decode c_W_raise 1 = .ok (.iconst 1, 1) := by decide +kernel
theorem d_W_raise_2 : decode c_W_raise 2 = .ok (.invokevirtual 78, 3) := by decide +kernel
theorem d_W_raise_5 : decode c_W_raise 5 = .ok (.iconst 0, 1) := by decide +kernel
theorem d_W_raise_6 : decode c_W_raise 6 = .ok (.istore 4, 2) := by decide +kernel
theorem d_W_raise_8 : decode c_W_raise 8 = .ok (.iload 4, 2) := by decide +kernel
theorem d_W_raise_10 : decode c_W_raise 10 = .ok (.iload_n 2, 1) := by decide +kernel
theorem d_W_raise_11 : decode c_W_raise 11 = .ok (.if_icmp .ge 26, 3) := by decide +kernel
theorem d_W_raise_14 : decode c_W_raise 14 = .ok (.aload_n 0, 1) := by decide +kernel
theorem d_W_raise_15 : decode c_W_raise 15 = .ok (.getfield 23, 3) := by decide +kernel
theorem d_W_raise_18 : decode c_W_raise 18 = .ok (.aload_n 3, 1) := by decide +kernel
theorem d_W_raise_19 : decode c_W_raise 19 = .ok (.aload_n 1, 1) := by decide +kernel
theorem d_W_raise_20 : decode c_W_raise 20 = .ok (.invokevirtual 42, 3) := by decide +kernel
theorem d_W_raise_23 : decode c_W_raise 23 = .ok (.aload_n 3, 1) := by decide +kernel
theorem d_W_raise_24 : decode c_W_raise 24 = .ok (.aload_n 0, 1) := by decide +kernel
theorem d_W_raise_25 : decode c_W_raise 25 = .ok (.getfield 23, 3) := by decide +kernel
theorem d_W_raise_28 : decode c_W_raise 28 = .ok (.invokevirtual 54, 3) := by decide +kernel
theorem d_W_raise_31 : decode c_W_raise 31 = .ok (.iinc 4 1, 3) := by decide +kernel
theorem d_W_raise_34 : decode c_W_raise 34 = .ok (.goto (-26), 3) := by decide +kernel
theorem d_W_raise_37 : decode c_W_raise 37 = .ok (.return_, 1) := by decide +kernel
theorem d_W_derive_0 : decode c_W_derive 0 = .ok (.aload_n 0, 1) := by decide +kernel
theorem d_W_derive_1 : decode c_W_derive 1 = .ok (.getfield 23, 3) := by decide +kernel
theorem d_W_derive_4 : decode c_W_derive 4 = .ok (.aload_n 1, 1) := by decide +kernel
theorem d_W_derive_5 : decode c_W_derive 5 = .ok (.getfield 38, 3) := by decide +kernel
theorem d_W_derive_8 : decode c_W_derive 8 = .ok (.invokevirtual 61, 3) := by decide +kernel
theorem d_W_derive_11 : decode c_W_derive 11 = .ok (.aload_n 0, 1) := by decide +kernel
theorem d_W_derive_12 : decode c_W_derive 12 = .ok (.getfield 16, 3) := by decide +kernel
theorem d_W_derive_15 : decode c_W_derive 15 = .ok (.aload_n 0, 1) := by decide +kernel
theorem d_W_derive_16 : decode c_W_derive 16 = .ok (.getfield 23, 3) := by decide +kernel
theorem d_W_derive_19 : decode c_W_derive 19 = .ok (.aload_n 1, 1) := by decide +kernel
theorem d_W_derive_20 : decode c_W_derive 20 = .ok (.getfield 41, 3) := by decide +kernel
theorem d_W_derive_23 : decode c_W_derive 23 = .ok (.invokevirtual 42, 3) := by decide +kernel
theorem d_W_derive_26 : decode c_W_derive 26 = .ok (.aload_n 0, 1) := by decide +kernel
theorem d_W_derive_27 : decode c_W_derive 27 = .ok (.getfield 23, 3) := by decide +kernel
theorem d_W_derive_30 : decode c_W_derive 30 = .ok (.aload_n 1, 1) := by decide +kernel
theorem d_W_derive_31 : decode c_W_derive 31 = .ok (.getfield 41, 3) := by decide +kernel
theorem d_W_derive_34 : decode c_W_derive 34 = .ok (.invokevirtual 61, 3) := by decide +kernel
theorem d_W_derive_37 : decode c_W_derive 37 = .ok (.aload_n 0, 1) := by decide +kernel
theorem d_W_derive_38 : decode c_W_derive 38 = .ok (.getfield 26, 3) := by decide +kernel
theorem d_W_derive_41 : decode c_W_derive 41 = .ok (.aload_n 1, 1) := by decide +kernel
theorem d_W_derive_42 : decode c_W_derive 42 = .ok (.getfield 38, 3) := by decide +kernel
theorem d_W_derive_45 : decode c_W_derive 45 = .ok (.aload_n 0, 1) := by decide +kernel
theorem d_W_derive_46 : decode c_W_derive 46 = .ok (.getfield 23, 3) := by decide +kernel
theorem d_W_derive_49 : decode c_W_derive 49 = .ok (.invokevirtual 42, 3) := by decide +kernel
theorem d_W_derive_52 : decode c_W_derive 52 = .ok (.aload_n 0, 1) := by decide +kernel
theorem d_W_derive_53 : decode c_W_derive 53 = .ok (.getfield 16, 3) := by decide +kernel
theorem d_W_derive_56 : decode c_W_derive 56 = .ok (.aload_n 0, 1) := by decide +kernel
theorem d_W_derive_57 : decode c_W_derive 57 = .ok (.getfield 26, 3) := by decide +kernel
theorem d_W_derive_60 : decode c_W_derive 60 = .ok (.sipush 10006, 3) := by decide +kernel
theorem d_W_derive_63 : decode c_W_derive 63 = .ok (.invokevirtual 46, 3) := by decide +kernel
theorem d_W_derive_66 : decode c_W_derive 66 = .ok (.aload_n 0, 1) := by decide +kernel
theorem d_W_derive_67 : decode c_W_derive 67 = .ok (.getfield 20, 3) := by decide +kernel
theorem d_W_derive_70 : decode c_W_derive 70 = .ok (.aload_n 1, 1) := by decide +kernel
theorem d_W_derive_71 : decode c_W_derive 71 = .ok (.getfield 41, 3) := by decide +kernel
theorem d_W_derive_74 : decode c_W_derive 74 = .ok (.aload_n 1, 1) := by decide +kernel
theorem d_W_derive_75 : decode c_W_derive 75 = .ok (.getfield 41, 3) := by decide +kernel
theorem d_W_derive_78 : decode c_W_derive 78 = .ok (.invokevirtual 42, 3) := by decide +kernel
theorem d_W_derive_81 : decode c_W_derive 81 = .ok (.return_, 1) := by decide +kernel
theorem d_W_negate_0 : decode c_W_negate 0 = .ok (.aload_n 0, 1) := by decide +kernel
theorem d_W_negate_1 : decode c_W_negate 1 = .ok (.getfield 16, 3) := by decide +kernel
theorem d_W_negate_4 : decode c_W_negate 4 = .ok (.aload_n 1, 1) := by decide +kernel
theorem d_W_negate_5 : decode c_W_negate 5 = .ok (.getfield 38, 3) := by decide +kernel
theorem d_W_negate_8 : decode c_W_negate 8 = .ok (.invokevirtual 54, 3) := by decide +kernel
theorem d_W_negate_11 : decode c_W_negate 11 = .ok (.aload_n 0, 1) := by decide +kernel
theorem d_W_negate_12 : decode c_W_negate 12 = .ok (.getfield 16, 3) := by decide +kernel
theorem d_W_negate_15 : decode c_W_negate 15 = .ok (.sipush 10006, 3) := by decide +kernel
theorem d_W_negate_18 : decode c_W_negate 18 = .ok (.invokevirtual 58, 3) := by decide +kernel
theorem d_W_negate_21 : decode c_W_negate 21 = .ok (.aload_n 0, 1) := by decide +kernel
theorem d_W_negate_22 : decode c_W_negate 22 = .ok (.getfield 20, 3) := by decide +kernel
theorem d_W_negate_25 : decode c_W_negate 25 = .ok (.aload_n 1, 1) := by decide +kernel
theorem d_W_negate_26 : decode c_W_negate 26 = .ok (.getfield 41, 3) := by decide +kernel
theorem d_W_negate_29 : decode c_W_negate 29 = .ok (.invokevirtual 54, 3) := by decide +kernel
theorem d_W_negate_32 : decode c_W_negate 32 = .ok (.return_, 1) := by decide +kernel
theorem d_W_settle_0 : decode c_W_settle 0 = .ok (.aload_n 0, 1) := by decide +kernel
theorem d_W_settle_1 : decode c_W_settle 1 = .ok (.getfield 16, 3) := by decide +kernel
theorem d_W_settle_4 : decode c_W_settle 4 = .ok (.invokevirtual 85, 3) := by decide +kernel
theorem d_W_settle_7 : decode c_W_settle 7 = .ok (.ifCond .eq 10, 3) := by decide +kernel
theorem d_W_settle_10 : decode c_W_settle 10 = .ok (.aload_n 1, 1) := by decide +kernel
theorem d_W_settle_11 : decode c_W_settle 11 = .ok (.iconst 0, 1) := by decide +kernel
theorem d_W_settle_12 : decode c_W_settle 12 = .ok (.invokevirtual 89, 3) := by decide +kernel
theorem d_W_settle_15 : decode c_W_settle 15 = .ok (.iconst 0, 1) := by decide +kernel
theorem d_W_settle_16 : decode c_W_settle 16 = .ok (.ireturn, 1) := by decide +kernel
theorem d_W_settle_17 : decode c_W_settle 17 = .ok (.aload_n 0, 1) := by decide +kernel
theorem d_W_settle_18 : decode c_W_settle 18 = .ok (.invokevirtual 90, 3) := by decide +kernel
theorem d_W_settle_21 : decode c_W_settle 21 = .ok (.astore_n 2, 1) := by decide +kernel
theorem d_W_settle_22 : decode c_W_settle 22 = .ok (.aload_n 2, 1) := by decide +kernel
theorem d_W_settle_23 : decode c_W_settle 23 = .ok (.getfield 94, 3) := by decide +kernel
theorem d_W_settle_26 : decode c_W_settle 26 = .ok (.ifCond .le 49, 3) := by decide +kernel
theorem d_W_settle_29 : decode c_W_settle 29 = .ok (.aload_n 0, 1) := by decide +kernel
theorem d_W_settle_30 : decode c_W_settle 30 = .ok (.getfield 16, 3) := by decide +kernel
theorem d_W_settle_33 : decode c_W_settle 33 = .ok (.aload_n 2, 1) := by decide +kernel
theorem d_W_settle_34 : decode c_W_settle 34 = .ok (.aload_n 0, 1) := by decide +kernel
theorem d_W_settle_35 : decode c_W_settle 35 = .ok (.getfield 35, 3) := by decide +kernel
theorem d_W_settle_38 : decode c_W_settle 38 = .ok (.invokevirtual 98, 3) := by decide +kernel
theorem d_W_settle_41 : decode c_W_settle 41 = .ok (.aload_n 0, 1) := by decide +kernel
theorem d_W_settle_42 : decode c_W_settle 42 = .ok (.getfield 16, 3) := by decide +kernel
theorem d_W_settle_45 : decode c_W_settle 45 = .ok (.aload_n 0, 1) := by decide +kernel
theorem d_W_settle_46 : decode c_W_settle 46 = .ok (.getfield 35, 3) := by decide +kernel
theorem d_W_settle_49 : decode c_W_settle 49 = .ok (.invokevirtual 54, 3) := by decide +kernel
theorem d_W_settle_52 : decode c_W_settle 52 = .ok (.aload_n 0, 1) := by decide +kernel
theorem d_W_settle_53 : decode c_W_settle 53 = .ok (.getfield 20, 3) := by decide +kernel
theorem d_W_settle_56 : decode c_W_settle 56 = .ok (.aload_n 2, 1) := by decide +kernel
theorem d_W_settle_57 : decode c_W_settle 57 = .ok (.aload_n 0, 1) := by decide +kernel
theorem d_W_settle_58 : decode c_W_settle 58 = .ok (.getfield 35, 3) := by decide +kernel
theorem d_W_settle_61 : decode c_W_settle 61 = .ok (.invokevirtual 98, 3) := by decide +kernel
theorem d_W_settle_64 : decode c_W_settle 64 = .ok (.aload_n 0, 1) := by decide +kernel
theorem d_W_settle_65 : decode c_W_settle 65 = .ok (.getfield 20, 3) := by decide +kernel
theorem d_W_settle_68 : decode c_W_settle 68 = .ok (.aload_n 0, 1) := by decide +kernel
theorem d_W_settle_69 : decode c_W_settle 69 = .ok (.getfield 35, 3) := by decide +kernel
theorem d_W_settle_72 : decode c_W_settle 72 = .ok (.invokevirtual 54, 3) := by decide +kernel
theorem d_W_settle_75 : decode c_W_settle 75 = .ok (.aload_n 0, 1) := by decide +kernel
theorem d_W_settle_76 : decode c_W_settle 76 = .ok (.getfield 16, 3) := by decide +kernel
theorem d_W_settle_79 : decode c_W_settle 79 = .ok (.getfield 94, 3) := by decide +kernel
theorem d_W_settle_82 : decode c_W_settle 82 = .ok (.bipush 12, 2) := by decide +kernel
theorem d_W_settle_84 : decode c_W_settle 84 = .ok (.if_icmp .gt 15, 3) := by decide +kernel
theorem d_W_settle_87 : decode c_W_settle 87 = .ok (.aload_n 0, 1) := by decide +kernel
theorem d_W_settle_88 : decode c_W_settle 88 = .ok (.getfield 20, 3) := by decide +kernel
theorem d_W_settle_91 : decode c_W_settle 91 = .ok (.getfield 94, 3) := by decide +kernel
theorem d_W_settle_94 : decode c_W_settle 94 = .ok (.bipush 12, 2) := by decide +kernel
theorem d_W_settle_96 : decode c_W_settle 96 = .ok (.if_icmp .le 6, 3) := by decide +kernel
theorem d_W_settle_99 : decode c_W_settle 99 = .ok (.bipush (-6), 2) := by decide +kernel
theorem d_W_settle_101 : decode c_W_settle 101 = .ok (.ireturn, 1) := by decide +kernel
theorem d_W_settle_102 : decode c_W_settle 102 = .ok (.aload_n 0, 1) := by decide +kernel
theorem d_W_settle_103 : decode c_W_settle 103 = .ok (.getfield 20, 3) := by decide +kernel
theorem d_W_settle_106 : decode c_W_settle 106 = .ok (.invokevirtual 101, 3) := by decide +kernel
theorem d_W_settle_109 : decode c_W_settle 109 = .ok (.invokestatic 104, 3) := by decide +kernel
theorem d_W_settle_112 : decode c_W_settle 112 = .ok (.istore_n 3, 1) := by decide +kernel
theorem d_W_settle_113 : decode c_W_settle 113 = .ok (.aload_n 0, 1) := by decide +kernel
theorem d_W_settle_114 : decode c_W_settle 114 = .ok (.getfield 16, 3) := by decide +kernel
theorem d_W_settle_117 : decode c_W_settle 117 = .ok (.iload_n 3, 1) := by decide +kernel
theorem d_W_settle_118 : decode c_W_settle 118 = .ok (.invokevirtual 58, 3) := by decide +kernel
theorem d_W_settle_121 : decode c_W_settle 121 = .ok (.aload_n 0, 1) := by decide +kernel
theorem d_W_settle_122 : decode c_W_settle 122 = .ok (.getfield 20, 3) := by decide +kernel
theorem d_W_settle_125 : decode c_W_settle 125 = .ok (.iload_n 3, 1) := by decide +kernel
theorem d_W_settle_126 : decode c_W_settle 126 = .ok (.invokevirtual 58, 3) := by decide +kernel
theorem d_W_settle_129 : decode c_W_settle 129 = .ok (.aload_n 1, 1) := by decide +kernel
theorem d_W_settle_130 : decode c_W_settle 130 = .ok (.getfield 38, 3) := by decide +kernel
theorem d_W_settle_133 : decode c_W_settle 133 = .ok (.aload_n 0, 1) := by decide +kernel
theorem d_W_settle_134 : decode c_W_settle 134 = .ok (.getfield 16, 3) := by decide +kernel
theorem d_W_settle_137 : decode c_W_settle 137 = .ok (.invokevirtual 54, 3) := by decide +kernel
theorem d_W_settle_140 : decode c_W_settle 140 = .ok (.aload_n 1, 1) := by decide +kernel
theorem d_W_settle_141 : decode c_W_settle 141 = .ok (.getfield 41, 3) := by decide +kernel
theorem d_W_settle_144 : decode c_W_settle 144 = .ok (.aload_n 0, 1) := by decide +kernel
theorem d_W_settle_145 : decode c_W_settle 145 = .ok (.getfield 20, 3) := by decide +kernel
theorem d_W_settle_148 : decode c_W_settle 148 = .ok (.invokevirtual 54, 3) := by decide +kernel
theorem d_W_settle_151 : decode c_W_settle 151 = .ok (.iconst 0, 1) := by decide +kernel
theorem d_W_settle_152 : decode c_W_settle 152 = .ok (.ireturn, 1) := by decide +kernel
theorem d_W_commonDivisor_0 : decode c_W_commonDivisor 0 = .ok (.aload_n 0, 1) := by decide +kernel
theorem d_W_commonDivisor_1 : decode c_W_commonDivisor 1 = .ok (.getfield 29, 3) := by decide +kernel
theorem d_W_commonDivisor_4 : decode c_W_commonDivisor 4 = .ok (.astore_n 1, 1) := by decide +kernel
theorem d_W_commonDivisor_5 : decode c_W_commonDivisor 5 = .ok (.aload_n 0, 1) := by decide +kernel
theorem d_W_commonDivisor_6 : decode c_W_commonDivisor 6 = .ok (.getfield 32, 3) := by decide +kernel
theorem d_W_commonDivisor_9 : decode c_W_commonDivisor 9 = .ok (.astore_n 2, 1) := by decide +kernel
theorem d_W_commonDivisor_10 : decode c_W_commonDivisor 10 = .ok (.aload_n 1, 1) := by decide +kernel
theorem d_W_commonDivisor_11 : decode c_W_commonDivisor 11 = .ok (.aload_n 0, 1) := by decide +kernel
theorem d_W_commonDivisor_12 : decode c_W_commonDivisor 12 = .ok (.getfield 16, 3) := by decide +kernel
theorem d_W_commonDivisor_15 : decode c_W_commonDivisor 15 = .ok (.invokevirtual 54, 3) := by decide +kernel
theorem d_W_commonDivisor_18 : decode c_W_commonDivisor 18 = .ok (.aload_n 2, 1) := by decide +kernel
theorem d_W_commonDivisor_19 : decode c_W_commonDivisor 19 = .ok (.aload_n 0, 1) := by decide +kernel
theorem d_W_commonDivisor_20 : decode c_W_commonDivisor 20 = .ok (.getfield 20, 3) := by decide +kernel
theorem d_W_commonDivisor_23 : decode c_W_commonDivisor 23 = .ok (.invokevirtual 54, 3) := by decide +kernel
theorem d_W_commonDivisor_26 : decode c_W_commonDivisor 26 = .ok (.iconst 0, 1) := by decide +kernel
theorem d_W_commonDivisor_27 : decode c_W_commonDivisor 27 = .ok (.istore_n 3, 1) := by decide +kernel
theorem d_W_commonDivisor_28 : decode c_W_commonDivisor 28 = .ok (.iload_n 3, 1) := by decide +kernel
theorem d_W_commonDivisor_29 : decode c_W_commonDivisor 29 = .ok (.bipush 24, 2) := by decide +kernel
theorem d_W_commonDivisor_31 : decode c_W_commonDivisor 31 = .ok (.if_icmp .gt 44, 3) := by decide +kernel
theorem d_W_commonDivisor_34 : decode c_W_commonDivisor 34 = .ok (.aload_n 2, 1) := by decide +kernel
theorem d_W_commonDivisor_35 : decode c_W_commonDivisor 35 = .ok (.getfield 94, 3) := by decide +kernel
theorem d_W_commonDivisor_38 : decode c_W_commonDivisor 38 = .ok (.ifCond .le 37, 3) := by decide +kernel
theorem d_W_commonDivisor_41 : decode c_W_commonDivisor 41 = .ok (.aload_n 2, 1) := by decide +kernel
theorem d_W_commonDivisor_42 : decode c_W_commonDivisor 42 = .ok (.aload_n 2, 1) := by decide +kernel
theorem d_W_commonDivisor_43 : decode c_W_commonDivisor 43 = .ok (.invokevirtual 101, 3) := by decide +kernel
theorem d_W_commonDivisor_46 : decode c_W_commonDivisor 46 = .ok (.invokestatic 104, 3) := by decide +kernel
theorem d_W_commonDivisor_49 : decode c_W_commonDivisor 49 = .ok (.invokevirtual 58, 3) := by decide +kernel
theorem d_W_commonDivisor_52 : decode c_W_commonDivisor 52 = .ok (.aload_n 1, 1) := by decide +kernel
theorem d_W_commonDivisor_53 : decode c_W_commonDivisor 53 = .ok (.aload_n 2, 1) := by decide +kernel
theorem d_W_commonDivisor_54 : decode c_W_commonDivisor 54 = .ok (.aload_n 0, 1) := by decide +kernel
theorem d_W_commonDivisor_55 : decode c_W_commonDivisor 55 = .ok (.getfield 35, 3) := by decide +kernel
theorem d_W_commonDivisor_58 : decode c_W_commonDivisor 58 = .ok (.invokevirtual 98, 3) := by decide +kernel
theorem d_W_commonDivisor_61 : decode c_W_commonDivisor 61 = .ok (.aload_n 1, 1) := by decide +kernel
theorem d_W_commonDivisor_62 : decode c_W_commonDivisor 62 = .ok (.astore 4, 2) := by decide +kernel
theorem d_W_commonDivisor_64 : decode c_W_commonDivisor 64 = .ok (.aload_n 2, 1) := by decide +kernel
theorem d_W_commonDivisor_65 : decode c_W_commonDivisor 65 = .ok (.astore_n 1, 1) := by decide +kernel
theorem d_W_commonDivisor_66 : decode c_W_commonDivisor 66 = .ok (.aload 4, 2) := by decide +kernel
theorem d_W_commonDivisor_68 : decode c_W_commonDivisor 68 = .ok (.astore_n 2, 1) := by decide +kernel
theorem d_W_commonDivisor_69 : decode c_W_commonDivisor 69 = .ok (.iinc 3 1, 3) := by decide +kernel
theorem d_W_commonDivisor_72 : decode c_W_commonDivisor 72 = .ok (.goto (-44), 3) := by decide +kernel
theorem d_W_commonDivisor_75 : decode c_W_commonDivisor 75 = .ok (.aload_n 2, 1) := by decide +kernel
theorem d_W_commonDivisor_76 : decode c_W_commonDivisor 76 = .ok (.invokevirtual 85, 3) := by decide +kernel
theorem d_W_commonDivisor_79 : decode c_W_commonDivisor 79 = .ok (.ifCond .eq 7, 3) := by decide +kernel
theorem d_W_commonDivisor_82 : decode c_W_commonDivisor 82 = .ok (.aload_n 1, 1) := by decide +kernel
theorem d_W_commonDivisor_83 : decode c_W_commonDivisor 83 = .ok (.goto 4, 3) := by decide +kernel
theorem d_W_commonDivisor_86 : decode c_W_commonDivisor 86 = .ok (.aload_n 2, 1) := by decide +kernel
theorem d_W_commonDivisor_87 : decode c_W_commonDivisor 87 = .ok (.areturn, 1) := by decide +kernel
theorem d_S_inverse_0 : decode c_S_inverse 0 = .ok (.iconst 1, 1) := by decide +kernel
theorem d_S_inverse_1 : decode c_S_inverse 1 = .ok (.istore_n 1, 1) := by decide +kernel
theorem d_S_inverse_2 : decode c_S_inverse 2 = .ok (.iload_n 0, 1) := by decide +kernel
theorem d_S_inverse_3 : decode c_S_inverse 3 = .ok (.istore_n 2, 1) := by decide +kernel
theorem d_S_inverse_4 : decode c_S_inverse 4 = .ok (.sipush 10005, 3) := by decide +kernel
theorem d_S_inverse_7 : decode c_S_inverse 7 = .ok (.istore_n 3, 1) := by decide +kernel
theorem d_S_inverse_8 : decode c_S_inverse 8 = .ok (.iload_n 3, 1) := by decide +kernel
theorem d_S_inverse_9 : decode c_S_inverse 9 = .ok (.ifCond .le 33, 3) := by decide +kernel
theorem d_S_inverse_12 : decode c_S_inverse 12 = .ok (.iload_n 3, 1) := by decide +kernel
theorem d_S_inverse_13 : decode c_S_inverse 13 = .ok (.iconst 2, 1) := by decide +kernel
theorem d_S_inverse_14 : decode c_S_inverse 14 = .ok (.irem, 1) := by decide +kernel
theorem d_S_inverse_15 : decode c_S_inverse 15 = .ok (.iconst 1, 1) := by decide +kernel
theorem d_S_inverse_16 : decode c_S_inverse 16 = .ok (.if_icmp .ne 11, 3) := by decide +kernel
theorem d_S_inverse_19 : decode c_S_inverse 19 = .ok (.iload_n 1, 1) := by decide +kernel
theorem d_S_inverse_20 : decode c_S_inverse 20 = .ok (.iload_n 2, 1) := by decide +kernel
theorem d_S_inverse_21 : decode c_S_inverse 21 = .ok (.imul, 1) := by decide +kernel
theorem d_S_inverse_22 : decode c_S_inverse 22 = .ok (.sipush 10007, 3) := by decide +kernel
theorem d_S_inverse_25 : decode c_S_inverse 25 = .ok (.irem, 1) := by decide +kernel
theorem d_S_inverse_26 : decode c_S_inverse 26 = .ok (.istore_n 1, 1) := by decide +kernel
theorem d_S_inverse_27 : decode c_S_inverse 27 = .ok (.iload_n 2, 1) := by decide +kernel
theorem d_S_inverse_28 : decode c_S_inverse 28 = .ok (.iload_n 2, 1) := by decide +kernel
theorem d_S_inverse_29 : decode c_S_inverse 29 = .ok (.imul, 1) := by decide +kernel
theorem d_S_inverse_30 : decode c_S_inverse 30 = .ok (.sipush 10007, 3) := by decide +kernel
theorem d_S_inverse_33 : decode c_S_inverse 33 = .ok (.irem, 1) := by decide +kernel
theorem d_S_inverse_34 : decode c_S_inverse 34 = .ok (.istore_n 2, 1) := by decide +kernel
theorem d_S_inverse_35 : decode c_S_inverse 35 = .ok (.iload_n 3, 1) := by decide +kernel
theorem d_S_inverse_36 : decode c_S_inverse 36 = .ok (.iconst 2, 1) := by decide +kernel
theorem d_S_inverse_37 : decode c_S_inverse 37 = .ok (.idiv, 1) := by decide +kernel
theorem d_S_inverse_38 : decode c_S_inverse 38 = .ok (.istore_n 3, 1) := by decide +kernel
theorem d_S_inverse_39 : decode c_S_inverse 39 = .ok (.goto (-31), 3) := by decide +kernel
theorem d_S_inverse_42 : decode c_S_inverse 42 = .ok (.iload_n 1, 1) := by decide +kernel
theorem d_S_inverse_43 : decode c_S_inverse 43 = .ok (.ireturn, 1) := by decide +kernel
theorem d_F_isSame_0 : decode c_F_isSame 0 = .ok (.aload_n 0, 1) := by decide +kernel
theorem d_F_isSame_1 : decode c_F_isSame 1 = .ok (.getfield 14, 3) := by decide +kernel
theorem d_F_isSame_4 : decode c_F_isSame 4 = .ok (.aload_n 1, 1) := by decide +kernel
theorem d_F_isSame_5 : decode c_F_isSame 5 = .ok (.getfield 14, 3) := by decide +kernel
theorem d_F_isSame_8 : decode c_F_isSame 8 = .ok (.invokevirtual 47, 3) := by decide +kernel
theorem d_F_isSame_11 : decode c_F_isSame 11 = .ok (.ifCond .eq 21, 3) := by decide +kernel
theorem d_F_isSame_14 : decode c_F_isSame 14 = .ok (.aload_n 0, 1) := by decide +kernel
theorem d_F_isSame_15 : decode c_F_isSame 15 = .ok (.getfield 20, 3) := by decide +kernel
theorem d_F_isSame_18 : decode c_F_isSame 18 = .ok (.aload_n 1, 1) := by decide +kernel
theorem d_F_isSame_19 : decode c_F_isSame 19 = .ok (.getfield 20, 3) := by decide +kernel
theorem d_F_isSame_22 : decode c_F_isSame 22 = .ok (.invokevirtual 47, 3) := by decide +kernel
theorem d_F_isSame_25 : decode c_F_isSame 25 = .ok (.ifCond .eq 7, 3) := by decide +kernel
theorem d_F_isSame_28 : decode c_F_isSame 28 = .ok (.iconst 1, 1) := by decide +kernel
theorem d_F_isSame_29 : decode c_F_isSame 29 = .ok (.goto 4, 3) := by decide +kernel
theorem d_F_isSame_32 : decode c_F_isSame 32 = .ok (.iconst 0, 1) := by decide +kernel
theorem d_F_isSame_33 : decode c_F_isSame 33 = .ok (.ireturn, 1) := by decide +kernel
theorem d_S_badPlace_0 : decode c_S_badPlace 0 = .ok (.aload_n 0, 1) := by decide +kernel
theorem d_S_badPlace_1 : decode c_S_badPlace 1 = .ok (.getfield 51, 3) := by decide +kernel
theorem d_S_badPlace_4 : decode c_S_badPlace 4 = .ok (.ireturn, 1) := by decide +kernel
theorem d_S_degree_0 : decode c_S_degree 0 = .ok (.aload_n 0, 1) := by decide +kernel
theorem d_S_degree_1 : decode c_S_degree 1 = .ok (.getfield 40, 3) := by decide +kernel
theorem d_S_degree_4 : decode c_S_degree 4 = .ok (.iload_n 1, 1) := by decide +kernel
theorem d_S_degree_5 : decode c_S_degree 5 = .ok (.invokevirtual 103, 3) := by decide +kernel
theorem d_S_degree_8 : decode c_S_degree 8 = .ok (.astore_n 3, 1) := by decide +kernel
theorem d_S_degree_9 : decode c_S_degree 9 = .ok (.aload_n 3, 1) := by decide +kernel
theorem d_S_degree_10 : decode c_S_degree 10 = .ok (.ifnonnull 7, 3) := by decide +kernel
theorem d_S_degree_13 : decode c_S_degree 13 = .ok (.iconst (-1), 1) := by decide +kernel
theorem d_S_degree_14 : decode c_S_degree 14 = .ok (.goto 11, 3) := by decide +kernel
theorem d_S_degree_17 : decode c_S_degree 17 = .ok (.aload_n 3, 1) := by decide +kernel
theorem d_S_degree_18 : decode c_S_degree 18 = .ok (.iload_n 2, 1) := by decide +kernel
theorem d_S_degree_19 : decode c_S_degree 19 = .ok (.invokevirtual 107, 3) := by decide +kernel
theorem d_S_degree_22 : decode c_S_degree 22 = .ok (.getfield 113, 3) := by decide +kernel
theorem d_S_degree_25 : decode c_S_degree 25 = .ok (.ireturn, 1) := by decide +kernel
theorem d_F_part_0 : decode c_F_part 0 = .ok (.iload_n 1, 1) := by decide +kernel
theorem d_F_part_1 : decode c_F_part 1 = .ok (.ifCond .eq 10, 3) := by decide +kernel
theorem d_F_part_4 : decode c_F_part 4 = .ok (.aload_n 0, 1) := by decide +kernel
theorem d_F_part_5 : decode c_F_part 5 = .ok (.getfield 20, 3) := by decide +kernel
theorem d_F_part_8 : decode c_F_part 8 = .ok (.goto 7, 3) := by decide +kernel
theorem d_F_part_11 : decode c_F_part 11 = .ok (.aload_n 0, 1) := by decide +kernel
theorem d_F_part_12 : decode c_F_part 12 = .ok (.getfield 14, 3) := by decide +kernel
theorem d_F_part_15 : decode c_F_part 15 = .ok (.areturn, 1) := by decide +kernel
theorem d_S_coefficient_0 : decode c_S_coefficient 0 = .ok (.aload_n 0, 1) := by decide +kernel
theorem d_S_coefficient_1 : decode c_S_coefficient 1 = .ok (.getfield 40, 3) := by decide +kernel
theorem d_S_coefficient_4 : decode c_S_coefficient 4 = .ok (.iload_n 1, 1) := by decide +kernel
theorem d_S_coefficient_5 : decode c_S_coefficient 5 = .ok (.invokevirtual 103, 3) := by decide +kernel
theorem d_S_coefficient_8 : decode c_S_coefficient 8 = .ok (.astore 4, 2) := by decide +kernel
theorem d_S_coefficient_10 : decode c_S_coefficient 10 = .ok (.aload 4, 2) := by decide +kernel
theorem d_S_coefficient_12 : decode c_S_coefficient 12 = .ok (.ifnull 13, 3) := by decide +kernel
theorem d_S_coefficient_15 : decode c_S_coefficient 15 = .ok (.iload_n 3, 1) := by decide +kernel
theorem d_S_coefficient_16 : decode c_S_coefficient 16 = .ok (.ifCond .lt 9, 3) := by decide +kernel
theorem d_S_coefficient_19 : decode c_S_coefficient 19 = .ok (.iload_n 3, 1) := by decide +kernel
theorem d_S_coefficient_20 : decode c_S_coefficient 20 = .ok (.bipush 12, 2) := by decide +kernel
theorem d_S_coefficient_22 : decode c_S_coefficient 22 = .ok (.if_icmp .le 5, 3) := by decide +kernel
theorem d_S_coefficient_25 : decode c_S_coefficient 25 = .ok (.iconst (-1), 1) := by decide +kernel
theorem d_S_coefficient_26 : decode c_S_coefficient 26 = .ok (.ireturn, 1) := by decide +kernel
theorem d_S_coefficient_27 : decode c_S_coefficient 27 = .ok (.aload 4, 2) := by decide +kernel
theorem d_S_coefficient_29 : decode c_S_coefficient 29 = .ok (.iload_n 2, 1) := by decide +kernel
theorem d_S_coefficient_30 : decode c_S_coefficient 30 = .ok (.invokevirtual 107, 3) := by decide +kernel
theorem d_S_coefficient_33 : decode c_S_coefficient 33 = .ok (.iload_n 3, 1) := by decide +kernel
theorem d_S_coefficient_34 : decode c_S_coefficient 34 = .ok (.invokevirtual 118, 3) := by decide +kernel
theorem d_S_coefficient_37 : decode c_S_coefficient 37 = .ok (.ireturn, 1) := by decide +kernel
theorem d_S_shape_0 : decode c_S_shape 0 = .ok (.aload_n 0, 1) := by decide +kernel
theorem d_S_shape_1 : decode c_S_shape 1 = .ok (.getfield 40, 3) := by decide +kernel
theorem d_S_shape_4 : decode c_S_shape 4 = .ok (.iload_n 1, 1) := by decide +kernel
theorem d_S_shape_5 : decode c_S_shape 5 = .ok (.invokevirtual 103, 3) := by decide +kernel
theorem d_S_shape_8 : decode c_S_shape 8 = .ok (.ifnonnull 7, 3) := by decide +kernel
theorem d_S_shape_11 : decode c_S_shape 11 = .ok (.iconst (-1), 1) := by decide +kernel
theorem d_S_shape_12 : decode c_S_shape 12 = .ok (.goto 11, 3) := by decide +kernel
theorem d_S_shape_15 : decode c_S_shape 15 = .ok (.aload_n 0, 1) := by decide +kernel
theorem d_S_shape_16 : decode c_S_shape 16 = .ok (.getfield 40, 3) := by decide +kernel
theorem d_S_shape_19 : decode c_S_shape 19 = .ok (.iload_n 1, 1) := by decide +kernel
theorem d_S_shape_20 : decode c_S_shape 20 = .ok (.invokevirtual 121, 3) := by decide +kernel
theorem d_S_shape_23 : decode c_S_shape 23 = .ok (.ireturn, 1) := by decide +kernel
theorem d_S_shapes_0 : decode c_S_shapes 0 = .ok (.aload_n 0, 1) := by decide +kernel
theorem d_S_shapes_1 : decode c_S_shapes 1 = .ok (.getfield 40, 3) := by decide +kernel
theorem d_S_shapes_4 : decode c_S_shapes 4 = .ok (.getfield 124, 3) := by decide +kernel
theorem d_S_shapes_7 : decode c_S_shapes 7 = .ok (.ireturn, 1) := by decide +kernel
theorem d_S_labels_0 : decode c_S_labels 0 = .ok (.aload_n 0, 1) := by decide +kernel
theorem d_S_labels_1 : decode c_S_labels 1 = .ok (.getfield 40, 3) := by decide +kernel
theorem d_S_labels_4 : decode c_S_labels 4 = .ok (.getfield 127, 3) := by decide +kernel
theorem d_S_labels_7 : decode c_S_labels 7 = .ok (.ireturn, 1) := by decide +kernel
theorem d_S_bound_0 : decode c_S_bound 0 = .ok (.iload_n 1, 1) := by decide +kernel
theorem d_S_bound_1 : decode c_S_bound 1 = .ok (.ifCond .lt 8, 3) := by decide +kernel
theorem d_S_bound_4 : decode c_S_bound 4 = .ok (.iload_n 1, 1) := by decide +kernel
theorem d_S_bound_5 : decode c_S_bound 5 = .ok (.iconst 3, 1) := by decide +kernel
theorem d_S_bound_6 : decode c_S_bound 6 = .ok (.if_icmp .lt 5, 3) := by decide +kernel
theorem d_S_bound_9 : decode c_S_bound 9 = .ok (.iconst (-1), 1) := by decide +kernel
theorem d_S_bound_10 : decode c_S_bound 10 = .ok (.ireturn, 1) := by decide +kernel
theorem d_S_bound_11 : decode c_S_bound 11 = .ok (.aload_n 0, 1) := by decide +kernel
theorem d_S_bound_12 : decode c_S_bound 12 = .ok (.getfield 40, 3) := by decide +kernel
theorem d_S_bound_15 : decode c_S_bound 15 = .ok (.aload_n 0, 1) := by decide +kernel
theorem d_S_bound_16 : decode c_S_bound 16 = .ok (.getfield 40, 3) := by decide +kernel
theorem d_S_bound_19 : decode c_S_bound 19 = .ok (.iload_n 1, 1) := by decide +kernel
theorem d_S_bound_20 : decode c_S_bound 20 = .ok (.invokevirtual 130, 3) := by decide +kernel
theorem d_S_bound_23 : decode c_S_bound 23 = .ok (.invokevirtual 121, 3) := by decide +kernel
theorem d_S_bound_26 : decode c_S_bound 26 = .ok (.ireturn, 1) := by decide +kernel
theorem d_S_value_0 : decode c_S_value 0 = .ok (.aload_n 0, 1) := by decide +kernel
theorem d_S_value_1 : decode c_S_value 1 = .ok (.getfield 40, 3) := by decide +kernel
theorem d_S_value_4 : decode c_S_value 4 = .ok (.iload_n 1, 1) := by decide +kernel
theorem d_S_value_5 : decode c_S_value 5 = .ok (.invokevirtual 103, 3) := by decide +kernel
theorem d_S_value_8 : decode c_S_value 8 = .ok (.astore_n 3, 1) := by decide +kernel
theorem d_S_value_9 : decode c_S_value 9 = .ok (.aload_n 3, 1) := by decide +kernel
theorem d_S_value_10 : decode c_S_value 10 = .ok (.ifnonnull 5, 3) := by decide +kernel
theorem d_S_value_13 : decode c_S_value 13 = .ok (.iconst (-1), 1) := by decide +kernel
theorem d_S_value_14 : decode c_S_value 14 = .ok (.ireturn, 1) := by decide +kernel
theorem d_S_value_15 : decode c_S_value 15 = .ok (.iload_n 2, 1) := by decide +kernel
theorem d_S_value_16 : decode c_S_value 16 = .ok (.sipush 10007, 3) := by decide +kernel
theorem d_S_value_19 : decode c_S_value 19 = .ok (.invokestatic 133, 3) := by decide +kernel
theorem d_S_value_22 : decode c_S_value 22 = .ok (.istore 4, 2) := by decide +kernel
theorem d_S_value_24 : decode c_S_value 24 = .ok (.aload_n 3, 1) := by decide +kernel
theorem d_S_value_25 : decode c_S_value 25 = .ok (.getfield 139, 3) := by decide +kernel
theorem d_S_value_28 : decode c_S_value 28 = .ok (.iload 4, 2) := by decide +kernel
theorem d_S_value_30 : decode c_S_value 30 = .ok (.invokevirtual 143, 3) := by decide +kernel
theorem d_S_value_33 : decode c_S_value 33 = .ok (.istore 5, 2) := by decide +kernel
theorem d_S_value_35 : decode c_S_value 35 = .ok (.iload 5, 2) := by decide +kernel
theorem d_S_value_37 : decode c_S_value 37 = .ok (.ifCond .ne 6, 3) := by decide +kernel
theorem d_S_value_40 : decode c_S_value 40 = .ok (.bipush (-7), 2) := by decide +kernel
theorem d_S_value_42 : decode c_S_value 42 = .ok (.ireturn, 1) := by decide +kernel
theorem d_S_value_43 : decode c_S_value 43 = .ok (.aload_n 3, 1) := by decide +kernel
theorem d_S_value_44 : decode c_S_value 44 = .ok (.getfield 146, 3) := by decide +kernel
theorem d_S_value_47 : decode c_S_value 47 = .ok (.iload 4, 2) := by decide +kernel
theorem d_S_value_49 : decode c_S_value 49 = .ok (.invokevirtual 143, 3) := by decide +kernel
theorem d_S_value_52 : decode c_S_value 52 = .ok (.iload 5, 2) := by decide +kernel
theorem d_S_value_54 : decode c_S_value 54 = .ok (.invokestatic 149, 3) := by decide +kernel
theorem d_S_value_57 : decode c_S_value 57 = .ok (.imul, 1) := by decide +kernel
theorem d_S_value_58 : decode c_S_value 58 = .ok (.sipush 10007, 3) := by decide +kernel
theorem d_S_value_61 : decode c_S_value 61 = .ok (.irem, 1) := by decide +kernel
theorem d_S_value_62 : decode c_S_value 62 = .ok (.ireturn, 1) := by decide +kernel
theorem d_S_text_0 : decode c_S_text 0 = .ok (.aload_n 0, 1) := by decide +kernel
theorem d_S_text_1 : decode c_S_text 1 = .ok (.getfield 40, 3) := by decide +kernel
theorem d_S_text_4 : decode c_S_text 4 = .ok (.iload_n 1, 1) := by decide +kernel
theorem d_S_text_5 : decode c_S_text 5 = .ok (.invokevirtual 103, 3) := by decide +kernel
theorem d_S_text_8 : decode c_S_text 8 = .ok (.astore_n 3, 1) := by decide +kernel
theorem d_S_text_9 : decode c_S_text 9 = .ok (.aload_n 3, 1) := by decide +kernel
theorem d_S_text_10 : decode c_S_text 10 = .ok (.ifnull 7, 3) := by decide +kernel
theorem d_S_text_13 : decode c_S_text 13 = .ok (.iload_n 2, 1) := by decide +kernel
theorem d_S_text_14 : decode c_S_text 14 = .ok (.ifCond .ge 5, 3) := by decide +kernel
theorem d_S_text_17 : decode c_S_text 17 = .ok (.iconst (-1), 1) := by decide +kernel
theorem d_S_text_18 : decode c_S_text 18 = .ok (.ireturn, 1) := by decide +kernel
theorem d_S_text_19 : decode c_S_text 19 = .ok (.aload_n 0, 1) := by decide +kernel
theorem d_S_text_20 : decode c_S_text 20 = .ok (.getfield 47, 3) := by decide +kernel
theorem d_S_text_23 : decode c_S_text 23 = .ok (.aload_n 3, 1) := by decide +kernel
theorem d_S_text_24 : decode c_S_text 24 = .ok (.iload_n 2, 1) := by decide +kernel
theorem d_S_text_25 : decode c_S_text 25 = .ok (.invokevirtual 152, 3) := by decide +kernel
theorem d_S_text_28 : decode c_S_text 28 = .ok (.ireturn, 1) := by decide +kernel
theorem d_S_line_0 : decode c_S_line 0 = .ok (.iload_n 1, 1) := by decide +kernel
theorem d_S_line_1 : decode c_S_line 1 = .ok (.ifCond .ge 11, 3) := by decide +kernel
theorem d_S_line_4 : decode c_S_line 4 = .ok (.aload_n 0, 1) := by decide +kernel
theorem d_S_line_5 : decode c_S_line 5 = .ok (.getfield 12, 3) := by decide +kernel
theorem d_S_line_8 : decode c_S_line 8 = .ok (.getfield 63, 3) := by decide +kernel
theorem d_S_line_11 : decode c_S_line 11 = .ok (.ireturn, 1) := by decide +kernel
theorem d_S_line_12 : decode c_S_line 12 = .ok (.iload_n 1, 1) := by decide +kernel
theorem d_S_line_13 : decode c_S_line 13 = .ok (.aload_n 0, 1) := by decide +kernel
theorem d_S_line_14 : decode c_S_line 14 = .ok (.getfield 12, 3) := by decide +kernel
theorem d_S_line_17 : decode c_S_line 17 = .ok (.getfield 63, 3) := by decide +kernel
theorem d_S_line_20 : decode c_S_line 20 = .ok (.if_icmp .ge 14, 3) := by decide +kernel
theorem d_S_line_23 : decode c_S_line 23 = .ok (.aload_n 0, 1) := by decide +kernel
theorem d_S_line_24 : decode c_S_line 24 = .ok (.getfield 12, 3) := by decide +kernel
theorem d_S_line_27 : decode c_S_line 27 = .ok (.iload_n 1, 1) := by decide +kernel
theorem d_S_line_28 : decode c_S_line 28 = .ok (.invokevirtual 156, 3) := by decide +kernel
theorem d_S_line_31 : decode c_S_line 31 = .ok (.goto 4, 3) := by decide +kernel
theorem d_S_line_34 : decode c_S_line 34 = .ok (.iconst (-1), 1) := by decide +kernel
theorem d_S_line_35 : decode c_S_line 35 = .ok (.ireturn, 1) := by decide +kernel
theorem d_S_reset_0 : decode c_S_reset 0 = .ok (.aload_n 0, 1) := by decide +kernel
theorem d_S_reset_1 : decode c_S_reset 1 = .ok (.getfield 12, 3) := by decide +kernel
theorem d_S_reset_4 : decode c_S_reset 4 = .ok (.invokevirtual 78, 3) := by decide +kernel
theorem d_S_reset_7 : decode c_S_reset 7 = .ok (.aload_n 0, 1) := by decide +kernel
theorem d_S_reset_8 : decode c_S_reset 8 = .ok (.getfield 40, 3) := by decide +kernel
theorem d_S_reset_11 : decode c_S_reset 11 = .ok (.invokevirtual 160, 3) := by decide +kernel
theorem d_S_reset_14 : decode c_S_reset 14 = .ok (.aload_n 0, 1) := by decide +kernel
theorem d_S_reset_15 : decode c_S_reset 15 = .ok (.iconst (-1), 1) := by decide +kernel
theorem d_S_reset_16 : decode c_S_reset 16 = .ok (.putfield 51, 3) := by decide +kernel
theorem d_S_reset_19 : decode c_S_reset 19 = .ok (.return_, 1) := by decide +kernel
end
section
/-! FORMs and the workshop in the world -/
def zoutR (M M' : zM) (lo hi : Nat) : Prop := ∀ q, (q < lo ∨ hi ≤ q) → M' q = M q
theorem zoutR_rf {M : zM} {lo hi : Nat} : zoutR M M lo hi := fun _ _ => rfl
theorem zout_R {M M' : zM} {a lo hi : Nat} (ho : zout M M' a) (h1 : lo ≤ a) (h2 : a + 2 ≤ hi) : zoutR M M' lo hi := fun q hq => ho q (by omega) (by omega)
theorem zoutR_w {M M' : zM} {lo hi lo' hi' : Nat} (ho : zoutR M M' lo hi) (h1 : lo' ≤ lo) (h2 : hi ≤ hi') : zoutR M M' lo' hi' := fun q hq => ho q (by omega)
theorem zoutR_tr {M M' M'' : zM} {lo hi : Nat} (h1 : zoutR M M' lo hi) (h2 : zoutR M' M'' lo hi) : zoutR M M'' lo hi := fun q hq => (h2 q hq).trans (h1 q hq)
theorem zp_c0 {E : zE} {M : zM} {a n k : Nat} {P : PS} (h : zp E M a n k P) : M a = some (.inr (3, [.ref (a + 1), .int (tI k)])) := by
  obtain ⟨f, h0, -⟩ := h
  exact h0
theorem zp_o {E : zE} {M M' : zM} {a b n k : Nat} {P : PS} (ho : zout M M' a) (h : zp E M b n k P) (hne : b + 2 ≤ a ∨ a + 2 ≤ b) : zp E M' b n k P := zp_kept h (ho b (by omega) (by omega)) (ho (b + 1) (by omega) (by omega))
theorem zp_oR {E : zE} {M M' : zM} {lo hi b n k : Nat} {P : PS} (ho : zoutR M M' lo hi) (h : zp E M b n k P) (hne : b + 2 ≤ lo ∨ hi ≤ b) : zp E M' b n k P := zp_kept h (ho b (by omega)) (ho (b + 1) (by omega))
def zf (E : zE) (M : zM) (q kn kd : Nat) (N D : PS) : Prop := M q = some (.inr (1, [.ref (q + 1), .ref (q + 3)])) ∧ zp E M (q + 1) 13 kn N ∧ zp E M (q + 3) 13 kd D
theorem zf_oR {E : zE} {M M' : zM} {lo hi q kn kd : Nat} {N D : PS} (ho : zoutR M M' lo hi) (h : zf E M q kn kd N D) (hne : q + 5 ≤ lo ∨ hi ≤ q) : zf E M' q kn kd N D := ⟨(ho q (by omega)).trans h.1, zp_oR ho h.2.1 (by omega), zp_oR ho h.2.2 (by omega)⟩
/-- the workshop at w: its seven polynomials; over and under hold N and D -/
def zsh (E : zE) (M : zM) (w kn kd : Nat) (N D : PS) : Prop := M w = some (.inr (9, [.ref (w + 1), .ref (w + 3), .ref (w + 5), .ref (w + 7), .ref (w + 9), .ref (w + 11), .ref (w + 13)])) ∧ zp E M (w + 1) 25 kn N ∧ zp E M (w + 3) 25 kd D ∧ (∃ k P, zp E M (w + 5) 25 k P) ∧ (∃ k P, zp E M (w + 7) 25 k P) ∧ (∃ k P, zp E M (w + 9) 25 k P) ∧ (∃ k P, zp E M (w + 11) 25 k P) ∧ ∃ k P, zp E M (w + 13) 25 k P
theorem zsh_oR {E : zE} {M M' : zM} {lo hi w kn kd : Nat} {N D : PS} (ho : zoutR M M' lo hi) (h : zsh E M w kn kd N D) (hne : w + 15 ≤ lo ∨ hi ≤ w) : zsh E M' w kn kd N D := by
  obtain ⟨h0, h1, h2, ⟨k3, P3, h3⟩, ⟨k4, P4, h4⟩, ⟨k5, P5, h5⟩, ⟨k6, P6, h6⟩, ⟨k7, P7, h7⟩⟩ := h
  exact ⟨(ho w (by omega)).trans h0, zp_oR ho h1 (by omega), zp_oR ho h2 (by omega), ⟨k3, P3, zp_oR ho h3 (by omega)⟩, ⟨k4, P4, zp_oR ho h4 (by omega)⟩, ⟨k5, P5, zp_oR ho h5 (by omega)⟩, ⟨k6, P6, zp_oR ho h6 (by omega)⟩, ⟨k7, P7, zp_oR ho h7 (by omega)⟩⟩
/-- no more places are used than the coefficients reach -/
theorem zp_le {E : zE} {M : zM} {a n k m : Nat} {P : PS} (h : zp E M a n k P) (hz : ∀ i, m ≤ i → P i = 0) : k ≤ m := by
  rcases Nat.lt_or_ge m k with q | q
  · exact absurd (hz (k - 1) (by omega)) ((zp_pol h).2 (k - 1) (by omega))
  · exact q
theorem zp_sz {E : zE} {M : zM} {a n k n' : Nat} {P : PS} (h : zp E M a n k P) (hn : n = n') : zp E M a n' k P := hn ▸ h
theorem der_z {P : PS} {k m : Nat} (h : ∀ i, k ≤ i → P i = 0) (hm : k ≤ m + 1) : ∀ i, m ≤ i → ps_der P i = 0 := by
  intro i hi
  simp only [ps_der, h (i + 1) (by omega)]
  grind
end
section
set_option maxHeartbeats 4000000 in
/-- Form.part -/
theorem f_part (E : zE) (l : Launch) (sz : Nat) (M : zM) {q kn kd : Nat} {N D : PS} (h : zf E M q kn kd N D) (b : Bool) : zMet E l y_F_part c_F_part 2 (some (FieldType.object "RationalSession$Polynomial")) { frames := 0, cells := 0, slots := 0, locals := 0 } 0 0 [.ref q, .int (if b then 1 else 0)] sz M (zRet (some (.ref (if b then q + 3 else q + 1))) sz M) := by
  refine zMet.ofZ (by decide) (Nat.le_of_ble_eq_true rfl) ?_
  intro X hl hini C
  cases b
  · show Z X E 2 (zQ X E 0 0 (zRet (some (.ref (q + 1))) sz M)) 0 0 sz M 0 [(0, .ref q), (1, .int 0)] []
    refine z_iload_n C d_F_part_0 rfl rfl ?_
    refine z_if_eq (tgt := 11) C d_F_part_1 (by decide) (fun _ => ?_) (fun c_1 => absurd (by decide) c_1)
    refine z_aload_n C d_F_part_11 rfl rfl ?_
    refine z_get C in_F h.1 rfl 0 (by decide) fl_F_14 rfl rfl d_F_part_12 ?_
    exact z_aret C (Or.inl ⟨_, rfl⟩) (Or.inr ⟨_, rfl⟩) ⟨rfl, rfl, rfl⟩ d_F_part_15
  · show Z X E 2 (zQ X E 0 0 (zRet (some (.ref (q + 3))) sz M)) 0 0 sz M 0 [(0, .ref q), (1, .int 1)] []
    refine z_iload_n C d_F_part_0 rfl rfl ?_
    refine z_if_eq (tgt := 11) C d_F_part_1 (by decide) (fun c_1 => absurd c_1 (by decide)) (fun _ => ?_)
    refine z_aload_n C d_F_part_4 rfl rfl ?_
    refine z_get C in_F h.1 rfl 1 (by decide) fl_F_20 rfl rfl d_F_part_5 ?_
    refine z_goto (tgt := 15) C d_F_part_8 (by decide) ?_
    exact z_aret C (Or.inl ⟨_, rfl⟩) (Or.inr ⟨_, rfl⟩) ⟨rfl, rfl, rfl⟩ d_F_part_15
set_option maxHeartbeats 4000000 in
/-- Form.isZero -/
theorem f_isZero (E : zE) (l : Launch) (sz : Nat) (M : zM) {q kn kd : Nat} {N D : PS} (h : zf E M q kn kd N D) : zMet E l y_F_isZero c_F_isZero 1 (some .boolean) { frames := 1, cells := 0, slots := 0, locals := 20 } 0 0 [.ref q] sz M (zRet (some (.int (if kn = 0 then 1 else 0))) sz M) := by
  refine zMet.ofZ (by decide) (Nat.le_of_ble_eq_true rfl) ?_
  intro X hl hini C
  show Z X E 1 _ 0 0 sz M 0 [(0, .ref q)] []
  refine z_aload_n C d_F_isZero_0 rfl rfl ?_
  refine z_get C in_F h.1 rfl 0 (by decide) fl_F_14 rfl rfl d_F_isZero_1 ?_
  refine z_callV (rest := []) (n := 0) (As := []) C (p_isZero E X.2.1 sz _ h.2.1) ⟨z_cb C k_P_isZero ml_F_23 ii_P rfl rfl (by decide +kernel) ⟨by decide, by decide⟩, C.2.2.2.2.1 _ im_P_isZero, C.2.2.2.2.1 _ se_P_isZero⟩ (zp_c0 h.2.1) rfl rfl rfl (Nat.le_of_ble_eq_true rfl) d_F_isZero_4 ⟨by decide, by decide⟩ ?_
  intro v_4 s_4 M_4 hp_4
  obtain ⟨rfl, rfl, rfl⟩ := hp_4
  show Z _ _ _ _ _ _ _ _ 7 _ [.int (if kn = 0 then 1 else 0)]
  exact z_zret C (by split <;> rfl) ⟨rfl, rfl, rfl⟩ d_F_isZero_7
set_option maxHeartbeats 4000000 in
/-- Form.height -/
theorem f_height (E : zE) (l : Launch) (sz : Nat) (M : zM) {q kn kd : Nat} {N D : PS} (h : zf E M q kn kd N D) : zMet E l y_F_height c_F_height 1 (some .int) { frames := 1, cells := 0, slots := 0, locals := 21 } 0 0 [.ref q] sz M (zRet (some (.int (tI (max kn kd)))) sz M) := by
  refine zMet.ofZ (by decide) (Nat.le_of_ble_eq_true rfl) ?_
  intro X hl hini C
  show Z X E 1 _ 0 0 sz M 0 [(0, .ref q)] []
  refine z_aload_n C d_F_height_0 rfl rfl ?_
  refine z_get C in_F h.1 rfl 0 (by decide) fl_F_14 rfl rfl d_F_height_1 ?_
  refine z_getN C in_P (zp_c0 h.2.1) rfl 1 (by decide) fl_F_27 rfl rfl d_F_height_4 ?_
  refine z_aload_n C d_F_height_7 rfl rfl ?_
  refine z_get C in_F h.1 rfl 1 (by decide) fl_F_20 rfl rfl d_F_height_8 ?_
  refine z_getN C in_P (zp_c0 h.2.2) rfl 1 (by decide) fl_F_27 rfl rfl d_F_height_11 ?_
  refine z_mmax C ml_F_31 sm_jM_max ii_jM k_jM_max (by decide) (Nat.le_of_ble_eq_true rfl) (Nat.zero_le _) (Nat.zero_le _) d_F_height_14 ?_
  refine z_top (y := tI (max kn kd)) (tI_max (by have := zp_lt h.2.1; omega) (by have := zp_lt h.2.2; omega)) ?_
  exact z_iret C ⟨rfl, rfl, rfl⟩ d_F_height_17
set_option maxHeartbeats 4000000 in
/-- Form.setConstant -/
theorem f_setConstant (E : zE) (l : Launch) (sz : Nat) (M : zM) {q kn kd : Nat} {N D : PS} (h : zf E M q kn kd N D) (c : FF) : zMet E l y_F_setConstant c_F_setConstant 2 none { frames := 1, cells := 0, slots := 0, locals := 21 } 0 0 [.ref q, .int (fI c)] sz M (fun v s M' => none = v ∧ sz = s ∧ zf E M' q (if c = 0 then 0 else 1) (if (1 : FF) = 0 then 0 else 1) (ps_C c) (ps_C 1) ∧ zoutR M M' (q + 1) (q + 5)) := by
  refine zMet.ofZ (by decide) (Nat.le_of_ble_eq_true rfl) ?_
  intro X hl hini C
  show Z X E 2 _ 0 0 sz M 0 [(0, .ref q), (1, .int (fI c))] []
  refine z_aload_n C d_F_setConstant_0 rfl rfl ?_
  refine z_get C in_F h.1 rfl 0 (by decide) fl_F_14 rfl rfl d_F_setConstant_1 ?_
  refine z_iload_n C d_F_setConstant_4 rfl rfl ?_
  refine z_callV (rest := []) (n := 1) (As := [.int (fI c)]) C (p_setConstant E X.2.1 sz _ h.2.1 (by omega) c) ⟨z_cb C k_P_setConstant ml_F_37 ii_P rfl rfl (by decide +kernel) ⟨by decide, by decide⟩, C.2.2.2.2.1 _ im_P_setConstant, C.2.2.2.2.1 _ se_P_setConstant⟩ (zp_c0 h.2.1) rfl rfl rfl (Nat.le_of_ble_eq_true rfl) d_F_setConstant_5 ⟨by decide, by decide⟩ ?_
  intro v_5 s_5 M_5 hp_5
  obtain ⟨rfl, rfl, hn_5, ho_5⟩ := hp_5
  have hc0_5 := (ho_5 _ (by omega) (by omega)).trans h.1
  have hq1_5 := zp_o ho_5 h.2.2 (by omega)
  show Z _ _ _ _ _ _ _ _ 8 _ []
  refine z_aload_n C d_F_setConstant_8 rfl rfl ?_
  refine z_get C in_F hc0_5 rfl 1 (by decide) fl_F_20 rfl rfl d_F_setConstant_9 ?_
  refine z_iconst (v := fI 1) C d_F_setConstant_12 (by decide) ?_
  refine z_callV (rest := []) (n := 1) (As := [.int (fI 1)]) C (p_setConstant E X.2.1 sz _ hq1_5 (by omega) 1) ⟨z_cb C k_P_setConstant ml_F_37 ii_P rfl rfl (by decide +kernel) ⟨by decide, by decide⟩, C.2.2.2.2.1 _ im_P_setConstant, C.2.2.2.2.1 _ se_P_setConstant⟩ (zp_c0 hq1_5) rfl rfl rfl (Nat.le_of_ble_eq_true rfl) d_F_setConstant_13 ⟨by decide, by decide⟩ ?_
  intro v_13 s_13 M_13 hp_13
  obtain ⟨rfl, rfl, hn_13, ho_13⟩ := hp_13
  have hc0_13 := (ho_13 _ (by omega) (by omega)).trans hc0_5
  have hq0_13 := zp_o ho_13 hn_5 (by omega)
  show Z _ _ _ _ _ _ _ _ 16 _ []
  exact z_vret C ⟨rfl, rfl, ⟨hc0_13, hq0_13, hn_13⟩, zoutR_tr (zoutR_tr zoutR_rf (zout_R ho_5 (by omega) (by omega))) (zout_R ho_13 (by omega) (by omega))⟩ d_F_setConstant_16
set_option maxHeartbeats 4000000 in
/-- Form.setLetter -/
theorem f_setLetter (E : zE) (l : Launch) (sz : Nat) (M : zM) {q kn kd : Nat} {N D : PS} (h : zf E M q kn kd N D) : zMet E l y_F_setLetter c_F_setLetter 1 none { frames := 1, cells := 0, slots := 0, locals := 21 } 0 0 [.ref q] sz M (fun v s M' => none = v ∧ sz = s ∧ zf E M' q 2 (if (1 : FF) = 0 then 0 else 1) (mono 1 1) (ps_C 1) ∧ zoutR M M' (q + 1) (q + 5)) := by
  refine zMet.ofZ (by decide) (Nat.le_of_ble_eq_true rfl) ?_
  intro X hl hini C
  show Z X E 1 _ 0 0 sz M 0 [(0, .ref q)] []
  refine z_aload_n C d_F_setLetter_0 rfl rfl ?_
  refine z_get C in_F h.1 rfl 0 (by decide) fl_F_14 rfl rfl d_F_setLetter_1 ?_
  refine z_callV (rest := []) (n := 0) (As := []) C (p_setLetter E X.2.1 sz _ h.2.1 (by omega)) ⟨z_cb C k_P_setLetter ml_F_40 ii_P rfl rfl (by decide +kernel) ⟨by decide, by decide⟩, C.2.2.2.2.1 _ im_P_setLetter, C.2.2.2.2.1 _ se_P_setLetter⟩ (zp_c0 h.2.1) rfl rfl rfl (Nat.le_of_ble_eq_true rfl) d_F_setLetter_4 ⟨by decide, by decide⟩ ?_
  intro v_4 s_4 M_4 hp_4
  obtain ⟨rfl, rfl, hn_4, ho_4⟩ := hp_4
  have hc0_4 := (ho_4 _ (by omega) (by omega)).trans h.1
  have hq1_4 := zp_o ho_4 h.2.2 (by omega)
  show Z _ _ _ _ _ _ _ _ 7 _ []
  refine z_aload_n C d_F_setLetter_7 rfl rfl ?_
  refine z_get C in_F hc0_4 rfl 1 (by decide) fl_F_20 rfl rfl d_F_setLetter_8 ?_
  refine z_iconst (v := fI 1) C d_F_setLetter_11 (by decide) ?_
  refine z_callV (rest := []) (n := 1) (As := [.int (fI 1)]) C (p_setConstant E X.2.1 sz _ hq1_4 (by omega) 1) ⟨z_cb C k_P_setConstant ml_F_37 ii_P rfl rfl (by decide +kernel) ⟨by decide, by decide⟩, C.2.2.2.2.1 _ im_P_setConstant, C.2.2.2.2.1 _ se_P_setConstant⟩ (zp_c0 hq1_4) rfl rfl rfl (Nat.le_of_ble_eq_true rfl) d_F_setLetter_12 ⟨by decide, by decide⟩ ?_
  intro v_12 s_12 M_12 hp_12
  obtain ⟨rfl, rfl, hn_12, ho_12⟩ := hp_12
  have hc0_12 := (ho_12 _ (by omega) (by omega)).trans hc0_4
  have hq0_12 := zp_o ho_12 hn_4 (by omega)
  show Z _ _ _ _ _ _ _ _ 15 _ []
  exact z_vret C ⟨rfl, rfl, ⟨hc0_12, hq0_12, hn_12⟩, zoutR_tr (zoutR_tr zoutR_rf (zout_R ho_4 (by omega) (by omega))) (zout_R ho_12 (by omega) (by omega))⟩ d_F_setLetter_15
set_option maxHeartbeats 4000000 in
/-- Form.copy -/
theorem f_copy (E : zE) (l : Launch) (sz : Nat) (M : zM) {q kn kd : Nat} {N D : PS} (h : zf E M q kn kd N D) {r km ke : Nat} {A B : PS} (g : zf E M r km ke A B) (hqr : q + 5 ≤ r ∨ r + 5 ≤ q) : zMet E l y_F_copy c_F_copy 2 none { frames := 2, cells := 0, slots := 0, locals := 43 } 0 0 [.ref q, .ref r] sz M (fun v s M' => none = v ∧ sz = s ∧ zf E M' q km ke A B ∧ zoutR M M' (q + 1) (q + 5)) := by
  refine zMet.ofZ (by decide) (Nat.le_of_ble_eq_true rfl) ?_
  intro X hl hini C
  show Z X E 2 _ 0 0 sz M 0 [(0, .ref q), (1, .ref r)] []
  refine z_aload_n C d_F_copy_0 rfl rfl ?_
  refine z_get C in_F h.1 rfl 0 (by decide) fl_F_14 rfl rfl d_F_copy_1 ?_
  refine z_aload_n C d_F_copy_4 rfl rfl ?_
  refine z_get C in_F g.1 rfl 0 (by decide) fl_F_14 rfl rfl d_F_copy_5 ?_
  refine z_callV (rest := []) (n := 1) (As := [.ref (r + 1)]) C (p_copy E X.2.1 sz _ h.2.1 g.2.1 (by omega) (by have := zp_lt g.2.1; omega)) ⟨z_cb C k_P_copy ml_F_43 ii_P rfl rfl (by decide +kernel) ⟨by decide, by decide⟩, C.2.2.2.2.1 _ im_P_copy, C.2.2.2.2.1 _ se_P_copy⟩ (zp_c0 h.2.1) rfl rfl rfl (Nat.le_of_ble_eq_true rfl) d_F_copy_8 ⟨by decide, by decide⟩ ?_
  intro v_8 s_8 M_8 hp_8
  obtain ⟨rfl, rfl, hn_8, ho_8⟩ := hp_8
  have hc0_8 := (ho_8 _ (by omega) (by omega)).trans h.1
  have hc1_8 := (ho_8 _ (by omega) (by omega)).trans g.1
  have hq1_8 := zp_o ho_8 h.2.2 (by omega)
  have hq2_8 := zp_o ho_8 g.2.1 (by omega)
  have hq3_8 := zp_o ho_8 g.2.2 (by omega)
  show Z _ _ _ _ _ _ _ _ 11 _ []
  refine z_aload_n C d_F_copy_11 rfl rfl ?_
  refine z_get C in_F hc0_8 rfl 1 (by decide) fl_F_20 rfl rfl d_F_copy_12 ?_
  refine z_aload_n C d_F_copy_15 rfl rfl ?_
  refine z_get C in_F hc1_8 rfl 1 (by decide) fl_F_20 rfl rfl d_F_copy_16 ?_
  refine z_callV (rest := []) (n := 1) (As := [.ref (r + 3)]) C (p_copy E X.2.1 sz _ hq1_8 hq3_8 (by omega) (by have := zp_lt hq3_8; omega)) ⟨z_cb C k_P_copy ml_F_43 ii_P rfl rfl (by decide +kernel) ⟨by decide, by decide⟩, C.2.2.2.2.1 _ im_P_copy, C.2.2.2.2.1 _ se_P_copy⟩ (zp_c0 hq1_8) rfl rfl rfl (Nat.le_of_ble_eq_true rfl) d_F_copy_19 ⟨by decide, by decide⟩ ?_
  intro v_19 s_19 M_19 hp_19
  obtain ⟨rfl, rfl, hn_19, ho_19⟩ := hp_19
  have hc0_19 := (ho_19 _ (by omega) (by omega)).trans hc0_8
  have hc1_19 := (ho_19 _ (by omega) (by omega)).trans hc1_8
  have hq0_19 := zp_o ho_19 hn_8 (by omega)
  have hq2_19 := zp_o ho_19 hq2_8 (by omega)
  have hq3_19 := zp_o ho_19 hq3_8 (by omega)
  show Z _ _ _ _ _ _ _ _ 22 _ []
  exact z_vret C ⟨rfl, rfl, ⟨hc0_19, hq0_19, hn_19⟩, zoutR_tr (zoutR_tr zoutR_rf (zout_R ho_8 (by omega) (by omega))) (zout_R ho_19 (by omega) (by omega))⟩ d_F_copy_22
set_option maxHeartbeats 4000000 in
/-- Form.isSame -/
theorem f_isSame (E : zE) (l : Launch) (sz : Nat) (M : zM) {q kn kd : Nat} {N D : PS} (h : zf E M q kn kd N D) {r km ke : Nat} {A B : PS} (g : zf E M r km ke A B) : zMet E l y_F_isSame c_F_isSame 2 (some .boolean) { frames := 2, cells := 0, slots := 0, locals := 43 } 0 0 [.ref q, .ref r] sz M (fun v s M' => sz = s ∧ M = M' ∧ (((N = A ∧ D = B) ∧ some (.int 1) = v) ∨ (¬ (N = A ∧ D = B) ∧ some (.int 0) = v))) := by
  refine zMet.ofZ (by decide) (Nat.le_of_ble_eq_true rfl) ?_
  intro X hl hini C
  show Z X E 2 _ 0 0 sz M 0 [(0, .ref q), (1, .ref r)] []
  refine z_aload_n C d_F_isSame_0 rfl rfl ?_
  refine z_get C in_F h.1 rfl 0 (by decide) fl_F_14 rfl rfl d_F_isSame_1 ?_
  refine z_aload_n C d_F_isSame_4 rfl rfl ?_
  refine z_get C in_F g.1 rfl 0 (by decide) fl_F_14 rfl rfl d_F_isSame_5 ?_
  refine z_callV (rest := []) (n := 1) (As := [.ref (r + 1)]) C (p_isSame E X.2.1 sz _ h.2.1 g.2.1) ⟨z_cb C k_P_isSame ml_F_47 ii_P rfl rfl (by decide +kernel) ⟨by decide, by decide⟩, C.2.2.2.2.1 _ im_P_isSame, C.2.2.2.2.1 _ se_P_isSame⟩ (zp_c0 h.2.1) rfl rfl rfl (Nat.le_of_ble_eq_true rfl) d_F_isSame_8 ⟨by decide, by decide⟩ ?_
  intro v_8 s_8 M_8 hp_8
  obtain ⟨rfl, rfl, ⟨e_8, rfl⟩ | ⟨e_8, rfl⟩⟩ := hp_8
  · show Z _ _ _ _ _ _ _ _ 11 _ [.int 1]
    refine z_if_eq (tgt := 32) C d_F_isSame_11 (by decide) (fun c_11 => absurd c_11 (by decide)) (fun _ => ?_)
    refine z_aload_n C d_F_isSame_14 rfl rfl ?_
    refine z_get C in_F h.1 rfl 1 (by decide) fl_F_20 rfl rfl d_F_isSame_15 ?_
    refine z_aload_n C d_F_isSame_18 rfl rfl ?_
    refine z_get C in_F g.1 rfl 1 (by decide) fl_F_20 rfl rfl d_F_isSame_19 ?_
    refine z_callV (rest := []) (n := 1) (As := [.ref (r + 3)]) C (p_isSame E X.2.1 sz _ h.2.2 g.2.2) ⟨z_cb C k_P_isSame ml_F_47 ii_P rfl rfl (by decide +kernel) ⟨by decide, by decide⟩, C.2.2.2.2.1 _ im_P_isSame, C.2.2.2.2.1 _ se_P_isSame⟩ (zp_c0 h.2.2) rfl rfl rfl (Nat.le_of_ble_eq_true rfl) d_F_isSame_22 ⟨by decide, by decide⟩ ?_
    intro v_22 s_22 M_22 hp_22
    obtain ⟨rfl, rfl, ⟨e_22, rfl⟩ | ⟨e_22, rfl⟩⟩ := hp_22
    · show Z _ _ _ _ _ _ _ _ 25 _ [.int 1]
      refine z_if_eq (tgt := 32) C d_F_isSame_25 (by decide) (fun c_25 => absurd c_25 (by decide)) (fun _ => ?_)
      refine z_iconst (v := 1) C d_F_isSame_28 (by decide) ?_
      refine z_goto (tgt := 33) C d_F_isSame_29 (by decide) ?_
      exact z_zret C rfl ⟨rfl, rfl, Or.inl ⟨⟨e_8, e_22⟩, rfl⟩⟩ d_F_isSame_33
    · show Z _ _ _ _ _ _ _ _ 25 _ [.int 0]
      refine z_if_eq (tgt := 32) C d_F_isSame_25 (by decide) (fun _ => ?_) (fun c_25 => absurd (by decide) c_25)
      refine z_iconst (v := 0) C d_F_isSame_32 (by decide) ?_
      exact z_zret C rfl ⟨rfl, rfl, Or.inr ⟨by first | exact fun q => e_8 q.1 | exact fun q => e_22 q.2, rfl⟩⟩ d_F_isSame_33
  · show Z _ _ _ _ _ _ _ _ 11 _ [.int 0]
    refine z_if_eq (tgt := 32) C d_F_isSame_11 (by decide) (fun _ => ?_) (fun c_11 => absurd (by decide) c_11)
    refine z_iconst (v := 0) C d_F_isSame_32 (by decide) ?_
    exact z_zret C rfl ⟨rfl, rfl, Or.inr ⟨by first | exact fun q => e_8 q.1 | exact fun q => e_22 q.2, rfl⟩⟩ d_F_isSame_33
end
section
set_option maxHeartbeats 4000000 in
/-- Workshop.add -/
theorem w_add (E : zE) (l : Launch) (sz : Nat) (M : zM) {w kw1 kw3 : Nat} {Pw1 Pw3 : PS} (hw : zsh E M w kw1 kw3 Pw1 Pw3) {q1 kn1 kd1 : Nat} {N1 D1 : PS} (h1 : zf E M q1 kn1 kd1 N1 D1) (a1 : q1 + 5 ≤ w ∨ w + 15 ≤ q1){q2 kn2 kd2 : Nat} {N2 D2 : PS} (h2 : zf E M q2 kn2 kd2 N2 D2) (a2 : q2 + 5 ≤ w ∨ w + 15 ≤ q2) (c : FF) : zMet E l y_W_add c_W_add 4 none { frames := 2, cells := 0, slots := 0, locals := 46 } 0 0 [.ref w, .ref q1, .ref q2, .int (fI c)] sz M (fun v s M' => none = v ∧ sz = s ∧ (∃ x y, zsh E M' w x y (ps_add (ps_mul N1 D2) (ps_mul (ps_C c) (ps_mul N2 D1))) (ps_mul D1 D2)) ∧ zoutR M M' (w + 1) (w + 15)) := by
  obtain ⟨hw0, hw1, hw3, ⟨kw5, Pw5, hw5⟩, ⟨kw7, Pw7, hw7⟩, ⟨kw9, Pw9, hw9⟩, ⟨kw11, Pw11, hw11⟩, ⟨kw13, Pw13, hw13⟩⟩ := id hw
  refine zMet.ofZ (by decide) (Nat.le_of_ble_eq_true rfl) ?_
  intro X hl hini C
  show Z X E 4 _ 0 0 sz M 0 [(0, .ref w), (1, .ref q1), (2, .ref q2), (3, .int (fI c))] []
  refine z_aload_n C d_W_add_0 rfl rfl ?_
  refine z_get C in_W hw0 rfl 0 (by decide) fl_W_16 rfl rfl d_W_add_1 ?_
  refine z_aload_n C d_W_add_4 rfl rfl ?_
  refine z_getN C in_F h1.1 rfl 0 (by decide) fl_W_38 rfl rfl d_W_add_5 ?_
  refine z_aload_n C d_W_add_8 rfl rfl ?_
  refine z_getN C in_F h2.1 rfl 1 (by decide) fl_W_41 rfl rfl d_W_add_9 ?_
  refine z_callV (rest := []) (n := 2) (As := [.ref (q1 + 1), .ref (q2 + 3)]) C (p_setProduct E X.2.1 sz _ hw1 h1.2.1 h2.2.2 (by omega) (by omega) (by have := zp_lt h1.2.1; have := zp_lt h2.2.2; omega)) ⟨z_cb C k_P_setProduct ml_W_42 ii_P rfl rfl (by decide +kernel) ⟨by decide, by decide⟩, C.2.2.2.2.1 _ im_P_setProduct, C.2.2.2.2.1 _ se_P_setProduct⟩ (zp_c0 hw1) rfl rfl rfl (Nat.le_of_ble_eq_true rfl) d_W_add_12 ⟨by decide, by decide⟩ ?_
  intro v_12 s_12 M_12 hp_12
  obtain ⟨rfl, rfl, ⟨k_12, hn_12⟩, ho_12⟩ := hp_12
  have hc0_12 := (ho_12 _ (by omega) (by omega)).trans hw0
  have hc1_12 := (ho_12 _ (by omega) (by omega)).trans h1.1
  have hc2_12 := (ho_12 _ (by omega) (by omega)).trans h2.1
  have hq1_12 := zp_o ho_12 hw3 (by omega)
  have hq2_12 := zp_o ho_12 hw5 (by omega)
  have hq3_12 := zp_o ho_12 hw7 (by omega)
  have hq4_12 := zp_o ho_12 hw9 (by omega)
  have hq5_12 := zp_o ho_12 hw11 (by omega)
  have hq6_12 := zp_o ho_12 hw13 (by omega)
  have hq7_12 := zp_o ho_12 h1.2.1 (by omega)
  have hq8_12 := zp_o ho_12 h1.2.2 (by omega)
  have hq9_12 := zp_o ho_12 h2.2.1 (by omega)
  have hq10_12 := zp_o ho_12 h2.2.2 (by omega)
  show Z _ _ _ _ _ _ _ _ 15 _ []
  refine z_aload_n C d_W_add_15 rfl rfl ?_
  refine z_get C in_W hc0_12 rfl 2 (by decide) fl_W_23 rfl rfl d_W_add_16 ?_
  refine z_aload_n C d_W_add_19 rfl rfl ?_
  refine z_getN C in_F hc2_12 rfl 0 (by decide) fl_W_38 rfl rfl d_W_add_20 ?_
  refine z_aload_n C d_W_add_23 rfl rfl ?_
  refine z_getN C in_F hc1_12 rfl 1 (by decide) fl_W_41 rfl rfl d_W_add_24 ?_
  refine z_callV (rest := []) (n := 2) (As := [.ref (q2 + 1), .ref (q1 + 3)]) C (p_setProduct E X.2.1 sz _ hq2_12 hq9_12 hq8_12 (by omega) (by omega) (by have := zp_lt hq9_12; have := zp_lt hq8_12; omega)) ⟨z_cb C k_P_setProduct ml_W_42 ii_P rfl rfl (by decide +kernel) ⟨by decide, by decide⟩, C.2.2.2.2.1 _ im_P_setProduct, C.2.2.2.2.1 _ se_P_setProduct⟩ (zp_c0 hq2_12) rfl rfl rfl (Nat.le_of_ble_eq_true rfl) d_W_add_27 ⟨by decide, by decide⟩ ?_
  intro v_27 s_27 M_27 hp_27
  obtain ⟨rfl, rfl, ⟨k_27, hn_27⟩, ho_27⟩ := hp_27
  have hc0_27 := (ho_27 _ (by omega) (by omega)).trans hc0_12
  have hc1_27 := (ho_27 _ (by omega) (by omega)).trans hc1_12
  have hc2_27 := (ho_27 _ (by omega) (by omega)).trans hc2_12
  have hq0_27 := zp_o ho_27 hn_12 (by omega)
  have hq1_27 := zp_o ho_27 hq1_12 (by omega)
  have hq3_27 := zp_o ho_27 hq3_12 (by omega)
  have hq4_27 := zp_o ho_27 hq4_12 (by omega)
  have hq5_27 := zp_o ho_27 hq5_12 (by omega)
  have hq6_27 := zp_o ho_27 hq6_12 (by omega)
  have hq7_27 := zp_o ho_27 hq7_12 (by omega)
  have hq8_27 := zp_o ho_27 hq8_12 (by omega)
  have hq9_27 := zp_o ho_27 hq9_12 (by omega)
  have hq10_27 := zp_o ho_27 hq10_12 (by omega)
  show Z _ _ _ _ _ _ _ _ 30 _ []
  refine z_aload_n C d_W_add_30 rfl rfl ?_
  refine z_get C in_W hc0_27 rfl 0 (by decide) fl_W_16 rfl rfl d_W_add_31 ?_
  refine z_aload_n C d_W_add_34 rfl rfl ?_
  refine z_get C in_W hc0_27 rfl 2 (by decide) fl_W_23 rfl rfl d_W_add_35 ?_
  refine z_iload_n C d_W_add_38 rfl rfl ?_
  refine z_callV (rest := []) (n := 2) (As := [.ref (w + 5), .int (fI c)]) C (p_addMultiple E X.2.1 sz _ hq0_27 hn_27 (by omega) (by have := zp_lt hn_27; omega) c) ⟨z_cb C k_P_addMultiple ml_W_46 ii_P rfl rfl (by decide +kernel) ⟨by decide, by decide⟩, C.2.2.2.2.1 _ im_P_addMultiple, C.2.2.2.2.1 _ se_P_addMultiple⟩ (zp_c0 hq0_27) rfl rfl rfl (Nat.le_of_ble_eq_true rfl) d_W_add_39 ⟨by decide, by decide⟩ ?_
  intro v_39 s_39 M_39 hp_39
  obtain ⟨rfl, rfl, ⟨k_39, hn_39⟩, ho_39⟩ := hp_39
  have hc0_39 := (ho_39 _ (by omega) (by omega)).trans hc0_27
  have hc1_39 := (ho_39 _ (by omega) (by omega)).trans hc1_27
  have hc2_39 := (ho_39 _ (by omega) (by omega)).trans hc2_27
  have hq1_39 := zp_o ho_39 hq1_27 (by omega)
  have hq2_39 := zp_o ho_39 hn_27 (by omega)
  have hq3_39 := zp_o ho_39 hq3_27 (by omega)
  have hq4_39 := zp_o ho_39 hq4_27 (by omega)
  have hq5_39 := zp_o ho_39 hq5_27 (by omega)
  have hq6_39 := zp_o ho_39 hq6_27 (by omega)
  have hq7_39 := zp_o ho_39 hq7_27 (by omega)
  have hq8_39 := zp_o ho_39 hq8_27 (by omega)
  have hq9_39 := zp_o ho_39 hq9_27 (by omega)
  have hq10_39 := zp_o ho_39 hq10_27 (by omega)
  show Z _ _ _ _ _ _ _ _ 42 _ []
  refine z_aload_n C d_W_add_42 rfl rfl ?_
  refine z_get C in_W hc0_39 rfl 1 (by decide) fl_W_20 rfl rfl d_W_add_43 ?_
  refine z_aload_n C d_W_add_46 rfl rfl ?_
  refine z_getN C in_F hc1_39 rfl 1 (by decide) fl_W_41 rfl rfl d_W_add_47 ?_
  refine z_aload_n C d_W_add_50 rfl rfl ?_
  refine z_getN C in_F hc2_39 rfl 1 (by decide) fl_W_41 rfl rfl d_W_add_51 ?_
  refine z_callV (rest := []) (n := 2) (As := [.ref (q1 + 3), .ref (q2 + 3)]) C (p_setProduct E X.2.1 sz _ hq1_39 hq8_39 hq10_39 (by omega) (by omega) (by have := zp_lt hq8_39; have := zp_lt hq10_39; omega)) ⟨z_cb C k_P_setProduct ml_W_42 ii_P rfl rfl (by decide +kernel) ⟨by decide, by decide⟩, C.2.2.2.2.1 _ im_P_setProduct, C.2.2.2.2.1 _ se_P_setProduct⟩ (zp_c0 hq1_39) rfl rfl rfl (Nat.le_of_ble_eq_true rfl) d_W_add_54 ⟨by decide, by decide⟩ ?_
  intro v_54 s_54 M_54 hp_54
  obtain ⟨rfl, rfl, ⟨k_54, hn_54⟩, ho_54⟩ := hp_54
  have hc0_54 := (ho_54 _ (by omega) (by omega)).trans hc0_39
  have hc1_54 := (ho_54 _ (by omega) (by omega)).trans hc1_39
  have hc2_54 := (ho_54 _ (by omega) (by omega)).trans hc2_39
  have hq0_54 := zp_o ho_54 hn_39 (by omega)
  have hq2_54 := zp_o ho_54 hq2_39 (by omega)
  have hq3_54 := zp_o ho_54 hq3_39 (by omega)
  have hq4_54 := zp_o ho_54 hq4_39 (by omega)
  have hq5_54 := zp_o ho_54 hq5_39 (by omega)
  have hq6_54 := zp_o ho_54 hq6_39 (by omega)
  have hq7_54 := zp_o ho_54 hq7_39 (by omega)
  have hq8_54 := zp_o ho_54 hq8_39 (by omega)
  have hq9_54 := zp_o ho_54 hq9_39 (by omega)
  have hq10_54 := zp_o ho_54 hq10_39 (by omega)
  show Z _ _ _ _ _ _ _ _ 57 _ []
  exact z_vret C ⟨rfl, rfl, ⟨_, _, ⟨hc0_54, hq0_54, hn_54, ⟨_, _, hq2_54⟩, ⟨_, _, hq3_54⟩, ⟨_, _, hq4_54⟩, ⟨_, _, hq5_54⟩, ⟨_, _, hq6_54⟩⟩⟩, zoutR_tr (zoutR_tr (zoutR_tr (zoutR_tr zoutR_rf (zout_R ho_12 (by omega) (by omega))) (zout_R ho_27 (by omega) (by omega))) (zout_R ho_39 (by omega) (by omega))) (zout_R ho_54 (by omega) (by omega))⟩ d_W_add_57
set_option maxHeartbeats 4000000 in
/-- Workshop.multiply -/
theorem w_multiply (E : zE) (l : Launch) (sz : Nat) (M : zM) {w kw1 kw3 : Nat} {Pw1 Pw3 : PS} (hw : zsh E M w kw1 kw3 Pw1 Pw3) {q1 kn1 kd1 : Nat} {N1 D1 : PS} (h1 : zf E M q1 kn1 kd1 N1 D1) (a1 : q1 + 5 ≤ w ∨ w + 15 ≤ q1){q2 kn2 kd2 : Nat} {N2 D2 : PS} (h2 : zf E M q2 kn2 kd2 N2 D2) (a2 : q2 + 5 ≤ w ∨ w + 15 ≤ q2) : zMet E l y_W_multiply c_W_multiply 3 none { frames := 2, cells := 0, slots := 0, locals := 46 } 0 0 [.ref w, .ref q1, .ref q2] sz M (fun v s M' => none = v ∧ sz = s ∧ (∃ x y, zsh E M' w x y (ps_mul N1 N2) (ps_mul D1 D2)) ∧ zoutR M M' (w + 1) (w + 15)) := by
  obtain ⟨hw0, hw1, hw3, ⟨kw5, Pw5, hw5⟩, ⟨kw7, Pw7, hw7⟩, ⟨kw9, Pw9, hw9⟩, ⟨kw11, Pw11, hw11⟩, ⟨kw13, Pw13, hw13⟩⟩ := id hw
  refine zMet.ofZ (by decide) (Nat.le_of_ble_eq_true rfl) ?_
  intro X hl hini C
  show Z X E 3 _ 0 0 sz M 0 [(0, .ref w), (1, .ref q1), (2, .ref q2)] []
  refine z_aload_n C d_W_multiply_0 rfl rfl ?_
  refine z_get C in_W hw0 rfl 0 (by decide) fl_W_16 rfl rfl d_W_multiply_1 ?_
  refine z_aload_n C d_W_multiply_4 rfl rfl ?_
  refine z_getN C in_F h1.1 rfl 0 (by decide) fl_W_38 rfl rfl d_W_multiply_5 ?_
  refine z_aload_n C d_W_multiply_8 rfl rfl ?_
  refine z_getN C in_F h2.1 rfl 0 (by decide) fl_W_38 rfl rfl d_W_multiply_9 ?_
  refine z_callV (rest := []) (n := 2) (As := [.ref (q1 + 1), .ref (q2 + 1)]) C (p_setProduct E X.2.1 sz _ hw1 h1.2.1 h2.2.1 (by omega) (by omega) (by have := zp_lt h1.2.1; have := zp_lt h2.2.1; omega)) ⟨z_cb C k_P_setProduct ml_W_42 ii_P rfl rfl (by decide +kernel) ⟨by decide, by decide⟩, C.2.2.2.2.1 _ im_P_setProduct, C.2.2.2.2.1 _ se_P_setProduct⟩ (zp_c0 hw1) rfl rfl rfl (Nat.le_of_ble_eq_true rfl) d_W_multiply_12 ⟨by decide, by decide⟩ ?_
  intro v_12 s_12 M_12 hp_12
  obtain ⟨rfl, rfl, ⟨k_12, hn_12⟩, ho_12⟩ := hp_12
  have hc0_12 := (ho_12 _ (by omega) (by omega)).trans hw0
  have hc1_12 := (ho_12 _ (by omega) (by omega)).trans h1.1
  have hc2_12 := (ho_12 _ (by omega) (by omega)).trans h2.1
  have hq1_12 := zp_o ho_12 hw3 (by omega)
  have hq2_12 := zp_o ho_12 hw5 (by omega)
  have hq3_12 := zp_o ho_12 hw7 (by omega)
  have hq4_12 := zp_o ho_12 hw9 (by omega)
  have hq5_12 := zp_o ho_12 hw11 (by omega)
  have hq6_12 := zp_o ho_12 hw13 (by omega)
  have hq7_12 := zp_o ho_12 h1.2.1 (by omega)
  have hq8_12 := zp_o ho_12 h1.2.2 (by omega)
  have hq9_12 := zp_o ho_12 h2.2.1 (by omega)
  have hq10_12 := zp_o ho_12 h2.2.2 (by omega)
  show Z _ _ _ _ _ _ _ _ 15 _ []
  refine z_aload_n C d_W_multiply_15 rfl rfl ?_
  refine z_get C in_W hc0_12 rfl 1 (by decide) fl_W_20 rfl rfl d_W_multiply_16 ?_
  refine z_aload_n C d_W_multiply_19 rfl rfl ?_
  refine z_getN C in_F hc1_12 rfl 1 (by decide) fl_W_41 rfl rfl d_W_multiply_20 ?_
  refine z_aload_n C d_W_multiply_23 rfl rfl ?_
  refine z_getN C in_F hc2_12 rfl 1 (by decide) fl_W_41 rfl rfl d_W_multiply_24 ?_
  refine z_callV (rest := []) (n := 2) (As := [.ref (q1 + 3), .ref (q2 + 3)]) C (p_setProduct E X.2.1 sz _ hq1_12 hq8_12 hq10_12 (by omega) (by omega) (by have := zp_lt hq8_12; have := zp_lt hq10_12; omega)) ⟨z_cb C k_P_setProduct ml_W_42 ii_P rfl rfl (by decide +kernel) ⟨by decide, by decide⟩, C.2.2.2.2.1 _ im_P_setProduct, C.2.2.2.2.1 _ se_P_setProduct⟩ (zp_c0 hq1_12) rfl rfl rfl (Nat.le_of_ble_eq_true rfl) d_W_multiply_27 ⟨by decide, by decide⟩ ?_
  intro v_27 s_27 M_27 hp_27
  obtain ⟨rfl, rfl, ⟨k_27, hn_27⟩, ho_27⟩ := hp_27
  have hc0_27 := (ho_27 _ (by omega) (by omega)).trans hc0_12
  have hc1_27 := (ho_27 _ (by omega) (by omega)).trans hc1_12
  have hc2_27 := (ho_27 _ (by omega) (by omega)).trans hc2_12
  have hq0_27 := zp_o ho_27 hn_12 (by omega)
  have hq2_27 := zp_o ho_27 hq2_12 (by omega)
  have hq3_27 := zp_o ho_27 hq3_12 (by omega)
  have hq4_27 := zp_o ho_27 hq4_12 (by omega)
  have hq5_27 := zp_o ho_27 hq5_12 (by omega)
  have hq6_27 := zp_o ho_27 hq6_12 (by omega)
  have hq7_27 := zp_o ho_27 hq7_12 (by omega)
  have hq8_27 := zp_o ho_27 hq8_12 (by omega)
  have hq9_27 := zp_o ho_27 hq9_12 (by omega)
  have hq10_27 := zp_o ho_27 hq10_12 (by omega)
  show Z _ _ _ _ _ _ _ _ 30 _ []
  exact z_vret C ⟨rfl, rfl, ⟨_, _, ⟨hc0_27, hq0_27, hn_27, ⟨_, _, hq2_27⟩, ⟨_, _, hq3_27⟩, ⟨_, _, hq4_27⟩, ⟨_, _, hq5_27⟩, ⟨_, _, hq6_27⟩⟩⟩, zoutR_tr (zoutR_tr zoutR_rf (zout_R ho_12 (by omega) (by omega))) (zout_R ho_27 (by omega) (by omega))⟩ d_W_multiply_30
set_option maxHeartbeats 4000000 in
/-- Workshop.divide -/
theorem w_divide (E : zE) (l : Launch) (sz : Nat) (M : zM) {w kw1 kw3 : Nat} {Pw1 Pw3 : PS} (hw : zsh E M w kw1 kw3 Pw1 Pw3) {q1 kn1 kd1 : Nat} {N1 D1 : PS} (h1 : zf E M q1 kn1 kd1 N1 D1) (a1 : q1 + 5 ≤ w ∨ w + 15 ≤ q1){q2 kn2 kd2 : Nat} {N2 D2 : PS} (h2 : zf E M q2 kn2 kd2 N2 D2) (a2 : q2 + 5 ≤ w ∨ w + 15 ≤ q2) : zMet E l y_W_divide c_W_divide 3 (some .int) { frames := 2, cells := 0, slots := 0, locals := 46 } 0 0 [.ref w, .ref q1, .ref q2] sz M (fun v s M' => (kn2 = 0 ∧ some (.int (-5)) = v ∧ sz = s ∧ M = M') ∨ (kn2 ≠ 0 ∧ some (.int 0) = v ∧ sz = s ∧ (∃ x y, zsh E M' w x y (ps_mul N1 D2) (ps_mul D1 N2)) ∧ zoutR M M' (w + 1) (w + 15))) := by
  obtain ⟨hw0, hw1, hw3, ⟨kw5, Pw5, hw5⟩, ⟨kw7, Pw7, hw7⟩, ⟨kw9, Pw9, hw9⟩, ⟨kw11, Pw11, hw11⟩, ⟨kw13, Pw13, hw13⟩⟩ := id hw
  refine zMet.ofZ (by decide) (Nat.le_of_ble_eq_true rfl) ?_
  intro X hl hini C
  show Z X E 3 _ 0 0 sz M 0 [(0, .ref w), (1, .ref q1), (2, .ref q2)] []
  refine z_aload_n C d_W_divide_0 rfl rfl ?_
  refine z_callV (rest := []) (n := 0) (As := []) C (f_isZero E X.2.1 sz _ h2) ⟨z_cb C k_F_isZero ml_W_50 ii_F rfl rfl (by decide +kernel) ⟨by decide, by decide⟩, C.2.2.2.2.1 _ im_F_isZero, C.2.2.2.2.1 _ se_F_isZero⟩ h2.1 rfl rfl rfl (Nat.le_of_ble_eq_true rfl) d_W_divide_1 ⟨by decide, by decide⟩ ?_
  intro v_1 s_1 M_1 hp_1
  obtain ⟨rfl, rfl, rfl⟩ := hp_1
  show Z _ _ _ _ _ _ _ _ 4 _ [.int (if kn2 = 0 then 1 else 0)]
  refine z_if_eq (tgt := 10) C d_W_divide_4 (by decide) (fun c4 => ?_) (fun c4 => ?_)
  · have c4 : kn2 ≠ 0 := fun q => by rw [if_pos q] at c4; exact absurd c4 (by decide)
    refine z_aload_n C d_W_divide_10 rfl rfl ?_
    refine z_get C in_W hw0 rfl 0 (by decide) fl_W_16 rfl rfl d_W_divide_11 ?_
    refine z_aload_n C d_W_divide_14 rfl rfl ?_
    refine z_getN C in_F h1.1 rfl 0 (by decide) fl_W_38 rfl rfl d_W_divide_15 ?_
    refine z_aload_n C d_W_divide_18 rfl rfl ?_
    refine z_getN C in_F h2.1 rfl 1 (by decide) fl_W_41 rfl rfl d_W_divide_19 ?_
    refine z_callV (rest := []) (n := 2) (As := [.ref (q1 + 1), .ref (q2 + 3)]) C (p_setProduct E X.2.1 sz _ hw1 h1.2.1 h2.2.2 (by omega) (by omega) (by have := zp_lt h1.2.1; have := zp_lt h2.2.2; omega)) ⟨z_cb C k_P_setProduct ml_W_42 ii_P rfl rfl (by decide +kernel) ⟨by decide, by decide⟩, C.2.2.2.2.1 _ im_P_setProduct, C.2.2.2.2.1 _ se_P_setProduct⟩ (zp_c0 hw1) rfl rfl rfl (Nat.le_of_ble_eq_true rfl) d_W_divide_22 ⟨by decide, by decide⟩ ?_
    intro v_22 s_22 M_22 hp_22
    obtain ⟨rfl, rfl, ⟨k_22, hn_22⟩, ho_22⟩ := hp_22
    have hc0_22 := (ho_22 _ (by omega) (by omega)).trans hw0
    have hc1_22 := (ho_22 _ (by omega) (by omega)).trans h1.1
    have hc2_22 := (ho_22 _ (by omega) (by omega)).trans h2.1
    have hq1_22 := zp_o ho_22 hw3 (by omega)
    have hq2_22 := zp_o ho_22 hw5 (by omega)
    have hq3_22 := zp_o ho_22 hw7 (by omega)
    have hq4_22 := zp_o ho_22 hw9 (by omega)
    have hq5_22 := zp_o ho_22 hw11 (by omega)
    have hq6_22 := zp_o ho_22 hw13 (by omega)
    have hq7_22 := zp_o ho_22 h1.2.1 (by omega)
    have hq8_22 := zp_o ho_22 h1.2.2 (by omega)
    have hq9_22 := zp_o ho_22 h2.2.1 (by omega)
    have hq10_22 := zp_o ho_22 h2.2.2 (by omega)
    show Z _ _ _ _ _ _ _ _ 25 _ []
    refine z_aload_n C d_W_divide_25 rfl rfl ?_
    refine z_get C in_W hc0_22 rfl 1 (by decide) fl_W_20 rfl rfl d_W_divide_26 ?_
    refine z_aload_n C d_W_divide_29 rfl rfl ?_
    refine z_getN C in_F hc1_22 rfl 1 (by decide) fl_W_41 rfl rfl d_W_divide_30 ?_
    refine z_aload_n C d_W_divide_33 rfl rfl ?_
    refine z_getN C in_F hc2_22 rfl 0 (by decide) fl_W_38 rfl rfl d_W_divide_34 ?_
    refine z_callV (rest := []) (n := 2) (As := [.ref (q1 + 3), .ref (q2 + 1)]) C (p_setProduct E X.2.1 sz _ hq1_22 hq8_22 hq9_22 (by omega) (by omega) (by have := zp_lt hq8_22; have := zp_lt hq9_22; omega)) ⟨z_cb C k_P_setProduct ml_W_42 ii_P rfl rfl (by decide +kernel) ⟨by decide, by decide⟩, C.2.2.2.2.1 _ im_P_setProduct, C.2.2.2.2.1 _ se_P_setProduct⟩ (zp_c0 hq1_22) rfl rfl rfl (Nat.le_of_ble_eq_true rfl) d_W_divide_37 ⟨by decide, by decide⟩ ?_
    intro v_37 s_37 M_37 hp_37
    obtain ⟨rfl, rfl, ⟨k_37, hn_37⟩, ho_37⟩ := hp_37
    have hc0_37 := (ho_37 _ (by omega) (by omega)).trans hc0_22
    have hc1_37 := (ho_37 _ (by omega) (by omega)).trans hc1_22
    have hc2_37 := (ho_37 _ (by omega) (by omega)).trans hc2_22
    have hq0_37 := zp_o ho_37 hn_22 (by omega)
    have hq2_37 := zp_o ho_37 hq2_22 (by omega)
    have hq3_37 := zp_o ho_37 hq3_22 (by omega)
    have hq4_37 := zp_o ho_37 hq4_22 (by omega)
    have hq5_37 := zp_o ho_37 hq5_22 (by omega)
    have hq6_37 := zp_o ho_37 hq6_22 (by omega)
    have hq7_37 := zp_o ho_37 hq7_22 (by omega)
    have hq8_37 := zp_o ho_37 hq8_22 (by omega)
    have hq9_37 := zp_o ho_37 hq9_22 (by omega)
    have hq10_37 := zp_o ho_37 hq10_22 (by omega)
    show Z _ _ _ _ _ _ _ _ 40 _ []
    refine z_iconst (v := 0) C d_W_divide_40 (by decide) ?_
    exact z_iret C (Or.inr ⟨c4, rfl, rfl, ⟨_, _, ⟨hc0_37, hq0_37, hn_37, ⟨_, _, hq2_37⟩, ⟨_, _, hq3_37⟩, ⟨_, _, hq4_37⟩, ⟨_, _, hq5_37⟩, ⟨_, _, hq6_37⟩⟩⟩, zoutR_tr (zoutR_tr zoutR_rf (zout_R ho_22 (by omega) (by omega))) (zout_R ho_37 (by omega) (by omega))⟩) d_W_divide_41
  · have c4 : kn2 = 0 := by
      by_cases q : kn2 = 0
      · exact q
      · exact absurd (if_neg q) c4
    refine z_bipush (v := -5) C d_W_divide_7 (by decide) ?_
    exact z_iret C (Or.inl ⟨c4, rfl, rfl, rfl⟩) d_W_divide_9
set_option maxHeartbeats 4000000 in
/-- Workshop.negate -/
theorem w_negate (E : zE) (l : Launch) (sz : Nat) (M : zM) {w kw1 kw3 : Nat} {Pw1 Pw3 : PS} (hw : zsh E M w kw1 kw3 Pw1 Pw3) {q1 kn1 kd1 : Nat} {N1 D1 : PS} (h1 : zf E M q1 kn1 kd1 N1 D1) (a1 : q1 + 5 ≤ w ∨ w + 15 ≤ q1) : zMet E l y_W_negate c_W_negate 2 none { frames := 2, cells := 0, slots := 0, locals := 44 } 0 0 [.ref w, .ref q1] sz M (fun v s M' => none = v ∧ sz = s ∧ (∃ x y, zsh E M' w x y (ps_mul (ps_C 10006) N1) D1) ∧ zoutR M M' (w + 1) (w + 15)) := by
  obtain ⟨hw0, hw1, hw3, ⟨kw5, Pw5, hw5⟩, ⟨kw7, Pw7, hw7⟩, ⟨kw9, Pw9, hw9⟩, ⟨kw11, Pw11, hw11⟩, ⟨kw13, Pw13, hw13⟩⟩ := id hw
  refine zMet.ofZ (by decide) (Nat.le_of_ble_eq_true rfl) ?_
  intro X hl hini C
  show Z X E 2 _ 0 0 sz M 0 [(0, .ref w), (1, .ref q1)] []
  refine z_aload_n C d_W_negate_0 rfl rfl ?_
  refine z_get C in_W hw0 rfl 0 (by decide) fl_W_16 rfl rfl d_W_negate_1 ?_
  refine z_aload_n C d_W_negate_4 rfl rfl ?_
  refine z_getN C in_F h1.1 rfl 0 (by decide) fl_W_38 rfl rfl d_W_negate_5 ?_
  refine z_callV (rest := []) (n := 1) (As := [.ref (q1 + 1)]) C (p_copy E X.2.1 sz _ hw1 h1.2.1 (by omega) (by have := zp_lt h1.2.1; omega)) ⟨z_cb C k_P_copy ml_W_54 ii_P rfl rfl (by decide +kernel) ⟨by decide, by decide⟩, C.2.2.2.2.1 _ im_P_copy, C.2.2.2.2.1 _ se_P_copy⟩ (zp_c0 hw1) rfl rfl rfl (Nat.le_of_ble_eq_true rfl) d_W_negate_8 ⟨by decide, by decide⟩ ?_
  intro v_8 s_8 M_8 hp_8
  obtain ⟨rfl, rfl, hn_8, ho_8⟩ := hp_8
  have hc0_8 := (ho_8 _ (by omega) (by omega)).trans hw0
  have hc1_8 := (ho_8 _ (by omega) (by omega)).trans h1.1
  have hq1_8 := zp_o ho_8 hw3 (by omega)
  have hq2_8 := zp_o ho_8 hw5 (by omega)
  have hq3_8 := zp_o ho_8 hw7 (by omega)
  have hq4_8 := zp_o ho_8 hw9 (by omega)
  have hq5_8 := zp_o ho_8 hw11 (by omega)
  have hq6_8 := zp_o ho_8 hw13 (by omega)
  have hq7_8 := zp_o ho_8 h1.2.1 (by omega)
  have hq8_8 := zp_o ho_8 h1.2.2 (by omega)
  show Z _ _ _ _ _ _ _ _ 11 _ []
  refine z_aload_n C d_W_negate_11 rfl rfl ?_
  refine z_get C in_W hc0_8 rfl 0 (by decide) fl_W_16 rfl rfl d_W_negate_12 ?_
  refine z_sipush (v := fI 10006) C d_W_negate_15 (by decide) ?_
  refine z_callV (rest := []) (n := 1) (As := [.int (fI 10006)]) C (p_scale E X.2.1 sz _ hn_8 10006) ⟨z_cb C k_P_scale ml_W_58 ii_P rfl rfl (by decide +kernel) ⟨by decide, by decide⟩, C.2.2.2.2.1 _ im_P_scale, C.2.2.2.2.1 _ se_P_scale⟩ (zp_c0 hn_8) rfl rfl rfl (Nat.le_of_ble_eq_true rfl) d_W_negate_18 ⟨by decide, by decide⟩ ?_
  intro v_18 s_18 M_18 hp_18
  obtain ⟨rfl, rfl, ⟨k_18, hn_18⟩, ho_18⟩ := hp_18
  have hc0_18 := (ho_18 _ (by omega) (by omega)).trans hc0_8
  have hc1_18 := (ho_18 _ (by omega) (by omega)).trans hc1_8
  have hq1_18 := zp_o ho_18 hq1_8 (by omega)
  have hq2_18 := zp_o ho_18 hq2_8 (by omega)
  have hq3_18 := zp_o ho_18 hq3_8 (by omega)
  have hq4_18 := zp_o ho_18 hq4_8 (by omega)
  have hq5_18 := zp_o ho_18 hq5_8 (by omega)
  have hq6_18 := zp_o ho_18 hq6_8 (by omega)
  have hq7_18 := zp_o ho_18 hq7_8 (by omega)
  have hq8_18 := zp_o ho_18 hq8_8 (by omega)
  show Z _ _ _ _ _ _ _ _ 21 _ []
  refine z_aload_n C d_W_negate_21 rfl rfl ?_
  refine z_get C in_W hc0_18 rfl 1 (by decide) fl_W_20 rfl rfl d_W_negate_22 ?_
  refine z_aload_n C d_W_negate_25 rfl rfl ?_
  refine z_getN C in_F hc1_18 rfl 1 (by decide) fl_W_41 rfl rfl d_W_negate_26 ?_
  refine z_callV (rest := []) (n := 1) (As := [.ref (q1 + 3)]) C (p_copy E X.2.1 sz _ hq1_18 hq8_18 (by omega) (by have := zp_lt hq8_18; omega)) ⟨z_cb C k_P_copy ml_W_54 ii_P rfl rfl (by decide +kernel) ⟨by decide, by decide⟩, C.2.2.2.2.1 _ im_P_copy, C.2.2.2.2.1 _ se_P_copy⟩ (zp_c0 hq1_18) rfl rfl rfl (Nat.le_of_ble_eq_true rfl) d_W_negate_29 ⟨by decide, by decide⟩ ?_
  intro v_29 s_29 M_29 hp_29
  obtain ⟨rfl, rfl, hn_29, ho_29⟩ := hp_29
  have hc0_29 := (ho_29 _ (by omega) (by omega)).trans hc0_18
  have hc1_29 := (ho_29 _ (by omega) (by omega)).trans hc1_18
  have hq0_29 := zp_o ho_29 hn_18 (by omega)
  have hq2_29 := zp_o ho_29 hq2_18 (by omega)
  have hq3_29 := zp_o ho_29 hq3_18 (by omega)
  have hq4_29 := zp_o ho_29 hq4_18 (by omega)
  have hq5_29 := zp_o ho_29 hq5_18 (by omega)
  have hq6_29 := zp_o ho_29 hq6_18 (by omega)
  have hq7_29 := zp_o ho_29 hq7_18 (by omega)
  have hq8_29 := zp_o ho_29 hq8_18 (by omega)
  show Z _ _ _ _ _ _ _ _ 32 _ []
  exact z_vret C ⟨rfl, rfl, ⟨_, _, ⟨hc0_29, hq0_29, hn_29, ⟨_, _, hq2_29⟩, ⟨_, _, hq3_29⟩, ⟨_, _, hq4_29⟩, ⟨_, _, hq5_29⟩, ⟨_, _, hq6_29⟩⟩⟩, zoutR_tr (zoutR_tr (zoutR_tr zoutR_rf (zout_R ho_8 (by omega) (by omega))) (zout_R ho_18 (by omega) (by omega))) (zout_R ho_29 (by omega) (by omega))⟩ d_W_negate_32
set_option maxHeartbeats 4000000 in
/-- Workshop.derive -/
theorem w_derive (E : zE) (l : Launch) (sz : Nat) (M : zM) {w kw1 kw3 : Nat} {Pw1 Pw3 : PS} (hw : zsh E M w kw1 kw3 Pw1 Pw3) {q1 kn1 kd1 : Nat} {N1 D1 : PS} (h1 : zf E M q1 kn1 kd1 N1 D1) (a1 : q1 + 5 ≤ w ∨ w + 15 ≤ q1) : zMet E l y_W_derive c_W_derive 2 none { frames := 2, cells := 0, slots := 0, locals := 46 } 0 0 [.ref w, .ref q1] sz M (fun v s M' => none = v ∧ sz = s ∧ (∃ x y, zsh E M' w x y (ps_add (ps_mul (ps_der N1) D1) (ps_mul (ps_C 10006) (ps_mul N1 (ps_der D1)))) (ps_mul D1 D1)) ∧ zoutR M M' (w + 1) (w + 15)) := by
  obtain ⟨hw0, hw1, hw3, ⟨kw5, Pw5, hw5⟩, ⟨kw7, Pw7, hw7⟩, ⟨kw9, Pw9, hw9⟩, ⟨kw11, Pw11, hw11⟩, ⟨kw13, Pw13, hw13⟩⟩ := id hw
  have b1 := zp_lt h1.2.1
  have b2 := zp_lt h1.2.2
  refine zMet.ofZ (by decide) (Nat.le_of_ble_eq_true rfl) ?_
  intro X hl hini C
  show Z X E 2 _ 0 0 sz M 0 [(0, .ref w), (1, .ref q1)] []
  refine z_aload_n C d_W_derive_0 rfl rfl ?_
  refine z_get C in_W hw0 rfl 2 (by decide) fl_W_23 rfl rfl d_W_derive_1 ?_
  refine z_aload_n C d_W_derive_4 rfl rfl ?_
  refine z_getN C in_F h1.1 rfl 0 (by decide) fl_W_38 rfl rfl d_W_derive_5 ?_
  refine z_callV (rest := []) (n := 1) (As := [.ref (q1 + 1)]) C (p_setDerivative E X.2.1 sz _ hw5 h1.2.1 (by omega) (by have := zp_lt h1.2.1; omega)) ⟨z_cb C k_P_setDerivative ml_W_61 ii_P rfl rfl (by decide +kernel) ⟨by decide, by decide⟩, C.2.2.2.2.1 _ im_P_setDerivative, C.2.2.2.2.1 _ se_P_setDerivative⟩ (zp_c0 hw5) rfl rfl rfl (Nat.le_of_ble_eq_true rfl) d_W_derive_8 ⟨by decide, by decide⟩ ?_
  intro v_8 s_8 M_8 hp_8
  obtain ⟨rfl, rfl, ⟨k_8, hn_8⟩, ho_8⟩ := hp_8
  have hc0_8 := (ho_8 _ (by omega) (by omega)).trans hw0
  have hc1_8 := (ho_8 _ (by omega) (by omega)).trans h1.1
  have hq0_8 := zp_o ho_8 hw1 (by omega)
  have hq1_8 := zp_o ho_8 hw3 (by omega)
  have hq3_8 := zp_o ho_8 hw7 (by omega)
  have hq4_8 := zp_o ho_8 hw9 (by omega)
  have hq5_8 := zp_o ho_8 hw11 (by omega)
  have hq6_8 := zp_o ho_8 hw13 (by omega)
  have hq7_8 := zp_o ho_8 h1.2.1 (by omega)
  have hq8_8 := zp_o ho_8 h1.2.2 (by omega)
  show Z _ _ _ _ _ _ _ _ 11 _ []
  refine z_aload_n C d_W_derive_11 rfl rfl ?_
  refine z_get C in_W hc0_8 rfl 0 (by decide) fl_W_16 rfl rfl d_W_derive_12 ?_
  refine z_aload_n C d_W_derive_15 rfl rfl ?_
  refine z_get C in_W hc0_8 rfl 2 (by decide) fl_W_23 rfl rfl d_W_derive_16 ?_
  refine z_aload_n C d_W_derive_19 rfl rfl ?_
  refine z_getN C in_F hc1_8 rfl 1 (by decide) fl_W_41 rfl rfl d_W_derive_20 ?_
  refine z_callV (rest := []) (n := 2) (As := [.ref (w + 5), .ref (q1 + 3)]) C (p_setProduct E X.2.1 sz _ hq0_8 hn_8 hq8_8 (by omega) (by omega) (by have := zp_le hn_8 (der_z (m := 12) (zp_pol h1.2.1).1 (by omega)); omega)) ⟨z_cb C k_P_setProduct ml_W_42 ii_P rfl rfl (by decide +kernel) ⟨by decide, by decide⟩, C.2.2.2.2.1 _ im_P_setProduct, C.2.2.2.2.1 _ se_P_setProduct⟩ (zp_c0 hq0_8) rfl rfl rfl (Nat.le_of_ble_eq_true rfl) d_W_derive_23 ⟨by decide, by decide⟩ ?_
  intro v_23 s_23 M_23 hp_23
  obtain ⟨rfl, rfl, ⟨k_23, hn_23⟩, ho_23⟩ := hp_23
  have hc0_23 := (ho_23 _ (by omega) (by omega)).trans hc0_8
  have hc1_23 := (ho_23 _ (by omega) (by omega)).trans hc1_8
  have hq1_23 := zp_o ho_23 hq1_8 (by omega)
  have hq2_23 := zp_o ho_23 hn_8 (by omega)
  have hq3_23 := zp_o ho_23 hq3_8 (by omega)
  have hq4_23 := zp_o ho_23 hq4_8 (by omega)
  have hq5_23 := zp_o ho_23 hq5_8 (by omega)
  have hq6_23 := zp_o ho_23 hq6_8 (by omega)
  have hq7_23 := zp_o ho_23 hq7_8 (by omega)
  have hq8_23 := zp_o ho_23 hq8_8 (by omega)
  show Z _ _ _ _ _ _ _ _ 26 _ []
  refine z_aload_n C d_W_derive_26 rfl rfl ?_
  refine z_get C in_W hc0_23 rfl 2 (by decide) fl_W_23 rfl rfl d_W_derive_27 ?_
  refine z_aload_n C d_W_derive_30 rfl rfl ?_
  refine z_getN C in_F hc1_23 rfl 1 (by decide) fl_W_41 rfl rfl d_W_derive_31 ?_
  refine z_callV (rest := []) (n := 1) (As := [.ref (q1 + 3)]) C (p_setDerivative E X.2.1 sz _ hq2_23 hq8_23 (by omega) (by have := zp_lt hq8_23; omega)) ⟨z_cb C k_P_setDerivative ml_W_61 ii_P rfl rfl (by decide +kernel) ⟨by decide, by decide⟩, C.2.2.2.2.1 _ im_P_setDerivative, C.2.2.2.2.1 _ se_P_setDerivative⟩ (zp_c0 hq2_23) rfl rfl rfl (Nat.le_of_ble_eq_true rfl) d_W_derive_34 ⟨by decide, by decide⟩ ?_
  intro v_34 s_34 M_34 hp_34
  obtain ⟨rfl, rfl, ⟨k_34, hn_34⟩, ho_34⟩ := hp_34
  have hc0_34 := (ho_34 _ (by omega) (by omega)).trans hc0_23
  have hc1_34 := (ho_34 _ (by omega) (by omega)).trans hc1_23
  have hq0_34 := zp_o ho_34 hn_23 (by omega)
  have hq1_34 := zp_o ho_34 hq1_23 (by omega)
  have hq3_34 := zp_o ho_34 hq3_23 (by omega)
  have hq4_34 := zp_o ho_34 hq4_23 (by omega)
  have hq5_34 := zp_o ho_34 hq5_23 (by omega)
  have hq6_34 := zp_o ho_34 hq6_23 (by omega)
  have hq7_34 := zp_o ho_34 hq7_23 (by omega)
  have hq8_34 := zp_o ho_34 hq8_23 (by omega)
  show Z _ _ _ _ _ _ _ _ 37 _ []
  refine z_aload_n C d_W_derive_37 rfl rfl ?_
  refine z_get C in_W hc0_34 rfl 3 (by decide) fl_W_26 rfl rfl d_W_derive_38 ?_
  refine z_aload_n C d_W_derive_41 rfl rfl ?_
  refine z_getN C in_F hc1_34 rfl 0 (by decide) fl_W_38 rfl rfl d_W_derive_42 ?_
  refine z_aload_n C d_W_derive_45 rfl rfl ?_
  refine z_get C in_W hc0_34 rfl 2 (by decide) fl_W_23 rfl rfl d_W_derive_46 ?_
  refine z_callV (rest := []) (n := 2) (As := [.ref (q1 + 1), .ref (w + 5)]) C (p_setProduct E X.2.1 sz _ hq3_34 hq7_34 hn_34 (by omega) (by omega) (by have := zp_le hn_34 (der_z (m := 12) (zp_pol h1.2.2).1 (by omega)); omega)) ⟨z_cb C k_P_setProduct ml_W_42 ii_P rfl rfl (by decide +kernel) ⟨by decide, by decide⟩, C.2.2.2.2.1 _ im_P_setProduct, C.2.2.2.2.1 _ se_P_setProduct⟩ (zp_c0 hq3_34) rfl rfl rfl (Nat.le_of_ble_eq_true rfl) d_W_derive_49 ⟨by decide, by decide⟩ ?_
  intro v_49 s_49 M_49 hp_49
  obtain ⟨rfl, rfl, ⟨k_49, hn_49⟩, ho_49⟩ := hp_49
  have hc0_49 := (ho_49 _ (by omega) (by omega)).trans hc0_34
  have hc1_49 := (ho_49 _ (by omega) (by omega)).trans hc1_34
  have hq0_49 := zp_o ho_49 hq0_34 (by omega)
  have hq1_49 := zp_o ho_49 hq1_34 (by omega)
  have hq2_49 := zp_o ho_49 hn_34 (by omega)
  have hq4_49 := zp_o ho_49 hq4_34 (by omega)
  have hq5_49 := zp_o ho_49 hq5_34 (by omega)
  have hq6_49 := zp_o ho_49 hq6_34 (by omega)
  have hq7_49 := zp_o ho_49 hq7_34 (by omega)
  have hq8_49 := zp_o ho_49 hq8_34 (by omega)
  show Z _ _ _ _ _ _ _ _ 52 _ []
  refine z_aload_n C d_W_derive_52 rfl rfl ?_
  refine z_get C in_W hc0_49 rfl 0 (by decide) fl_W_16 rfl rfl d_W_derive_53 ?_
  refine z_aload_n C d_W_derive_56 rfl rfl ?_
  refine z_get C in_W hc0_49 rfl 3 (by decide) fl_W_26 rfl rfl d_W_derive_57 ?_
  refine z_sipush (v := fI 10006) C d_W_derive_60 (by decide) ?_
  refine z_callV (rest := []) (n := 2) (As := [.ref (w + 7), .int (fI 10006)]) C (p_addMultiple E X.2.1 sz _ hq0_49 hn_49 (by omega) (by have := zp_lt hn_49; omega) 10006) ⟨z_cb C k_P_addMultiple ml_W_46 ii_P rfl rfl (by decide +kernel) ⟨by decide, by decide⟩, C.2.2.2.2.1 _ im_P_addMultiple, C.2.2.2.2.1 _ se_P_addMultiple⟩ (zp_c0 hq0_49) rfl rfl rfl (Nat.le_of_ble_eq_true rfl) d_W_derive_63 ⟨by decide, by decide⟩ ?_
  intro v_63 s_63 M_63 hp_63
  obtain ⟨rfl, rfl, ⟨k_63, hn_63⟩, ho_63⟩ := hp_63
  have hc0_63 := (ho_63 _ (by omega) (by omega)).trans hc0_49
  have hc1_63 := (ho_63 _ (by omega) (by omega)).trans hc1_49
  have hq1_63 := zp_o ho_63 hq1_49 (by omega)
  have hq2_63 := zp_o ho_63 hq2_49 (by omega)
  have hq3_63 := zp_o ho_63 hn_49 (by omega)
  have hq4_63 := zp_o ho_63 hq4_49 (by omega)
  have hq5_63 := zp_o ho_63 hq5_49 (by omega)
  have hq6_63 := zp_o ho_63 hq6_49 (by omega)
  have hq7_63 := zp_o ho_63 hq7_49 (by omega)
  have hq8_63 := zp_o ho_63 hq8_49 (by omega)
  show Z _ _ _ _ _ _ _ _ 66 _ []
  refine z_aload_n C d_W_derive_66 rfl rfl ?_
  refine z_get C in_W hc0_63 rfl 1 (by decide) fl_W_20 rfl rfl d_W_derive_67 ?_
  refine z_aload_n C d_W_derive_70 rfl rfl ?_
  refine z_getN C in_F hc1_63 rfl 1 (by decide) fl_W_41 rfl rfl d_W_derive_71 ?_
  refine z_aload_n C d_W_derive_74 rfl rfl ?_
  refine z_getN C in_F hc1_63 rfl 1 (by decide) fl_W_41 rfl rfl d_W_derive_75 ?_
  refine z_callV (rest := []) (n := 2) (As := [.ref (q1 + 3), .ref (q1 + 3)]) C (p_setProduct E X.2.1 sz _ hq1_63 hq8_63 hq8_63 (by omega) (by omega) (by have := zp_lt hq8_63; have := zp_lt hq8_63; omega)) ⟨z_cb C k_P_setProduct ml_W_42 ii_P rfl rfl (by decide +kernel) ⟨by decide, by decide⟩, C.2.2.2.2.1 _ im_P_setProduct, C.2.2.2.2.1 _ se_P_setProduct⟩ (zp_c0 hq1_63) rfl rfl rfl (Nat.le_of_ble_eq_true rfl) d_W_derive_78 ⟨by decide, by decide⟩ ?_
  intro v_78 s_78 M_78 hp_78
  obtain ⟨rfl, rfl, ⟨k_78, hn_78⟩, ho_78⟩ := hp_78
  have hc0_78 := (ho_78 _ (by omega) (by omega)).trans hc0_63
  have hc1_78 := (ho_78 _ (by omega) (by omega)).trans hc1_63
  have hq0_78 := zp_o ho_78 hn_63 (by omega)
  have hq2_78 := zp_o ho_78 hq2_63 (by omega)
  have hq3_78 := zp_o ho_78 hq3_63 (by omega)
  have hq4_78 := zp_o ho_78 hq4_63 (by omega)
  have hq5_78 := zp_o ho_78 hq5_63 (by omega)
  have hq6_78 := zp_o ho_78 hq6_63 (by omega)
  have hq7_78 := zp_o ho_78 hq7_63 (by omega)
  have hq8_78 := zp_o ho_78 hq8_63 (by omega)
  show Z _ _ _ _ _ _ _ _ 81 _ []
  exact z_vret C ⟨rfl, rfl, ⟨_, _, ⟨hc0_78, hq0_78, hn_78, ⟨_, _, hq2_78⟩, ⟨_, _, hq3_78⟩, ⟨_, _, hq4_78⟩, ⟨_, _, hq5_78⟩, ⟨_, _, hq6_78⟩⟩⟩, zoutR_tr (zoutR_tr (zoutR_tr (zoutR_tr (zoutR_tr (zoutR_tr zoutR_rf (zout_R ho_8 (by omega) (by omega))) (zout_R ho_23 (by omega) (by omega))) (zout_R ho_34 (by omega) (by omega))) (zout_R ho_49 (by omega) (by omega))) (zout_R ho_63 (by omega) (by omega))) (zout_R ho_78 (by omega) (by omega))⟩ d_W_derive_81
end
section
/-! powers and composition: the pure rows -/
theorem pow_z {B : PS} {kb t : Nat} (hB : ∀ i, kb ≤ i → B i = 0) (ht : t * (kb - 1) ≤ 12) : ∀ i, i ≤ t → ∀ j, 13 ≤ j → ps_pow B i j = 0 := by
  intro i hi j hj
  refine (pow_top (q := B) (k := kb - 1) (fun x hx => hB x (by omega)) i).1 j ?_
  have : i * (kb - 1) ≤ t * (kb - 1) := Nat.mul_le_mul_right _ hi
  omega
/-- what Horner's way over two rows has after k steps -/
theorem hom_stepR {B p q : PS} {H k : Nat} (hk : k + 1 ≤ H) : ps_add (ps_mul (hom k (fun j => B (H - k + j)) p q) p) (ps_mul (ps_C (B (H - (k + 1)))) (ps_mul (ps_pow q k) q)) = hom (k + 1) (fun j => B (H - (k + 1) + j)) p q := by
  rw [hom]
  rw [show ps_sh (fun j => B (H - (k + 1) + j)) = (fun j => B (H - k + j)) by funext j; simp only [ps_sh]; congr 1; omega]
  rw [Nat.add_zero]
  rw [show ps_pow q (k + 1) = ps_mul (ps_pow q k) q from rfl]
  generalize hom k (fun j => B (H - k + j)) p q = x
  generalize ps_C (B (H - (k + 1))) = y
  generalize ps_mul (ps_pow q k) q = z
  letI := ps_ring
  show x * p + y * z = y * z + p * x
  grind
theorem hom_z {p q f : PS} {H K k : Nat} (hp : ∀ i, K < i → p i = 0) (hq : ∀ i, K < i → q i = 0) (hHK : H * K ≤ 12) (hk : k ≤ H) : (∀ j, 13 ≤ j → hom k f p q j = 0) ∧ ∀ j, 13 ≤ j → ps_pow q k j = 0 := by
  have : k * K ≤ H * K := Nat.mul_le_mul_right _ hk
  exact ⟨fun j hj => (hom_top hp hq k f).1 j (by omega), fun j hj => (pow_top hq k).1 j (by omega)⟩
end
section
set_option maxHeartbeats 4000000 in
/-- Workshop.raise -/
theorem w_raise (E : zE) (l : Launch) (sz : Nat) (M : zM) {w b r kb kr k5 t : Nat} {B Pr P5 : PS} (hw0 : M w = some (.inr (9, [.ref (w + 1), .ref (w + 3), .ref (w + 5), .ref (w + 7), .ref (w + 9), .ref (w + 11), .ref (w + 13)]))) (hb : zp E M b 13 kb B) (hr : zp E M r 25 kr Pr) (h5 : zp E M (w + 5) 25 k5 P5) (e1 : r = w + 1 ∨ r = w + 3) (e2 : b + 2 ≤ w ∨ w + 15 ≤ b) (ht : t * (kb - 1) ≤ 12) (ht2 : t < 1000) : zMet E l y_W_raise c_W_raise 5 none { frames := 2, cells := 0, slots := 0, locals := 46 } 0 0 [.ref w, .ref b, .int (nI t), .ref r] sz M (fun v s M' => none = v ∧ sz = s ∧ (∃ k', zp E M' r 25 k' (ps_pow B t)) ∧ (∃ k' P', zp E M' (w + 5) 25 k' P') ∧ ∀ q, q ≠ r → q ≠ r + 1 → q ≠ w + 5 → q ≠ w + 6 → M' q = M q) := by
  refine zMet.ofZ (by decide) (Nat.le_of_ble_eq_true rfl) ?_
  intro X hl hini C
  have loop : ∀ (m i : Nat) (M1 : zM) (k1 k2 : Nat) (P2 : PS), i ≤ t → t + 1 ≤ i + m → M1 w = some (.inr (9, [.ref (w + 1), .ref (w + 3), .ref (w + 5), .ref (w + 7), .ref (w + 9), .ref (w + 11), .ref (w + 13)])) → zp E M1 b 13 kb B → zp E M1 r 25 k1 (ps_pow B i) → zp E M1 (w + 5) 25 k2 P2 → (∀ q, q ≠ r → q ≠ r + 1 → q ≠ w + 5 → q ≠ w + 6 → M1 q = M q) → Z X E 5 (zQ X E 0 0 (fun v s M' => none = v ∧ sz = s ∧ (∃ k', zp E M' r 25 k' (ps_pow B t)) ∧ (∃ k' P', zp E M' (w + 5) 25 k' P') ∧ ∀ q, q ≠ r → q ≠ r + 1 → q ≠ w + 5 → q ≠ w + 6 → M' q = M q)) 0 0 sz M1 8 [(0, .ref w), (1, .ref b), (2, .int (nI t)), (3, .ref r), (4, .int (nI i))] [] := by
    intro m
    induction m with
    | zero => intro i M1 k1 k2 P2 h1 h2; omega
    | succ m ih =>
      intro i M1 k1 k2 P2 hi hm g0 gb gr g5 hfr
      have bb := zp_lt gb
      have z13 := pow_z (zp_pol hb).1 ht
      refine z_iload C d_W_raise_8 rfl ?_
      refine z_iload_n C d_W_raise_10 rfl rfl ?_
      refine z_icmp_ge (tgt := 37) C d_W_raise_11 (by decide) (fun c11 => ?_) (fun c11 => ?_)
      · have c11 := (nI_leI (by omega) (by omega)).mp c11
        exact z_vret C ⟨rfl, rfl, ⟨_, by rw [show i = t by omega] at gr; exact gr⟩, ⟨_, _, g5⟩, hfr⟩ d_W_raise_37
      · have c11 : i < t := Nat.not_le.mp (fun q => c11 ((nI_leI (by omega) (by omega)).mpr q))
        refine z_aload_n C d_W_raise_14 rfl rfl ?_
        refine z_get C in_W g0 rfl 2 (by decide) fl_W_23 rfl rfl d_W_raise_15 ?_
        refine z_aload_n C d_W_raise_18 rfl rfl ?_
        refine z_aload_n C d_W_raise_19 rfl rfl ?_
        refine z_callV (rest := []) (n := 2) (As := [.ref r, .ref b]) C (p_setProduct E X.2.1 sz _ g5 gr gb (by omega) (by omega) (by have := zp_le gr (z13 i (by omega)); omega)) ⟨z_cb C k_P_setProduct ml_W_42 ii_P rfl rfl (by decide +kernel) ⟨by decide, by decide⟩, C.2.2.2.2.1 _ im_P_setProduct, C.2.2.2.2.1 _ se_P_setProduct⟩ (zp_c0 g5) rfl rfl rfl (Nat.le_of_ble_eq_true rfl) d_W_raise_20 ⟨by decide, by decide⟩ ?_
        intro v_20 s_20 M_20 hp_20
        obtain ⟨rfl, rfl, ⟨k_20, hn_20⟩, ho_20⟩ := hp_20
        have hc0_20 := (ho_20 _ (by omega) (by omega)).trans g0
        have hq0_20 := zp_o ho_20 gb (by omega)
        have hq1_20 := zp_o ho_20 gr (by omega)
        show Z _ _ _ _ _ _ _ _ 23 _ []
        refine z_aload_n C d_W_raise_23 rfl rfl ?_
        refine z_aload_n C d_W_raise_24 rfl rfl ?_
        refine z_get C in_W hc0_20 rfl 2 (by decide) fl_W_23 rfl rfl d_W_raise_25 ?_
        refine z_callV (rest := []) (n := 1) (As := [.ref (w + 5)]) C (p_copy E X.2.1 sz _ hq1_20 hn_20 (by omega) (by have := zp_lt hn_20; omega)) ⟨z_cb C k_P_copy ml_W_54 ii_P rfl rfl (by decide +kernel) ⟨by decide, by decide⟩, C.2.2.2.2.1 _ im_P_copy, C.2.2.2.2.1 _ se_P_copy⟩ (zp_c0 hq1_20) rfl rfl rfl (Nat.le_of_ble_eq_true rfl) d_W_raise_28 ⟨by decide, by decide⟩ ?_
        intro v_28 s_28 M_28 hp_28
        obtain ⟨rfl, rfl, hn_28, ho_28⟩ := hp_28
        have hc0_28 := (ho_28 _ (by omega) (by omega)).trans hc0_20
        have hq0_28 := zp_o ho_28 hq0_20 (by omega)
        have hq2_28 := zp_o ho_28 hn_20 (by omega)
        show Z _ _ _ _ _ _ _ _ 31 _ []
        refine z_iinc (v := nI (i + 1)) (L' := [(0, .ref w), (1, .ref b), (2, .int (nI t)), (3, .ref r), (4, .int (nI (i + 1)))]) C d_W_raise_31 rfl (nI_1 i) (by decide) rfl ?_
        refine z_goto (tgt := 8) C d_W_raise_34 (by decide) ?_
        exact ih (i + 1) _ _ _ _ (by omega) (by omega) hc0_28 hq0_28 hn_28 hq2_28 (fun q q1 q2 q3 q4 => (ho_28 q q1 q2).trans ((ho_20 q q3 q4).trans (hfr q q1 q2 q3 q4)))
  show Z X E 5 _ 0 0 sz M 0 [(0, .ref w), (1, .ref b), (2, .int (nI t)), (3, .ref r)] []
  refine z_aload_n C d_W_raise_0 rfl rfl ?_
  refine z_iconst (v := fI 1) C d_W_raise_1 (by decide) ?_
  refine z_callV (rest := []) (n := 1) (As := [.int (fI 1)]) C (p_setConstant E X.2.1 sz _ hr (by omega) 1) ⟨z_cb C k_P_setConstant ml_W_78 ii_P rfl rfl (by decide +kernel) ⟨by decide, by decide⟩, C.2.2.2.2.1 _ im_P_setConstant, C.2.2.2.2.1 _ se_P_setConstant⟩ (zp_c0 hr) rfl rfl rfl (Nat.le_of_ble_eq_true rfl) d_W_raise_2 ⟨by decide, by decide⟩ ?_
  intro v_2 s_2 M_2 hp_2
  obtain ⟨rfl, rfl, hn_2, ho_2⟩ := hp_2
  have hc0_2 := (ho_2 _ (by omega) (by omega)).trans hw0
  have hq0_2 := zp_o ho_2 hb (by omega)
  have hq2_2 := zp_o ho_2 h5 (by omega)
  show Z _ _ _ _ _ _ _ _ 5 _ []
  refine z_iconst (v := nI 0) C d_W_raise_5 (by decide) ?_
  refine z_istore (L' := [(0, .ref w), (1, .ref b), (2, .int (nI t)), (3, .ref r), (4, .int (nI 0))]) C d_W_raise_6 (by decide) rfl ?_
  exact loop (t + 1) 0 _ _ _ _ (by omega) (by omega) hc0_2 hq0_2 hn_2 hq2_2 (fun q q1 q2 q3 q4 => ho_2 q q1 q2)
set_option maxHeartbeats 4000000 in
/-- Workshop.power -/
theorem w_powP (E : zE) (l : Launch) (sz : Nat) (M : zM) {w kw1 kw3 : Nat} {Pw1 Pw3 : PS} (hw : zsh E M w kw1 kw3 Pw1 Pw3) {q1 kn1 kd1 : Nat} {N1 D1 : PS} (h1 : zf E M q1 kn1 kd1 N1 D1) (a1 : q1 + 5 ≤ w ∨ w + 15 ≤ q1) (t : Nat) (ht : t ≤ 12) (hd : 1 ≤ kd1) : zMet E l y_W_power c_W_power 4 (some .int) { frames := 3, cells := 0, slots := 0, locals := 70 } 0 0 [.ref w, .ref q1, .int (nI t)] sz M (fun v s M' => (12 < t * (max kn1 kd1 - 1) ∧ some (.int (-6)) = v ∧ sz = s ∧ M = M') ∨ (t * (max kn1 kd1 - 1) ≤ 12 ∧ (some (.int 0) = v ∧ sz = s ∧ (∃ x y, zsh E M' w x y (ps_pow N1 t) (ps_pow D1 t)) ∧ zoutR M M' (w + 1) (w + 15)))) := by
  obtain ⟨hw0, hw1, hw3, ⟨kw5, Pw5, hw5⟩, ⟨kw7, Pw7, hw7⟩, ⟨kw9, Pw9, hw9⟩, ⟨kw11, Pw11, hw11⟩, ⟨kw13, Pw13, hw13⟩⟩ := id hw
  have b1 := zp_lt h1.2.1
  have b2 := zp_lt h1.2.2
  obtain ⟨H, hH⟩ : ∃ H, H = max kn1 kd1 - 1 := ⟨_, rfl⟩
  have hH2 : max kn1 kd1 = H + 1 := by omega
  rw [← hH]
  refine zMet.ofZ (by decide) (Nat.le_of_ble_eq_true rfl) ?_
  intro X hl hini C
  show Z X E 4 _ 0 0 sz M 0 [(0, .ref w), (1, .ref q1), (2, .int (nI t))] []
  refine z_iload_n C d_W_power_0 rfl rfl ?_
  refine z_mabs C ml_W_64 sm_jM_abs ii_jM k_jM_abs (by decide) (Nat.le_of_ble_eq_true rfl) (Nat.zero_le _) (Nat.zero_le _) d_W_power_1 ?_
  refine z_top (y := nI t) (if_pos (nI_pos' (by omega))) ?_
  refine z_istore_n (L' := [(0, .ref w), (1, .ref q1), (2, .int (nI t)), (3, .int (nI t))]) C d_W_power_4 rfl (by decide) rfl ?_
  refine z_iload_n C d_W_power_5 rfl rfl ?_
  refine z_if_ge (tgt := 19) C d_W_power_6 (by decide) (fun _ => ?_) (fun c_6 => absurd (nI_pos' (by omega)) c_6)
  refine z_iload_n C d_W_power_19 rfl rfl ?_
  refine z_aload_n C d_W_power_20 rfl rfl ?_
  refine z_callV (rest := [.int (nI t)]) (n := 0) (As := []) C (f_height E X.2.1 sz _ h1) ⟨z_cb C k_F_height ml_W_70 ii_F rfl rfl (by decide +kernel) ⟨by decide, by decide⟩, C.2.2.2.2.1 _ im_F_height, C.2.2.2.2.1 _ se_F_height⟩ h1.1 rfl rfl rfl (Nat.le_of_ble_eq_true rfl) d_W_power_21 ⟨by decide, by decide⟩ ?_
  intro v_21 s_21 M_21 hp_21
  obtain ⟨rfl, rfl, rfl⟩ := hp_21
  show Z _ _ _ _ _ _ _ _ 24 _ [.int (tI (max kn1 kd1)), .int (nI t)]
  refine z_top (y := nI H) (by rw [hH2, tI_s]) ?_
  refine z_imul C d_W_power_24 ?_
  refine z_top (y := nI (t * H)) (pk_mul t H) ?_
  refine z_bipush (v := 12) C d_W_power_25 (by decide) ?_
  refine z_icmp_le (tgt := 33) C d_W_power_27 (by decide) (fun c27 => ?_) (fun c27 => ?_)
  · have c27 : t * H ≤ 12 := by
      rcases Nat.lt_or_ge 12 (t * H) with q | q
      · exact absurd c27 (by show ¬ nI (t * H) ≤ nI 12; exact nI_ge q (by have : t * H ≤ 12 * 24 := Nat.mul_le_mul ht (by omega); omega))
      · exact q
    have hb1 : t * (kn1 - 1) ≤ 12 := Nat.le_trans (Nat.mul_le_mul_left t (by omega)) c27
    have hb2 : t * (kd1 - 1) ≤ 12 := Nat.le_trans (Nat.mul_le_mul_left t (by omega)) c27
    refine z_aload_n C d_W_power_33 rfl rfl ?_
    refine z_aload_n C d_W_power_34 rfl rfl ?_
    refine z_getN C in_F h1.1 rfl 0 (by decide) fl_W_38 rfl rfl d_W_power_35 ?_
    refine z_iload_n C d_W_power_38 rfl rfl ?_
    refine z_iload_n C d_W_power_39 rfl rfl ?_
    refine z_if_ge (tgt := 50) C d_W_power_40 (by decide) (fun _ => ?_) (fun c_40 => absurd (nI_pos' (by omega)) c_40)
    refine z_aload_n C d_W_power_50 rfl rfl ?_
    refine z_get C in_W hw0 rfl 0 (by decide) fl_W_16 rfl rfl d_W_power_51 ?_
    refine z_callV (rest := []) (n := 3) (As := [.ref (q1 + 1), .int (nI t), .ref (w + 1)]) C (w_raise (t := t) E X.2.1 sz _ hw0 h1.2.1 hw1 hw5 (by omega) (by omega) (by exact hb1) (by omega)) ⟨z_cb C k_W_raise ml_W_74 ii_W rfl rfl (by decide +kernel) ⟨by decide, by decide⟩, C.2.2.2.2.1 _ im_W_raise, C.2.2.2.2.1 _ se_W_raise⟩ hw0 rfl rfl rfl (Nat.le_of_ble_eq_true rfl) d_W_power_54 ⟨by decide, by decide⟩ ?_
    intro v_54 s_54 M_54 hp_54
    obtain ⟨rfl, rfl, ⟨k_54, hn_54⟩, ⟨k5_54, P5_54, h5_54⟩, hf_54⟩ := hp_54
    have hc0_54 := (hf_54 _ (by omega) (by omega) (by omega) (by omega)).trans hw0
    have hc1_54 := (hf_54 _ (by omega) (by omega) (by omega) (by omega)).trans h1.1
    have hq1_54 := zp_kept hw3 (hf_54 _ (by omega) (by omega) (by omega) (by omega)) (hf_54 _ (by omega) (by omega) (by omega) (by omega))
    have hq3_54 := zp_kept hw7 (hf_54 _ (by omega) (by omega) (by omega) (by omega)) (hf_54 _ (by omega) (by omega) (by omega) (by omega))
    have hq4_54 := zp_kept hw9 (hf_54 _ (by omega) (by omega) (by omega) (by omega)) (hf_54 _ (by omega) (by omega) (by omega) (by omega))
    have hq5_54 := zp_kept hw11 (hf_54 _ (by omega) (by omega) (by omega) (by omega)) (hf_54 _ (by omega) (by omega) (by omega) (by omega))
    have hq6_54 := zp_kept hw13 (hf_54 _ (by omega) (by omega) (by omega) (by omega)) (hf_54 _ (by omega) (by omega) (by omega) (by omega))
    have hq7_54 := zp_kept h1.2.1 (hf_54 _ (by omega) (by omega) (by omega) (by omega)) (hf_54 _ (by omega) (by omega) (by omega) (by omega))
    have hq8_54 := zp_kept h1.2.2 (hf_54 _ (by omega) (by omega) (by omega) (by omega)) (hf_54 _ (by omega) (by omega) (by omega) (by omega))
    have hR_54 : zoutR M M_54 (w + 1) (w + 15) := fun q hq => hf_54 q (by omega) (by omega) (by omega) (by omega)
    show Z _ _ _ _ _ _ _ _ 57 _ []
    refine z_aload_n C d_W_power_57 rfl rfl ?_
    refine z_aload_n C d_W_power_58 rfl rfl ?_
    refine z_getN C in_F hc1_54 rfl 1 (by decide) fl_W_41 rfl rfl d_W_power_59 ?_
    refine z_iload_n C d_W_power_62 rfl rfl ?_
    refine z_iload_n C d_W_power_63 rfl rfl ?_
    refine z_if_ge (tgt := 74) C d_W_power_64 (by decide) (fun _ => ?_) (fun c_64 => absurd (nI_pos' (by omega)) c_64)
    refine z_aload_n C d_W_power_74 rfl rfl ?_
    refine z_get C in_W hc0_54 rfl 1 (by decide) fl_W_20 rfl rfl d_W_power_75 ?_
    refine z_callV (rest := []) (n := 3) (As := [.ref (q1 + 3), .int (nI t), .ref (w + 3)]) C (w_raise (t := t) E X.2.1 sz _ hc0_54 hq8_54 hq1_54 h5_54 (by omega) (by omega) (by exact hb2) (by omega)) ⟨z_cb C k_W_raise ml_W_74 ii_W rfl rfl (by decide +kernel) ⟨by decide, by decide⟩, C.2.2.2.2.1 _ im_W_raise, C.2.2.2.2.1 _ se_W_raise⟩ hc0_54 rfl rfl rfl (Nat.le_of_ble_eq_true rfl) d_W_power_78 ⟨by decide, by decide⟩ ?_
    intro v_7854 s_7854 M_7854 hp_7854
    obtain ⟨rfl, rfl, ⟨k_7854, hn_7854⟩, ⟨k5_7854, P5_7854, h5_7854⟩, hf_7854⟩ := hp_7854
    have hc0_7854 := (hf_7854 _ (by omega) (by omega) (by omega) (by omega)).trans hc0_54
    have hc1_7854 := (hf_7854 _ (by omega) (by omega) (by omega) (by omega)).trans hc1_54
    have hq0_7854 := zp_kept hn_54 (hf_7854 _ (by omega) (by omega) (by omega) (by omega)) (hf_7854 _ (by omega) (by omega) (by omega) (by omega))
    have hq3_7854 := zp_kept hq3_54 (hf_7854 _ (by omega) (by omega) (by omega) (by omega)) (hf_7854 _ (by omega) (by omega) (by omega) (by omega))
    have hq4_7854 := zp_kept hq4_54 (hf_7854 _ (by omega) (by omega) (by omega) (by omega)) (hf_7854 _ (by omega) (by omega) (by omega) (by omega))
    have hq5_7854 := zp_kept hq5_54 (hf_7854 _ (by omega) (by omega) (by omega) (by omega)) (hf_7854 _ (by omega) (by omega) (by omega) (by omega))
    have hq6_7854 := zp_kept hq6_54 (hf_7854 _ (by omega) (by omega) (by omega) (by omega)) (hf_7854 _ (by omega) (by omega) (by omega) (by omega))
    have hq7_7854 := zp_kept hq7_54 (hf_7854 _ (by omega) (by omega) (by omega) (by omega)) (hf_7854 _ (by omega) (by omega) (by omega) (by omega))
    have hq8_7854 := zp_kept hq8_54 (hf_7854 _ (by omega) (by omega) (by omega) (by omega)) (hf_7854 _ (by omega) (by omega) (by omega) (by omega))
    have hR_7854 : zoutR M_54 M_7854 (w + 1) (w + 15) := fun q hq => hf_7854 q (by omega) (by omega) (by omega) (by omega)
    show Z _ _ _ _ _ _ _ _ 81 _ []
    refine z_iconst (v := 0) C d_W_power_81 (by decide) ?_
    exact z_iret C (Or.inr ⟨c27, rfl, rfl, ⟨_, _, ⟨hc0_7854, hq0_7854, hn_7854, ⟨_, _, h5_7854⟩, ⟨_, _, hq3_7854⟩, ⟨_, _, hq4_7854⟩, ⟨_, _, hq5_7854⟩, ⟨_, _, hq6_7854⟩⟩⟩, zoutR_tr (zoutR_tr zoutR_rf hR_54) hR_7854⟩) d_W_power_82
  · have c27 : 12 < t * H := by
      rcases Nat.lt_or_ge 12 (t * H) with q | q
      · exact q
      · exact absurd (by show nI (t * H) ≤ nI 12; exact nI_le q (by decide)) c27
    refine z_bipush (v := -6) C d_W_power_30 (by decide) ?_
    exact z_iret C (Or.inl ⟨c27, rfl, rfl, rfl⟩) d_W_power_32
set_option maxHeartbeats 4000000 in
/-- Workshop.power -/
theorem w_powN (E : zE) (l : Launch) (sz : Nat) (M : zM) {w kw1 kw3 : Nat} {Pw1 Pw3 : PS} (hw : zsh E M w kw1 kw3 Pw1 Pw3) {q1 kn1 kd1 : Nat} {N1 D1 : PS} (h1 : zf E M q1 kn1 kd1 N1 D1) (a1 : q1 + 5 ≤ w ∨ w + 15 ≤ q1) (t : Nat) (ht : t ≤ 12) (ht0 : 0 < t) (hd : 1 ≤ kd1) : zMet E l y_W_power c_W_power 4 (some .int) { frames := 3, cells := 0, slots := 0, locals := 70 } 0 0 [.ref w, .ref q1, .int (-nI t)] sz M (fun v s M' => (kn1 = 0 ∧ some (.int (-5)) = v ∧ sz = s ∧ M = M') ∨ (kn1 ≠ 0 ∧ 12 < t * (max kn1 kd1 - 1) ∧ some (.int (-6)) = v ∧ sz = s ∧ M = M') ∨ (kn1 ≠ 0 ∧ t * (max kn1 kd1 - 1) ≤ 12 ∧ (some (.int 0) = v ∧ sz = s ∧ (∃ x y, zsh E M' w x y (ps_pow D1 t) (ps_pow N1 t)) ∧ zoutR M M' (w + 1) (w + 15)))) := by
  obtain ⟨hw0, hw1, hw3, ⟨kw5, Pw5, hw5⟩, ⟨kw7, Pw7, hw7⟩, ⟨kw9, Pw9, hw9⟩, ⟨kw11, Pw11, hw11⟩, ⟨kw13, Pw13, hw13⟩⟩ := id hw
  have b1 := zp_lt h1.2.1
  have b2 := zp_lt h1.2.2
  obtain ⟨H, hH⟩ : ∃ H, H = max kn1 kd1 - 1 := ⟨_, rfl⟩
  have hH2 : max kn1 kd1 = H + 1 := by omega
  rw [← hH]
  have neg1 : -nI t < 0 := by
    rw [Int32.lt_iff_toInt_lt, sb_negT (by omega), Int32.toInt_zero]; omega
  refine zMet.ofZ (by decide) (Nat.le_of_ble_eq_true rfl) ?_
  intro X hl hini C
  show Z X E 4 _ 0 0 sz M 0 [(0, .ref w), (1, .ref q1), (2, .int (-nI t))] []
  refine z_iload_n C d_W_power_0 rfl rfl ?_
  refine z_mabs C ml_W_64 sm_jM_abs ii_jM k_jM_abs (by decide) (Nat.le_of_ble_eq_true rfl) (Nat.zero_le _) (Nat.zero_le _) d_W_power_1 ?_
  refine z_top (y := nI t) (by rw [if_neg (Int32.not_le.mpr neg1)]; rw [Int32.sub_neg]; exact Int32.zero_add _) ?_
  refine z_istore_n (L' := [(0, .ref w), (1, .ref q1), (2, .int (-nI t)), (3, .int (nI t))]) C d_W_power_4 rfl (by decide) rfl ?_
  refine z_iload_n C d_W_power_5 rfl rfl ?_
  refine z_if_ge (tgt := 19) C d_W_power_6 (by decide) (fun c_6 => absurd c_6 (Int32.not_le.mpr neg1)) (fun _ => ?_)
  refine z_aload_n C d_W_power_9 rfl rfl ?_
  refine z_callV (rest := []) (n := 0) (As := []) C (f_isZero E X.2.1 sz _ h1) ⟨z_cb C k_F_isZero ml_W_50 ii_F rfl rfl (by decide +kernel) ⟨by decide, by decide⟩, C.2.2.2.2.1 _ im_F_isZero, C.2.2.2.2.1 _ se_F_isZero⟩ h1.1 rfl rfl rfl (Nat.le_of_ble_eq_true rfl) d_W_power_10 ⟨by decide, by decide⟩ ?_
  intro v_10 s_10 M_10 hp_10
  obtain ⟨rfl, rfl, rfl⟩ := hp_10
  show Z _ _ _ _ _ _ _ _ 13 _ [.int (if kn1 = 0 then 1 else 0)]
  refine z_if_eq (tgt := 19) C d_W_power_13 (by decide) (fun c13 => ?_) (fun c13 => ?_)
  · have c13 : kn1 ≠ 0 := fun q => by rw [if_pos q] at c13; exact absurd c13 (by decide)
    refine z_iload_n C d_W_power_19 rfl rfl ?_
    refine z_aload_n C d_W_power_20 rfl rfl ?_
    refine z_callV (rest := [.int (nI t)]) (n := 0) (As := []) C (f_height E X.2.1 sz _ h1) ⟨z_cb C k_F_height ml_W_70 ii_F rfl rfl (by decide +kernel) ⟨by decide, by decide⟩, C.2.2.2.2.1 _ im_F_height, C.2.2.2.2.1 _ se_F_height⟩ h1.1 rfl rfl rfl (Nat.le_of_ble_eq_true rfl) d_W_power_21 ⟨by decide, by decide⟩ ?_
    intro v_21 s_21 M_21 hp_21
    obtain ⟨rfl, rfl, rfl⟩ := hp_21
    show Z _ _ _ _ _ _ _ _ 24 _ [.int (tI (max kn1 kd1)), .int (nI t)]
    refine z_top (y := nI H) (by rw [hH2, tI_s]) ?_
    refine z_imul C d_W_power_24 ?_
    refine z_top (y := nI (t * H)) (pk_mul t H) ?_
    refine z_bipush (v := 12) C d_W_power_25 (by decide) ?_
    refine z_icmp_le (tgt := 33) C d_W_power_27 (by decide) (fun c27 => ?_) (fun c27 => ?_)
    · have c27 : t * H ≤ 12 := by
        rcases Nat.lt_or_ge 12 (t * H) with q | q
        · exact absurd c27 (by show ¬ nI (t * H) ≤ nI 12; exact nI_ge q (by have : t * H ≤ 12 * 24 := Nat.mul_le_mul ht (by omega); omega))
        · exact q
      have hb1 : t * (kn1 - 1) ≤ 12 := Nat.le_trans (Nat.mul_le_mul_left t (by omega)) c27
      have hb2 : t * (kd1 - 1) ≤ 12 := Nat.le_trans (Nat.mul_le_mul_left t (by omega)) c27
      refine z_aload_n C d_W_power_33 rfl rfl ?_
      refine z_aload_n C d_W_power_34 rfl rfl ?_
      refine z_getN C in_F h1.1 rfl 0 (by decide) fl_W_38 rfl rfl d_W_power_35 ?_
      refine z_iload_n C d_W_power_38 rfl rfl ?_
      refine z_iload_n C d_W_power_39 rfl rfl ?_
      refine z_if_ge (tgt := 50) C d_W_power_40 (by decide) (fun c_40 => absurd c_40 (Int32.not_le.mpr neg1)) (fun _ => ?_)
      refine z_aload_n C d_W_power_43 rfl rfl ?_
      refine z_get C in_W hw0 rfl 1 (by decide) fl_W_20 rfl rfl d_W_power_44 ?_
      refine z_goto (tgt := 54) C d_W_power_47 (by decide) ?_
      refine z_callV (rest := []) (n := 3) (As := [.ref (q1 + 1), .int (nI t), .ref (w + 3)]) C (w_raise (t := t) E X.2.1 sz _ hw0 h1.2.1 hw3 hw5 (by omega) (by omega) (by exact hb1) (by omega)) ⟨z_cb C k_W_raise ml_W_74 ii_W rfl rfl (by decide +kernel) ⟨by decide, by decide⟩, C.2.2.2.2.1 _ im_W_raise, C.2.2.2.2.1 _ se_W_raise⟩ hw0 rfl rfl rfl (Nat.le_of_ble_eq_true rfl) d_W_power_54 ⟨by decide, by decide⟩ ?_
      intro v_54 s_54 M_54 hp_54
      obtain ⟨rfl, rfl, ⟨k_54, hn_54⟩, ⟨k5_54, P5_54, h5_54⟩, hf_54⟩ := hp_54
      have hc0_54 := (hf_54 _ (by omega) (by omega) (by omega) (by omega)).trans hw0
      have hc1_54 := (hf_54 _ (by omega) (by omega) (by omega) (by omega)).trans h1.1
      have hq0_54 := zp_kept hw1 (hf_54 _ (by omega) (by omega) (by omega) (by omega)) (hf_54 _ (by omega) (by omega) (by omega) (by omega))
      have hq3_54 := zp_kept hw7 (hf_54 _ (by omega) (by omega) (by omega) (by omega)) (hf_54 _ (by omega) (by omega) (by omega) (by omega))
      have hq4_54 := zp_kept hw9 (hf_54 _ (by omega) (by omega) (by omega) (by omega)) (hf_54 _ (by omega) (by omega) (by omega) (by omega))
      have hq5_54 := zp_kept hw11 (hf_54 _ (by omega) (by omega) (by omega) (by omega)) (hf_54 _ (by omega) (by omega) (by omega) (by omega))
      have hq6_54 := zp_kept hw13 (hf_54 _ (by omega) (by omega) (by omega) (by omega)) (hf_54 _ (by omega) (by omega) (by omega) (by omega))
      have hq7_54 := zp_kept h1.2.1 (hf_54 _ (by omega) (by omega) (by omega) (by omega)) (hf_54 _ (by omega) (by omega) (by omega) (by omega))
      have hq8_54 := zp_kept h1.2.2 (hf_54 _ (by omega) (by omega) (by omega) (by omega)) (hf_54 _ (by omega) (by omega) (by omega) (by omega))
      have hR_54 : zoutR M M_54 (w + 1) (w + 15) := fun q hq => hf_54 q (by omega) (by omega) (by omega) (by omega)
      show Z _ _ _ _ _ _ _ _ 57 _ []
      refine z_aload_n C d_W_power_57 rfl rfl ?_
      refine z_aload_n C d_W_power_58 rfl rfl ?_
      refine z_getN C in_F hc1_54 rfl 1 (by decide) fl_W_41 rfl rfl d_W_power_59 ?_
      refine z_iload_n C d_W_power_62 rfl rfl ?_
      refine z_iload_n C d_W_power_63 rfl rfl ?_
      refine z_if_ge (tgt := 74) C d_W_power_64 (by decide) (fun c_64 => absurd c_64 (Int32.not_le.mpr neg1)) (fun _ => ?_)
      refine z_aload_n C d_W_power_67 rfl rfl ?_
      refine z_get C in_W hc0_54 rfl 0 (by decide) fl_W_16 rfl rfl d_W_power_68 ?_
      refine z_goto (tgt := 78) C d_W_power_71 (by decide) ?_
      refine z_callV (rest := []) (n := 3) (As := [.ref (q1 + 3), .int (nI t), .ref (w + 1)]) C (w_raise (t := t) E X.2.1 sz _ hc0_54 hq8_54 hq0_54 h5_54 (by omega) (by omega) (by exact hb2) (by omega)) ⟨z_cb C k_W_raise ml_W_74 ii_W rfl rfl (by decide +kernel) ⟨by decide, by decide⟩, C.2.2.2.2.1 _ im_W_raise, C.2.2.2.2.1 _ se_W_raise⟩ hc0_54 rfl rfl rfl (Nat.le_of_ble_eq_true rfl) d_W_power_78 ⟨by decide, by decide⟩ ?_
      intro v_7854 s_7854 M_7854 hp_7854
      obtain ⟨rfl, rfl, ⟨k_7854, hn_7854⟩, ⟨k5_7854, P5_7854, h5_7854⟩, hf_7854⟩ := hp_7854
      have hc0_7854 := (hf_7854 _ (by omega) (by omega) (by omega) (by omega)).trans hc0_54
      have hc1_7854 := (hf_7854 _ (by omega) (by omega) (by omega) (by omega)).trans hc1_54
      have hq1_7854 := zp_kept hn_54 (hf_7854 _ (by omega) (by omega) (by omega) (by omega)) (hf_7854 _ (by omega) (by omega) (by omega) (by omega))
      have hq3_7854 := zp_kept hq3_54 (hf_7854 _ (by omega) (by omega) (by omega) (by omega)) (hf_7854 _ (by omega) (by omega) (by omega) (by omega))
      have hq4_7854 := zp_kept hq4_54 (hf_7854 _ (by omega) (by omega) (by omega) (by omega)) (hf_7854 _ (by omega) (by omega) (by omega) (by omega))
      have hq5_7854 := zp_kept hq5_54 (hf_7854 _ (by omega) (by omega) (by omega) (by omega)) (hf_7854 _ (by omega) (by omega) (by omega) (by omega))
      have hq6_7854 := zp_kept hq6_54 (hf_7854 _ (by omega) (by omega) (by omega) (by omega)) (hf_7854 _ (by omega) (by omega) (by omega) (by omega))
      have hq7_7854 := zp_kept hq7_54 (hf_7854 _ (by omega) (by omega) (by omega) (by omega)) (hf_7854 _ (by omega) (by omega) (by omega) (by omega))
      have hq8_7854 := zp_kept hq8_54 (hf_7854 _ (by omega) (by omega) (by omega) (by omega)) (hf_7854 _ (by omega) (by omega) (by omega) (by omega))
      have hR_7854 : zoutR M_54 M_7854 (w + 1) (w + 15) := fun q hq => hf_7854 q (by omega) (by omega) (by omega) (by omega)
      show Z _ _ _ _ _ _ _ _ 81 _ []
      refine z_iconst (v := 0) C d_W_power_81 (by decide) ?_
      exact z_iret C (Or.inr (Or.inr ⟨c13, c27, rfl, rfl, ⟨_, _, ⟨hc0_7854, hn_7854, hq1_7854, ⟨_, _, h5_7854⟩, ⟨_, _, hq3_7854⟩, ⟨_, _, hq4_7854⟩, ⟨_, _, hq5_7854⟩, ⟨_, _, hq6_7854⟩⟩⟩, zoutR_tr (zoutR_tr zoutR_rf hR_54) hR_7854⟩)) d_W_power_82
    · have c27 : 12 < t * H := by
        rcases Nat.lt_or_ge 12 (t * H) with q | q
        · exact q
        · exact absurd (by show nI (t * H) ≤ nI 12; exact nI_le q (by decide)) c27
      refine z_bipush (v := -6) C d_W_power_30 (by decide) ?_
      exact z_iret C (Or.inr (Or.inl ⟨c13, c27, rfl, rfl, rfl⟩)) d_W_power_32
  · have c13 : kn1 = 0 := by
      by_cases q : kn1 = 0
      · exact q
      · exact absurd (if_neg q) c13
    refine z_bipush (v := -5) C d_W_power_16 (by decide) ?_
    exact z_iret C (Or.inl ⟨c13, rfl, rfl, rfl⟩) d_W_power_18
end
section
set_option maxHeartbeats 4000000 in
/-- Workshop.putInto -/
theorem w_putInto (E : zE) (l : Launch) (sz : Nat) (M : zM) {w b r kb kr k5 k7 H K : Nat} {B Pr P5 P7 : PS} (hw0 : M w = some (.inr (9, [.ref (w + 1), .ref (w + 3), .ref (w + 5), .ref (w + 7), .ref (w + 9), .ref (w + 11), .ref (w + 13)]))) (hb : zp E M b 13 kb B) (hr : zp E M r 25 kr Pr) (h5 : zp E M (w + 5) 25 k5 P5) (h7 : zp E M (w + 7) 25 k7 P7) {q2 kn2 kd2 : Nat} {N2 D2 : PS} (h2 : zf E M q2 kn2 kd2 N2 D2) (a2 : q2 + 5 ≤ w ∨ w + 15 ≤ q2) (e1 : r = w + 1 ∨ r = w + 3) (e2 : b + 2 ≤ w ∨ w + 15 ≤ b) (hHK : H * K ≤ 12) (hH : H < 1000) (hp : ∀ i, K < i → N2 i = 0) (hq : ∀ i, K < i → D2 i = 0) : zMet E l y_W_putInto c_W_putInto 6 none { frames := 2, cells := 0, slots := 0, locals := 46 } 0 0 [.ref w, .ref b, .int (nI H), .ref q2, .ref r] sz M (fun v s M' => none = v ∧ sz = s ∧ (∃ k', zp E M' r 25 k' (hom H B N2 D2)) ∧ (∃ k' P', zp E M' (w + 5) 25 k' P') ∧ (∃ k' P', zp E M' (w + 7) 25 k' P') ∧ ∀ q, q ≠ r → q ≠ r + 1 → (q < w + 5 ∨ w + 9 ≤ q) → M' q = M q) := by
  refine zMet.ofZ (by decide) (Nat.le_of_ble_eq_true rfl) ?_
  intro X hl hini C
  have loop : ∀ (j : Nat) (M1 : zM) (k1 k2 k3 : Nat) (P2 : PS), j ≤ H → M1 w = some (.inr (9, [.ref (w + 1), .ref (w + 3), .ref (w + 5), .ref (w + 7), .ref (w + 9), .ref (w + 11), .ref (w + 13)])) → zp E M1 b 13 kb B → zf E M1 q2 kn2 kd2 N2 D2 → zp E M1 r 25 k1 (hom (H - j) (fun x => B (j + x)) N2 D2) → zp E M1 (w + 5) 25 k2 P2 → zp E M1 (w + 7) 25 k3 (ps_pow D2 (H - j)) → (∀ q, q ≠ r → q ≠ r + 1 → (q < w + 5 ∨ w + 9 ≤ q) → M1 q = M q) → Z X E 6 (zQ X E 0 0 (fun v s M' => none = v ∧ sz = s ∧ (∃ k', zp E M' r 25 k' (hom H B N2 D2)) ∧ (∃ k' P', zp E M' (w + 5) 25 k' P') ∧ (∃ k' P', zp E M' (w + 7) 25 k' P') ∧ ∀ q, q ≠ r → q ≠ r + 1 → (q < w + 5 ∨ w + 9 ≤ q) → M' q = M q)) 0 0 sz M1 23 [(0, .ref w), (1, .ref b), (2, .int (nI H)), (3, .ref q2), (4, .ref r), (5, .int (tI j))] [] := by
    intro j
    induction j with
    | zero =>
      intro M1 k1 k2 k3 P2 hj g0 gb gf gr g5 g7 hfr
      refine z_iload C d_W_putInto_23 rfl ?_
      refine z_if_lt (tgt := 97) C d_W_putInto_25 (by decide) (fun _ => ?_) (fun c_25 => absurd (by decide) c_25)
      exact z_vret C ⟨rfl, rfl, ⟨_, by rw [Nat.sub_zero, show (fun x => B (0 + x)) = B by funext x; rw [Nat.zero_add]] at gr; exact gr⟩, ⟨_, _, g5⟩, ⟨_, _, g7⟩, hfr⟩ d_W_putInto_97
    | succ j ih =>
      intro M1 k1 k2 k3 P2 hj g0 gb gf gr g5 g7 hfr
      have bb := zp_lt gf.2.1
      have bd := zp_lt gf.2.2
      have z1 := zp_le gr (hom_z hp hq hHK (by omega)).1
      have z2 := zp_le g7 (hom_z (f := B) hp hq hHK (by omega)).2
      have st := hom_stepR (B := B) (p := N2) (q := D2) (H := H) (k := H - (j + 1)) (by omega)
      rw [show H - (H - (j + 1)) = j + 1 by omega, show H - (j + 1) + 1 = H - j by omega, show H - (H - j) = j by omega] at st
      refine z_iload C d_W_putInto_23 rfl ?_
      refine z_if_lt (tgt := 97) C d_W_putInto_25 (by decide) (fun c_25 => absurd c_25 (by rw [tI_s]; exact nI_pos (by omega))) (fun _ => ?_)
      refine z_aload_n C d_W_putInto_28 rfl rfl ?_
      refine z_get C in_W g0 rfl 2 (by decide) fl_W_23 rfl rfl d_W_putInto_29 ?_
      refine z_aload C d_W_putInto_32 rfl ?_
      refine z_aload_n C d_W_putInto_34 rfl rfl ?_
      refine z_getN C in_F gf.1 rfl 0 (by decide) fl_W_38 rfl rfl d_W_putInto_35 ?_
      refine z_callV (rest := []) (n := 2) (As := [.ref r, .ref (q2 + 1)]) C (p_setProduct E X.2.1 sz _ g5 gr gf.2.1 (by omega) (by omega) (by omega)) ⟨z_cb C k_P_setProduct ml_W_42 ii_P rfl rfl (by decide +kernel) ⟨by decide, by decide⟩, C.2.2.2.2.1 _ im_P_setProduct, C.2.2.2.2.1 _ se_P_setProduct⟩ (zp_c0 g5) rfl rfl rfl (Nat.le_of_ble_eq_true rfl) d_W_putInto_38 ⟨by decide, by decide⟩ ?_
      intro v_38 s_38 M_38 hp_38
      obtain ⟨rfl, rfl, ⟨k_38, hn_38⟩, ho_38⟩ := hp_38
      have hc0_38 := (ho_38 _ (by omega) (by omega)).trans g0
      have hc1_38 := (ho_38 _ (by omega) (by omega)).trans gf.1
      have hq0_38 := zp_o ho_38 gb (by omega)
      have hq1_38 := zp_o ho_38 gr (by omega)
      have hq3_38 := zp_o ho_38 g7 (by omega)
      have hq4_38 := zp_o ho_38 gf.2.1 (by omega)
      have hq5_38 := zp_o ho_38 gf.2.2 (by omega)
      show Z _ _ _ _ _ _ _ _ 41 _ []
      refine z_aload C d_W_putInto_41 rfl ?_
      refine z_aload_n C d_W_putInto_43 rfl rfl ?_
      refine z_get C in_W hc0_38 rfl 2 (by decide) fl_W_23 rfl rfl d_W_putInto_44 ?_
      refine z_callV (rest := []) (n := 1) (As := [.ref (w + 5)]) C (p_copy E X.2.1 sz _ hq1_38 hn_38 (by omega) (by have := zp_lt hn_38; omega)) ⟨z_cb C k_P_copy ml_W_54 ii_P rfl rfl (by decide +kernel) ⟨by decide, by decide⟩, C.2.2.2.2.1 _ im_P_copy, C.2.2.2.2.1 _ se_P_copy⟩ (zp_c0 hq1_38) rfl rfl rfl (Nat.le_of_ble_eq_true rfl) d_W_putInto_47 ⟨by decide, by decide⟩ ?_
      intro v_47 s_47 M_47 hp_47
      obtain ⟨rfl, rfl, hn_47, ho_47⟩ := hp_47
      have hc0_47 := (ho_47 _ (by omega) (by omega)).trans hc0_38
      have hc1_47 := (ho_47 _ (by omega) (by omega)).trans hc1_38
      have hq0_47 := zp_o ho_47 hq0_38 (by omega)
      have hq2_47 := zp_o ho_47 hn_38 (by omega)
      have hq3_47 := zp_o ho_47 hq3_38 (by omega)
      have hq4_47 := zp_o ho_47 hq4_38 (by omega)
      have hq5_47 := zp_o ho_47 hq5_38 (by omega)
      show Z _ _ _ _ _ _ _ _ 50 _ []
      refine z_aload_n C d_W_putInto_50 rfl rfl ?_
      refine z_get C in_W hc0_47 rfl 2 (by decide) fl_W_23 rfl rfl d_W_putInto_51 ?_
      refine z_aload_n C d_W_putInto_54 rfl rfl ?_
      refine z_get C in_W hc0_47 rfl 3 (by decide) fl_W_26 rfl rfl d_W_putInto_55 ?_
      refine z_aload_n C d_W_putInto_58 rfl rfl ?_
      refine z_getN C in_F hc1_47 rfl 1 (by decide) fl_W_41 rfl rfl d_W_putInto_59 ?_
      refine z_callV (rest := []) (n := 2) (As := [.ref (w + 7), .ref (q2 + 3)]) C (p_setProduct E X.2.1 sz _ hq2_47 hq3_47 hq5_47 (by omega) (by omega) (by omega)) ⟨z_cb C k_P_setProduct ml_W_42 ii_P rfl rfl (by decide +kernel) ⟨by decide, by decide⟩, C.2.2.2.2.1 _ im_P_setProduct, C.2.2.2.2.1 _ se_P_setProduct⟩ (zp_c0 hq2_47) rfl rfl rfl (Nat.le_of_ble_eq_true rfl) d_W_putInto_62 ⟨by decide, by decide⟩ ?_
      intro v_62 s_62 M_62 hp_62
      obtain ⟨rfl, rfl, ⟨k_62, hn_62⟩, ho_62⟩ := hp_62
      have hc0_62 := (ho_62 _ (by omega) (by omega)).trans hc0_47
      have hc1_62 := (ho_62 _ (by omega) (by omega)).trans hc1_47
      have hq0_62 := zp_o ho_62 hq0_47 (by omega)
      have hq1_62 := zp_o ho_62 hn_47 (by omega)
      have hq3_62 := zp_o ho_62 hq3_47 (by omega)
      have hq4_62 := zp_o ho_62 hq4_47 (by omega)
      have hq5_62 := zp_o ho_62 hq5_47 (by omega)
      show Z _ _ _ _ _ _ _ _ 65 _ []
      refine z_aload_n C d_W_putInto_65 rfl rfl ?_
      refine z_get C in_W hc0_62 rfl 3 (by decide) fl_W_26 rfl rfl d_W_putInto_66 ?_
      refine z_aload_n C d_W_putInto_69 rfl rfl ?_
      refine z_get C in_W hc0_62 rfl 2 (by decide) fl_W_23 rfl rfl d_W_putInto_70 ?_
      refine z_callV (rest := []) (n := 1) (As := [.ref (w + 5)]) C (p_copy E X.2.1 sz _ hq3_62 hn_62 (by omega) (by have := zp_lt hn_62; omega)) ⟨z_cb C k_P_copy ml_W_54 ii_P rfl rfl (by decide +kernel) ⟨by decide, by decide⟩, C.2.2.2.2.1 _ im_P_copy, C.2.2.2.2.1 _ se_P_copy⟩ (zp_c0 hq3_62) rfl rfl rfl (Nat.le_of_ble_eq_true rfl) d_W_putInto_73 ⟨by decide, by decide⟩ ?_
      intro v_73 s_73 M_73 hp_73
      obtain ⟨rfl, rfl, hn_73, ho_73⟩ := hp_73
      have hc0_73 := (ho_73 _ (by omega) (by omega)).trans hc0_62
      have hc1_73 := (ho_73 _ (by omega) (by omega)).trans hc1_62
      have hq0_73 := zp_o ho_73 hq0_62 (by omega)
      have hq1_73 := zp_o ho_73 hq1_62 (by omega)
      have hq2_73 := zp_o ho_73 hn_62 (by omega)
      have hq4_73 := zp_o ho_73 hq4_62 (by omega)
      have hq5_73 := zp_o ho_73 hq5_62 (by omega)
      show Z _ _ _ _ _ _ _ _ 76 _ []
      refine z_aload C d_W_putInto_76 rfl ?_
      refine z_aload_n C d_W_putInto_78 rfl rfl ?_
      refine z_get C in_W hc0_73 rfl 3 (by decide) fl_W_26 rfl rfl d_W_putInto_79 ?_
      refine z_aload_n C d_W_putInto_82 rfl rfl ?_
      refine z_iload C d_W_putInto_83 rfl ?_
      refine z_top (y := nI j) (tI_s j) ?_
      refine z_callV (rest := [.ref (w + 7), .ref r]) (n := 1) (As := [.int (nI j)]) C (p_get E X.2.1 sz _ j (by omega) hq0_73) ⟨z_cb C k_P_get ml_W_86 ii_P rfl rfl (by decide +kernel) ⟨by decide, by decide⟩, C.2.2.2.2.1 _ im_P_get, C.2.2.2.2.1 _ se_P_get⟩ (zp_c0 hq0_73) rfl rfl rfl (Nat.le_of_ble_eq_true rfl) d_W_putInto_85 ⟨by decide, by decide⟩ ?_
      intro v_85 s_85 M_85 hp_85
      obtain ⟨rfl, rfl, rfl⟩ := hp_85
      show Z _ _ _ _ _ _ _ _ 88 _ [.int (fI (B j)), .ref (w + 7), .ref r]
      refine z_callV (rest := []) (n := 2) (As := [.ref (w + 7), .int (fI (B j))]) C (p_addMultiple E X.2.1 sz _ hq1_73 hn_73 (by omega) (by have := zp_lt hn_73; omega) (B j)) ⟨z_cb C k_P_addMultiple ml_W_46 ii_P rfl rfl (by decide +kernel) ⟨by decide, by decide⟩, C.2.2.2.2.1 _ im_P_addMultiple, C.2.2.2.2.1 _ se_P_addMultiple⟩ (zp_c0 hq1_73) rfl rfl rfl (Nat.le_of_ble_eq_true rfl) d_W_putInto_88 ⟨by decide, by decide⟩ ?_
      intro v_88 s_88 M_88 hp_88
      obtain ⟨rfl, rfl, ⟨k_88, hn_88⟩, ho_88⟩ := hp_88
      have hc0_88 := (ho_88 _ (by omega) (by omega)).trans hc0_73
      have hc1_88 := (ho_88 _ (by omega) (by omega)).trans hc1_73
      have hq0_88 := zp_o ho_88 hq0_73 (by omega)
      have hq2_88 := zp_o ho_88 hq2_73 (by omega)
      have hq3_88 := zp_o ho_88 hn_73 (by omega)
      have hq4_88 := zp_o ho_88 hq4_73 (by omega)
      have hq5_88 := zp_o ho_88 hq5_73 (by omega)
      show Z _ _ _ _ _ _ _ _ 91 _ []
      refine z_iinc (v := tI j) (L' := [(0, .ref w), (1, .ref b), (2, .int (nI H)), (3, .ref q2), (4, .ref r), (5, .int (tI j))]) C d_W_putInto_91 rfl (tI_dec j) (by decide) rfl ?_
      refine z_goto (tgt := 23) C d_W_putInto_94 (by decide) ?_
      rw [st] at hn_88
      have e7 : ps_mul (ps_pow D2 (H - (j + 1))) D2 = ps_pow D2 (H - j) := by
        rw [show H - j = (H - (j + 1)) + 1 by omega]; rfl
      rw [e7] at hq3_88
      exact ih _ _ _ _ _ (by omega) hc0_88 hq0_88 ⟨hc1_88, hq4_88, hq5_88⟩ hn_88 hq2_88 hq3_88 (fun q q1 q2 q3 => (ho_88 q q1 q2).trans ((ho_73 q (by omega) (by omega)).trans ((ho_62 q (by omega) (by omega)).trans ((ho_47 q q1 q2).trans ((ho_38 q (by omega) (by omega)).trans (hfr q q1 q2 q3))))))
  show Z X E 6 _ 0 0 sz M 0 [(0, .ref w), (1, .ref b), (2, .int (nI H)), (3, .ref q2), (4, .ref r)] []
  refine z_aload C d_W_putInto_0 rfl ?_
  refine z_aload_n C d_W_putInto_2 rfl rfl ?_
  refine z_iload_n C d_W_putInto_3 rfl rfl ?_
  refine z_callV (rest := [.ref r]) (n := 1) (As := [.int (nI H)]) C (p_get E X.2.1 sz _ H (by omega) hb) ⟨z_cb C k_P_get ml_W_86 ii_P rfl rfl (by decide +kernel) ⟨by decide, by decide⟩, C.2.2.2.2.1 _ im_P_get, C.2.2.2.2.1 _ se_P_get⟩ (zp_c0 hb) rfl rfl rfl (Nat.le_of_ble_eq_true rfl) d_W_putInto_4 ⟨by decide, by decide⟩ ?_
  intro v_4 s_4 M_4 hp_4
  obtain ⟨rfl, rfl, rfl⟩ := hp_4
  show Z _ _ _ _ _ _ _ _ 7 _ [.int (fI (B H)), .ref r]
  refine z_callV (rest := []) (n := 1) (As := [.int (fI (B H))]) C (p_setConstant E X.2.1 sz _ hr (by omega) (B H)) ⟨z_cb C k_P_setConstant ml_W_78 ii_P rfl rfl (by decide +kernel) ⟨by decide, by decide⟩, C.2.2.2.2.1 _ im_P_setConstant, C.2.2.2.2.1 _ se_P_setConstant⟩ (zp_c0 hr) rfl rfl rfl (Nat.le_of_ble_eq_true rfl) d_W_putInto_7 ⟨by decide, by decide⟩ ?_
  intro v_7 s_7 M_7 hp_7
  obtain ⟨rfl, rfl, hn_7, ho_7⟩ := hp_7
  have hc0_7 := (ho_7 _ (by omega) (by omega)).trans hw0
  have hc1_7 := (ho_7 _ (by omega) (by omega)).trans h2.1
  have hq0_7 := zp_o ho_7 hb (by omega)
  have hq2_7 := zp_o ho_7 h5 (by omega)
  have hq3_7 := zp_o ho_7 h7 (by omega)
  have hq4_7 := zp_o ho_7 h2.2.1 (by omega)
  have hq5_7 := zp_o ho_7 h2.2.2 (by omega)
  show Z _ _ _ _ _ _ _ _ 10 _ []
  refine z_aload_n C d_W_putInto_10 rfl rfl ?_
  refine z_get C in_W hc0_7 rfl 3 (by decide) fl_W_26 rfl rfl d_W_putInto_11 ?_
  refine z_iconst (v := fI 1) C d_W_putInto_14 (by decide) ?_
  refine z_callV (rest := []) (n := 1) (As := [.int (fI 1)]) C (p_setConstant E X.2.1 sz _ hq3_7 (by omega) 1) ⟨z_cb C k_P_setConstant ml_W_78 ii_P rfl rfl (by decide +kernel) ⟨by decide, by decide⟩, C.2.2.2.2.1 _ im_P_setConstant, C.2.2.2.2.1 _ se_P_setConstant⟩ (zp_c0 hq3_7) rfl rfl rfl (Nat.le_of_ble_eq_true rfl) d_W_putInto_15 ⟨by decide, by decide⟩ ?_
  intro v_15 s_15 M_15 hp_15
  obtain ⟨rfl, rfl, hn_15, ho_15⟩ := hp_15
  have hc0_15 := (ho_15 _ (by omega) (by omega)).trans hc0_7
  have hc1_15 := (ho_15 _ (by omega) (by omega)).trans hc1_7
  have hq0_15 := zp_o ho_15 hq0_7 (by omega)
  have hq1_15 := zp_o ho_15 hn_7 (by omega)
  have hq2_15 := zp_o ho_15 hq2_7 (by omega)
  have hq4_15 := zp_o ho_15 hq4_7 (by omega)
  have hq5_15 := zp_o ho_15 hq5_7 (by omega)
  show Z _ _ _ _ _ _ _ _ 18 _ []
  refine z_iload_n C d_W_putInto_18 rfl rfl ?_
  refine z_iconst (v := 1) C d_W_putInto_19 (by decide) ?_
  refine z_isub C d_W_putInto_20 ?_
  refine z_top (y := tI H) (rfl) ?_
  refine z_istore (L' := [(0, .ref w), (1, .ref b), (2, .int (nI H)), (3, .ref q2), (4, .ref r), (5, .int (tI H))]) C d_W_putInto_21 (by decide) rfl ?_
  exact loop H _ _ _ _ _ (Nat.le_refl H) hc0_15 hq0_15 ⟨hc1_15, hq4_15, hq5_15⟩ (by rw [Nat.sub_self]; exact hq1_15) hq2_15 (by rw [Nat.sub_self]; exact hn_15) (fun q q1 q2 q3 => (ho_15 q (by omega) (by omega)).trans ((ho_7 q q1 q2).trans (rfl)))
set_option maxHeartbeats 4000000 in
/-- Workshop.compose -/
theorem w_compose (E : zE) (l : Launch) (sz : Nat) (M : zM) {w kw1 kw3 : Nat} {Pw1 Pw3 : PS} (hw : zsh E M w kw1 kw3 Pw1 Pw3) {q1 kn1 kd1 : Nat} {N1 D1 : PS} (h1 : zf E M q1 kn1 kd1 N1 D1) (a1 : q1 + 5 ≤ w ∨ w + 15 ≤ q1){q2 kn2 kd2 : Nat} {N2 D2 : PS} (h2 : zf E M q2 kn2 kd2 N2 D2) (a2 : q2 + 5 ≤ w ∨ w + 15 ≤ q2) (hd1 : 1 ≤ kd1) (hd2 : 1 ≤ kd2) : zMet E l y_W_compose c_W_compose 4 (some .int) { frames := 3, cells := 0, slots := 0, locals := 71 } 0 0 [.ref w, .ref q1, .ref q2] sz M (fun v s M' => (12 < (max kn1 kd1 - 1) * (max kn2 kd2 - 1) ∧ some (.int (-6)) = v ∧ sz = s ∧ M = M') ∨ ((max kn1 kd1 - 1) * (max kn2 kd2 - 1) ≤ 12 ∧ sz = s ∧ zoutR M M' (w + 1) (w + 15) ∧ ∃ x y, zsh E M' w x y (hom (max kn1 kd1 - 1) N1 N2 D2) (hom (max kn1 kd1 - 1) D1 N2 D2) ∧ ((y = 0 ∧ some (.int (-5)) = v) ∨ (y ≠ 0 ∧ some (.int 0) = v)))) := by
  obtain ⟨hw0, hw1, hw3, ⟨kw5, Pw5, hw5⟩, ⟨kw7, Pw7, hw7⟩, ⟨kw9, Pw9, hw9⟩, ⟨kw11, Pw11, hw11⟩, ⟨kw13, Pw13, hw13⟩⟩ := id hw
  have b1 := zp_lt h1.2.1
  have b2 := zp_lt h1.2.2
  have b3 := zp_lt h2.2.1
  have b4 := zp_lt h2.2.2
  obtain ⟨H1, hH1⟩ : ∃ H, H = max kn1 kd1 - 1 := ⟨_, rfl⟩
  obtain ⟨H2, hH2⟩ : ∃ H, H = max kn2 kd2 - 1 := ⟨_, rfl⟩
  have e1 : max kn1 kd1 = H1 + 1 := by omega
  have e2 : max kn2 kd2 = H2 + 1 := by omega
  rw [← hH1, ← hH2]
  have hp : ∀ i, H2 < i → N2 i = 0 := fun i hi => (zp_pol h2.2.1).1 i (by omega)
  have hq : ∀ i, H2 < i → D2 i = 0 := fun i hi => (zp_pol h2.2.2).1 i (by omega)
  refine zMet.ofZ (by decide) (Nat.le_of_ble_eq_true rfl) ?_
  intro X hl hini C
  show Z X E 4 _ 0 0 sz M 0 [(0, .ref w), (1, .ref q1), (2, .ref q2)] []
  refine z_aload_n C d_W_compose_0 rfl rfl ?_
  refine z_callV (rest := []) (n := 0) (As := []) C (f_height E X.2.1 sz _ h1) ⟨z_cb C k_F_height ml_W_70 ii_F rfl rfl (by decide +kernel) ⟨by decide, by decide⟩, C.2.2.2.2.1 _ im_F_height, C.2.2.2.2.1 _ se_F_height⟩ h1.1 rfl rfl rfl (Nat.le_of_ble_eq_true rfl) d_W_compose_1 ⟨by decide, by decide⟩ ?_
  intro v_1 s_1 M_1 hp_1
  obtain ⟨rfl, rfl, rfl⟩ := hp_1
  show Z _ _ _ _ _ _ _ _ 4 _ [.int (tI (max kn1 kd1))]
  refine z_top (y := nI H1) (by rw [e1, tI_s]) ?_
  refine z_istore_n (L' := [(0, .ref w), (1, .ref q1), (2, .ref q2), (3, .int (nI H1))]) C d_W_compose_4 rfl (by decide) rfl ?_
  refine z_iload_n C d_W_compose_5 rfl rfl ?_
  refine z_aload_n C d_W_compose_6 rfl rfl ?_
  refine z_callV (rest := [.int (nI H1)]) (n := 0) (As := []) C (f_height E X.2.1 sz _ h2) ⟨z_cb C k_F_height ml_W_70 ii_F rfl rfl (by decide +kernel) ⟨by decide, by decide⟩, C.2.2.2.2.1 _ im_F_height, C.2.2.2.2.1 _ se_F_height⟩ h2.1 rfl rfl rfl (Nat.le_of_ble_eq_true rfl) d_W_compose_7 ⟨by decide, by decide⟩ ?_
  intro v_7 s_7 M_7 hp_7
  obtain ⟨rfl, rfl, rfl⟩ := hp_7
  show Z _ _ _ _ _ _ _ _ 10 _ [.int (tI (max kn2 kd2)), .int (nI H1)]
  refine z_top (y := nI H2) (by rw [e2, tI_s]) ?_
  refine z_imul C d_W_compose_10 ?_
  refine z_top (y := nI (H1 * H2)) (pk_mul H1 H2) ?_
  refine z_bipush (v := 12) C d_W_compose_11 (by decide) ?_
  refine z_icmp_le (tgt := 19) C d_W_compose_13 (by decide) (fun c13 => ?_) (fun c13 => ?_)
  · have c13 : H1 * H2 ≤ 12 := by
      rcases Nat.lt_or_ge 12 (H1 * H2) with q | q
      · exact absurd c13 (by show ¬ nI (H1 * H2) ≤ nI 12; exact nI_ge q (by have : H1 * H2 ≤ 24 * 24 := Nat.mul_le_mul (by omega) (by omega); omega))
      · exact q
    refine z_aload_n C d_W_compose_19 rfl rfl ?_
    refine z_aload_n C d_W_compose_20 rfl rfl ?_
    refine z_getN C in_F h1.1 rfl 0 (by decide) fl_W_38 rfl rfl d_W_compose_21 ?_
    refine z_iload_n C d_W_compose_24 rfl rfl ?_
    refine z_aload_n C d_W_compose_25 rfl rfl ?_
    refine z_aload_n C d_W_compose_26 rfl rfl ?_
    refine z_get C in_W hw0 rfl 0 (by decide) fl_W_16 rfl rfl d_W_compose_27 ?_
    refine z_callV (rest := []) (n := 4) (As := [.ref (q1 + 1), .int (nI H1), .ref q2, .ref (w + 1)]) C (w_putInto (H := H1) (K := H2) E X.2.1 sz _ hw0 h1.2.1 hw1 hw5 hw7 ⟨h2.1, h2.2.1, h2.2.2⟩ a2 (by omega) (by omega) c13 (by omega) hp hq) ⟨z_cb C k_W_putInto ml_W_81 ii_W rfl rfl (by decide +kernel) ⟨by decide, by decide⟩, C.2.2.2.2.1 _ im_W_putInto, C.2.2.2.2.1 _ se_W_putInto⟩ hw0 rfl rfl rfl (Nat.le_of_ble_eq_true rfl) d_W_compose_30 ⟨by decide, by decide⟩ ?_
    intro v_30 s_30 M_30 hp_30
    obtain ⟨rfl, rfl, ⟨k_30, hn_30⟩, ⟨k5_30, P5_30, h5_30⟩, ⟨k7_30, P7_30, h7_30⟩, hf_30⟩ := hp_30
    have hc0_30 := (hf_30 _ (by omega) (by omega) (by omega)).trans hw0
    have hc1_30 := (hf_30 _ (by omega) (by omega) (by omega)).trans h1.1
    have hc2_30 := (hf_30 _ (by omega) (by omega) (by omega)).trans h2.1
    have hq1_30 := zp_kept hw3 (hf_30 _ (by omega) (by omega) (by omega)) (hf_30 _ (by omega) (by omega) (by omega))
    have hq4_30 := zp_kept hw9 (hf_30 _ (by omega) (by omega) (by omega)) (hf_30 _ (by omega) (by omega) (by omega))
    have hq5_30 := zp_kept hw11 (hf_30 _ (by omega) (by omega) (by omega)) (hf_30 _ (by omega) (by omega) (by omega))
    have hq6_30 := zp_kept hw13 (hf_30 _ (by omega) (by omega) (by omega)) (hf_30 _ (by omega) (by omega) (by omega))
    have hq7_30 := zp_kept h1.2.1 (hf_30 _ (by omega) (by omega) (by omega)) (hf_30 _ (by omega) (by omega) (by omega))
    have hq8_30 := zp_kept h1.2.2 (hf_30 _ (by omega) (by omega) (by omega)) (hf_30 _ (by omega) (by omega) (by omega))
    have hq9_30 := zp_kept h2.2.1 (hf_30 _ (by omega) (by omega) (by omega)) (hf_30 _ (by omega) (by omega) (by omega))
    have hq10_30 := zp_kept h2.2.2 (hf_30 _ (by omega) (by omega) (by omega)) (hf_30 _ (by omega) (by omega) (by omega))
    have hR_30 : zoutR M M_30 (w + 1) (w + 15) := fun q hq => hf_30 q (by omega) (by omega) (by omega)
    show Z _ _ _ _ _ _ _ _ 33 _ []
    refine z_aload_n C d_W_compose_33 rfl rfl ?_
    refine z_aload_n C d_W_compose_34 rfl rfl ?_
    refine z_getN C in_F hc1_30 rfl 1 (by decide) fl_W_41 rfl rfl d_W_compose_35 ?_
    refine z_iload_n C d_W_compose_38 rfl rfl ?_
    refine z_aload_n C d_W_compose_39 rfl rfl ?_
    refine z_aload_n C d_W_compose_40 rfl rfl ?_
    refine z_get C in_W hc0_30 rfl 1 (by decide) fl_W_20 rfl rfl d_W_compose_41 ?_
    refine z_callV (rest := []) (n := 4) (As := [.ref (q1 + 3), .int (nI H1), .ref q2, .ref (w + 3)]) C (w_putInto (H := H1) (K := H2) E X.2.1 sz _ hc0_30 hq8_30 hq1_30 h5_30 h7_30 ⟨hc2_30, hq9_30, hq10_30⟩ a2 (by omega) (by omega) c13 (by omega) hp hq) ⟨z_cb C k_W_putInto ml_W_81 ii_W rfl rfl (by decide +kernel) ⟨by decide, by decide⟩, C.2.2.2.2.1 _ im_W_putInto, C.2.2.2.2.1 _ se_W_putInto⟩ hc0_30 rfl rfl rfl (Nat.le_of_ble_eq_true rfl) d_W_compose_44 ⟨by decide, by decide⟩ ?_
    intro v_44 s_44 M_44 hp_44
    obtain ⟨rfl, rfl, ⟨k_44, hn_44⟩, ⟨k5_44, P5_44, h5_44⟩, ⟨k7_44, P7_44, h7_44⟩, hf_44⟩ := hp_44
    have hc0_44 := (hf_44 _ (by omega) (by omega) (by omega)).trans hc0_30
    have hc1_44 := (hf_44 _ (by omega) (by omega) (by omega)).trans hc1_30
    have hc2_44 := (hf_44 _ (by omega) (by omega) (by omega)).trans hc2_30
    have hq0_44 := zp_kept hn_30 (hf_44 _ (by omega) (by omega) (by omega)) (hf_44 _ (by omega) (by omega) (by omega))
    have hq4_44 := zp_kept hq4_30 (hf_44 _ (by omega) (by omega) (by omega)) (hf_44 _ (by omega) (by omega) (by omega))
    have hq5_44 := zp_kept hq5_30 (hf_44 _ (by omega) (by omega) (by omega)) (hf_44 _ (by omega) (by omega) (by omega))
    have hq6_44 := zp_kept hq6_30 (hf_44 _ (by omega) (by omega) (by omega)) (hf_44 _ (by omega) (by omega) (by omega))
    have hq7_44 := zp_kept hq7_30 (hf_44 _ (by omega) (by omega) (by omega)) (hf_44 _ (by omega) (by omega) (by omega))
    have hq8_44 := zp_kept hq8_30 (hf_44 _ (by omega) (by omega) (by omega)) (hf_44 _ (by omega) (by omega) (by omega))
    have hq9_44 := zp_kept hq9_30 (hf_44 _ (by omega) (by omega) (by omega)) (hf_44 _ (by omega) (by omega) (by omega))
    have hq10_44 := zp_kept hq10_30 (hf_44 _ (by omega) (by omega) (by omega)) (hf_44 _ (by omega) (by omega) (by omega))
    have hR_44 : zoutR M_30 M_44 (w + 1) (w + 15) := fun q hq => hf_44 q (by omega) (by omega) (by omega)
    show Z _ _ _ _ _ _ _ _ 47 _ []
    refine z_aload_n C d_W_compose_47 rfl rfl ?_
    refine z_get C in_W hc0_44 rfl 1 (by decide) fl_W_20 rfl rfl d_W_compose_48 ?_
    refine z_callV (rest := []) (n := 0) (As := []) C (p_isZero E X.2.1 sz _ hn_44) ⟨z_cb C k_P_isZero ml_W_85 ii_P rfl rfl (by decide +kernel) ⟨by decide, by decide⟩, C.2.2.2.2.1 _ im_P_isZero, C.2.2.2.2.1 _ se_P_isZero⟩ (zp_c0 hn_44) rfl rfl rfl (Nat.le_of_ble_eq_true rfl) d_W_compose_51 ⟨by decide, by decide⟩ ?_
    intro v_51 s_51 M_51 hp_51
    obtain ⟨rfl, rfl, rfl⟩ := hp_51
    show Z _ _ _ _ _ _ _ _ 54 _ [.int (if k_44 = 0 then 1 else 0)]
    refine z_if_eq (tgt := 62) C d_W_compose_54 (by decide) (fun c54 => ?_) (fun c54 => ?_)
    · have c54 : k_44 ≠ 0 := fun q => by rw [if_pos q] at c54; exact absurd c54 (by decide)
      refine z_iconst (v := 0) C d_W_compose_62 (by decide) ?_
      exact z_iret C (Or.inr ⟨c13, rfl, zoutR_tr (zoutR_tr zoutR_rf hR_30) hR_44, _, _, ⟨hc0_44, hq0_44, hn_44, ⟨_, _, h5_44⟩, ⟨_, _, h7_44⟩, ⟨_, _, hq4_44⟩, ⟨_, _, hq5_44⟩, ⟨_, _, hq6_44⟩⟩, Or.inr ⟨c54, rfl⟩⟩) d_W_compose_63
    · have c54 : k_44 = 0 := by
        by_cases q : k_44 = 0
        · exact q
        · exact absurd (if_neg q) c54
      refine z_bipush (v := -5) C d_W_compose_57 (by decide) ?_
      refine z_goto (tgt := 63) C d_W_compose_59 (by decide) ?_
      exact z_iret C (Or.inr ⟨c13, rfl, zoutR_tr (zoutR_tr zoutR_rf hR_30) hR_44, _, _, ⟨hc0_44, hq0_44, hn_44, ⟨_, _, h5_44⟩, ⟨_, _, h7_44⟩, ⟨_, _, hq4_44⟩, ⟨_, _, hq5_44⟩, ⟨_, _, hq6_44⟩⟩, Or.inl ⟨c54, rfl⟩⟩) d_W_compose_63
  · have c13 : 12 < H1 * H2 := by
      rcases Nat.lt_or_ge 12 (H1 * H2) with q | q
      · exact q
      · exact absurd (by show nI (H1 * H2) ≤ nI 12; exact nI_le q (by decide)) c13
    refine z_bipush (v := -6) C d_W_compose_16 (by decide) ?_
    exact z_iret C (Or.inl ⟨c13, rfl, rfl, rfl⟩) d_W_compose_18
end
section
theorem fi_turn {k q r s : Nat} (hq : q ≠ 0) : fi_loop (k + 1) q r s = fi_loop k (q / 2) (if q % 2 = 1 then r * s % 10007 else r) (s * s % 10007) := by
  have e : Nat.beq q 0 = false := by
    cases h : Nat.beq q 0 with
    | true => exact absurd (Nat.eq_of_beq_eq_true h) hq
    | false => rfl
  rw [fi_loop, e]
  simp only [cond_false]
  by_cases h : q % 2 = 1
  · rw [if_pos h, h]; rfl
  · rw [if_neg h]
    have e2 : Nat.beq (q % 2) 1 = false := by
      cases h2 : Nat.beq (q % 2) 1 with
      | true => exact absurd (Nat.eq_of_beq_eq_true h2) h
      | false => rfl
    rw [e2]; rfl
theorem fi_stop {k r s : Nat} : fi_loop k 0 r s = r := by
  cases k <;> rfl
theorem nI_mm {a b : Nat} (ha : a < 10007) (hb : b < 10007) : nI a * nI b - nI a * nI b / 10007 * 10007 = nI (a * b % 10007) := by
  have h : a * b ≤ 10006 * 10006 := Nat.mul_le_mul (by omega) (by omega)
  rw [pk_mul, nI_mod (by omega)]
set_option maxHeartbeats 4000000 in
/-- RationalSession.inverse -/
theorem s_inverse (E : zE) (l : Launch) (sz : Nat) (M : zM) (c : FF) : zMet E l y_S_inverse c_S_inverse 4 (some .int) { frames := 0, cells := 0, slots := 0, locals := 0 } 0 0 [.int (fI c)] sz M (zRet (some (.int (fI (ff_inv c)))) sz M) := by
  refine zMet.ofZ (by decide) (Nat.le_of_ble_eq_true rfl) ?_
  intro X hl hini C
  have loop : ∀ (k q r s : Nat), q < 2 ^ k → q < 20000 → r < 10007 → s < 10007 → fi_loop k q r s = fi c.val → Z X E 4 (zQ X E 0 0 (zRet (some (.int (fI (ff_inv c)))) sz M)) 0 0 sz M 8 [(0, .int (fI c)), (1, .int (nI r)), (2, .int (nI s)), (3, .int (nI q))] [] := by
    intro k
    induction k with
    | zero =>
      intro q r s h1 h2 h3 h4 h5
      have hq : q = 0 := by omega
      subst hq
      refine z_iload_n C d_S_inverse_8 rfl rfl ?_
      refine z_if_le (tgt := 42) C d_S_inverse_9 (by decide) (fun _ => ?_) (fun c_9 => absurd (by decide) c_9)
      refine z_iload_n C d_S_inverse_42 rfl rfl ?_
      refine z_iret C ⟨?_, rfl, rfl⟩ d_S_inverse_43
      congr 2
      show nI (fi c.val % 10007) = nI r
      rw [Nat.mod_eq_of_lt (fi_lt c.isLt), ← h5, fi_stop]
    | succ k ih =>
      intro q r s h1 h2 h3 h4 h5
      refine z_iload_n C d_S_inverse_8 rfl rfl ?_
      refine z_if_le (tgt := 42) C d_S_inverse_9 (by decide) (fun c9 => ?_) (fun c9 => ?_)
      · have c9 : q = 0 := by
          rcases Nat.eq_zero_or_pos q with e | e
          · exact e
          · exact absurd c9 (nI_nle e (by omega))
        subst c9
        refine z_iload_n C d_S_inverse_42 rfl rfl ?_
        refine z_iret C ⟨?_, rfl, rfl⟩ d_S_inverse_43
        congr 2
        show nI (fi c.val % 10007) = nI r
        rw [Nat.mod_eq_of_lt (fi_lt c.isLt), ← h5, fi_stop]
      · have c9 : q ≠ 0 := fun e => c9 (by rw [e]; decide)
        refine z_iload_n C d_S_inverse_12 rfl rfl ?_
        refine z_iconst (v := nI 2) C d_S_inverse_13 (by decide) ?_
        refine z_irem C d_S_inverse_14 (by decide) ?_
        refine z_top (y := nI (q % 2)) (pk_rem (by omega) (by decide) (by decide)) ?_
        refine z_iconst (v := nI 1) C d_S_inverse_15 (by decide) ?_
        refine z_icmp_ne (tgt := 27) C d_S_inverse_16 (by decide) (fun c16 => ?_) (fun c16 => ?_)
        · have c16 : ¬ q % 2 = 1 := fun e => c16 (by rw [e])
          refine z_iload_n C d_S_inverse_27 rfl rfl ?_
          refine z_iload_n C d_S_inverse_28 rfl rfl ?_
          refine z_imul C d_S_inverse_29 ?_
          refine z_sipush (v := 10007) C d_S_inverse_30 (by decide) ?_
          refine z_irem C d_S_inverse_33 (by decide) ?_
          refine z_top (y := nI (s * s % 10007)) (nI_mm h4 h4) ?_
          refine z_istore_n (L' := [(0, .int (fI c)), (1, .int (nI r)), (2, .int (nI (s * s % 10007))), (3, .int (nI q))]) C d_S_inverse_34 rfl (by decide) rfl ?_
          refine z_iload_n C d_S_inverse_35 rfl rfl ?_
          refine z_iconst (v := nI 2) C d_S_inverse_36 (by decide) ?_
          refine z_idiv C d_S_inverse_37 (by decide) ?_
          refine z_top (y := nI (q / 2)) (pk_div (by omega) (by decide) (by decide)) ?_
          refine z_istore_n (L' := [(0, .int (fI c)), (1, .int (nI r)), (2, .int (nI (s * s % 10007))), (3, .int (nI (q / 2)))]) C d_S_inverse_38 rfl (by decide) rfl ?_
          refine z_goto (tgt := 8) C d_S_inverse_39 (by decide) ?_
          exact ih (q / 2) _ _ (by rw [Nat.pow_succ] at h1; omega) (by omega) h3 (Nat.mod_lt _ (by decide)) (by rw [← h5, fi_turn c9, if_neg c16])
        · have c16 : q % 2 = 1 := (nI_eq (by omega) (by decide)).mp c16
          refine z_iload_n C d_S_inverse_19 rfl rfl ?_
          refine z_iload_n C d_S_inverse_20 rfl rfl ?_
          refine z_imul C d_S_inverse_21 ?_
          refine z_sipush (v := 10007) C d_S_inverse_22 (by decide) ?_
          refine z_irem C d_S_inverse_25 (by decide) ?_
          refine z_top (y := nI (r * s % 10007)) (nI_mm h3 h4) ?_
          refine z_istore_n (L' := [(0, .int (fI c)), (1, .int (nI (r * s % 10007))), (2, .int (nI s)), (3, .int (nI q))]) C d_S_inverse_26 rfl (by decide) rfl ?_
          refine z_iload_n C d_S_inverse_27 rfl rfl ?_
          refine z_iload_n C d_S_inverse_28 rfl rfl ?_
          refine z_imul C d_S_inverse_29 ?_
          refine z_sipush (v := 10007) C d_S_inverse_30 (by decide) ?_
          refine z_irem C d_S_inverse_33 (by decide) ?_
          refine z_top (y := nI (s * s % 10007)) (nI_mm h4 h4) ?_
          refine z_istore_n (L' := [(0, .int (fI c)), (1, .int (nI (r * s % 10007))), (2, .int (nI (s * s % 10007))), (3, .int (nI q))]) C d_S_inverse_34 rfl (by decide) rfl ?_
          refine z_iload_n C d_S_inverse_35 rfl rfl ?_
          refine z_iconst (v := nI 2) C d_S_inverse_36 (by decide) ?_
          refine z_idiv C d_S_inverse_37 (by decide) ?_
          refine z_top (y := nI (q / 2)) (pk_div (by omega) (by decide) (by decide)) ?_
          refine z_istore_n (L' := [(0, .int (fI c)), (1, .int (nI (r * s % 10007))), (2, .int (nI (s * s % 10007))), (3, .int (nI (q / 2)))]) C d_S_inverse_38 rfl (by decide) rfl ?_
          refine z_goto (tgt := 8) C d_S_inverse_39 (by decide) ?_
          exact ih (q / 2) _ _ (by rw [Nat.pow_succ] at h1; omega) (by omega) (Nat.mod_lt _ (by decide)) (Nat.mod_lt _ (by decide)) (by rw [← h5, fi_turn c9, if_pos c16])
  show Z X E 4 _ 0 0 sz M 0 [(0, .int (fI c))] []
  refine z_iconst (v := nI 1) C d_S_inverse_0 (by decide) ?_
  refine z_istore_n (L' := [(0, .int (fI c)), (1, .int (nI 1))]) C d_S_inverse_1 rfl (by decide) rfl ?_
  refine z_iload_n C d_S_inverse_2 rfl rfl ?_
  refine z_istore_n (L' := [(0, .int (fI c)), (1, .int (nI 1)), (2, .int (fI c))]) C d_S_inverse_3 rfl (by decide) rfl ?_
  refine z_sipush (v := nI 10005) C d_S_inverse_4 (by decide) ?_
  refine z_istore_n (L' := [(0, .int (fI c)), (1, .int (nI 1)), (2, .int (fI c)), (3, .int (nI 10005))]) C d_S_inverse_7 rfl (by decide) rfl ?_
  exact loop 14 10005 1 c.val (by decide) (by decide) (by decide) c.isLt rfl
theorem zp_eq {E : zE} {M : zM} {a n k m : Nat} {P : PS} (h : zp E M a n k P) (hz : ∀ i, m < i → P i = 0) (hm : P m ≠ 0) : k = m + 1 := by
  have h1 := zp_le h (m := m + 1) (fun i hi => hz i hi)
  rcases Nat.lt_or_ge m k with q | q
  · omega
  · exact absurd ((zp_pol h).1 m q) hm
theorem ps_0e {P : PS} (h : ∀ i, P i = 0) : P = ps_0 := by
  funext i
  exact h i
theorem ps_Ce {P : PS} (h : ∀ i, 1 ≤ i → P i = 0) : P = ps_C (P 0) := by
  funext i
  by_cases hi : i = 0
  · subst hi; simp [ps_C]
  · rw [h i (by omega)]; simp [ps_C, hi]
theorem rep_pol9 {E : zE} {M : zM} {a n k : Nat} {P : PS} (h : zp E M a n k P) : pol P := ⟨k, (zp_pol h).1⟩
/-- what Euclid's way leaves -/
def gcdR (N D : PS) (kg : Nat) (G : PS) : Prop := (kg ≤ 1 ∧ cop N D) ∨ (2 ≤ kg ∧ G (kg - 1) = 1 ∧ ∃ o u : PS, pol o ∧ pol u ∧ N = ps_mul o G ∧ D = ps_mul u G ∧ cop o u)
set_option maxHeartbeats 4000000 in
/-- Workshop.commonDivisor -/
theorem w_gcd (E : zE) (l : Launch) (sz : Nat) (M : zM) {w kn kd : Nat} {N D : PS} (hw : zsh E M w kn kd N D) (hkn : 1 ≤ kn) (hkd : 1 ≤ kd) : zMet E l y_W_commonDivisor c_W_commonDivisor 5 (some (FieldType.object "RationalSession$Polynomial")) { frames := 2, cells := 0, slots := 0, locals := 48 } 0 0 [.ref w] sz M (fun v s M' => sz = s ∧ zoutR M M' (w + 9) (w + 15) ∧ (∃ k P, zp E M' (w + 9) 25 k P) ∧ (∃ k P, zp E M' (w + 11) 25 k P) ∧ (∃ k P, zp E M' (w + 13) 25 k P) ∧ ∃ g : Nat, some (.ref g) = v ∧ (g = w + 9 ∨ g = w + 11) ∧ ∃ kg G, zp E M' g 25 kg G ∧ gcdR N D kg G) := by
  obtain ⟨hw0, hw1, hw3, ⟨kw5, Pw5, hw5⟩, ⟨kw7, Pw7, hw7⟩, ⟨kw9, Pw9, hw9⟩, ⟨kw11, Pw11, hw11⟩, ⟨kw13, Pw13, hw13⟩⟩ := id hw
  have b1 := zp_lt hw1
  have b3 := zp_lt hw3
  refine zMet.ofZ (by decide) (Nat.le_of_ble_eq_true rfl) ?_
  intro X hl hini C
  have fin : ∀ (i a b : Nat) (M1 : zM) (kl kr kq : Nat) (Lp Rp Qp : PS), (a = w + 9 ∧ b = w + 11 ∨ a = w + 11 ∧ b = w + 9) → M1 w = some (.inr (9, [.ref (w + 1), .ref (w + 3), .ref (w + 5), .ref (w + 7), .ref (w + 9), .ref (w + 11), .ref (w + 13)])) → zp E M1 a 25 kl Lp → zp E M1 b 25 kr Rp → zp E M1 (w + 13) 25 kq Qp → zoutR M M1 (w + 9) (w + 15) → span Lp Rp N D → span N D Lp Rp → 1 ≤ kl → (i = 0 ∧ 1 ≤ kr ∨ 2 ≤ kl ∧ Lp (kl - 1) = 1) → kr ≤ 1 → Z X E 5 (zQ X E 0 0 (fun v s M' => sz = s ∧ zoutR M M' (w + 9) (w + 15) ∧ (∃ k P, zp E M' (w + 9) 25 k P) ∧ (∃ k P, zp E M' (w + 11) 25 k P) ∧ (∃ k P, zp E M' (w + 13) 25 k P) ∧ ∃ g : Nat, some (.ref g) = v ∧ (g = w + 9 ∨ g = w + 11) ∧ ∃ kg G, zp E M' g 25 kg G ∧ gcdR N D kg G)) 0 0 sz M1 75 [(0, .ref w), (1, .ref a), (2, .ref b), (3, .int (nI i))] [] := by
    intro i a b M1 kl kr kq Lp Rp Qp hab g0 ga gb gq hfr s1 s2 hkl hmon hkr
    have e9 : (∃ k P, zp E M1 (w + 9) 25 k P) ∧ ∃ k P, zp E M1 (w + 11) 25 k P := by
      rcases hab with ⟨rfl, rfl⟩ | ⟨rfl, rfl⟩
      · exact ⟨⟨_, _, ga⟩, ⟨_, _, gb⟩⟩
      · exact ⟨⟨_, _, gb⟩, ⟨_, _, ga⟩⟩
    have ea : a = w + 9 ∨ a = w + 11 := by
      rcases hab with ⟨e, -⟩ | ⟨e, -⟩
      · exact Or.inl e
      · exact Or.inr e
    have eb : b = w + 9 ∨ b = w + 11 := by
      rcases hab with ⟨-, e⟩ | ⟨-, e⟩
      · exact Or.inr e
      · exact Or.inl e
    refine z_aload_n C d_W_commonDivisor_75 rfl rfl ?_
    refine z_callV (rest := []) (n := 0) (As := []) C (p_isZero E X.2.1 sz _ gb) ⟨z_cb C k_P_isZero ml_W_85 ii_P rfl rfl (by decide +kernel) ⟨by decide, by decide⟩, C.2.2.2.2.1 _ im_P_isZero, C.2.2.2.2.1 _ se_P_isZero⟩ (zp_c0 gb) rfl rfl rfl (Nat.le_of_ble_eq_true rfl) d_W_commonDivisor_76 ⟨by decide, by decide⟩ ?_
    intro v_76 s_76 M_76 hp_76
    obtain ⟨rfl, rfl, rfl⟩ := hp_76
    show Z _ _ _ _ _ _ _ _ 79 _ [.int (if kr = 0 then 1 else 0)]
    refine z_if_eq (tgt := 86) C d_W_commonDivisor_79 (by decide) (fun c79 => ?_) (fun c79 => ?_)
    · have c79 : kr ≠ 0 := fun q => by rw [if_pos q] at c79; exact absurd c79 (by decide)
      refine z_aload_n C d_W_commonDivisor_86 rfl rfl ?_
      have kr1 : kr = 1 := by omega
      have zr : Rp = ps_C (Rp 0) := ps_Ce (fun i hi => (zp_pol gb).1 i (by omega))
      have nz : Rp 0 ≠ 0 := (zp_pol gb).2 0 (by omega)
      rw [zr] at s1
      exact z_aret C (Or.inl ⟨_, rfl⟩) (Or.inr ⟨_, rfl⟩) ⟨rfl, hfr, e9.1, e9.2, ⟨_, _, gq⟩, b, rfl, eb, kr, Rp, gb, Or.inl ⟨hkr, span_cop (ff_inv_mul nz) s1⟩⟩ d_W_commonDivisor_87
    · have c79 : kr = 0 := by
        by_cases q : kr = 0
        · exact q
        · exact absurd (if_neg q) c79
      refine z_aload_n C d_W_commonDivisor_82 rfl rfl ?_
      refine z_goto (tgt := 87) C d_W_commonDivisor_83 (by decide) ?_
      have zr : Rp = ps_0 := ps_0e (fun i => (zp_pol gb).1 i (by omega))
      rw [zr] at s1 s2
      have hm : 2 ≤ kl ∧ Lp (kl - 1) = 1 := by
        rcases hmon with ⟨-, q⟩ | q
        · omega
        · exact q
      obtain ⟨o, u, po, pu, e1, e2, c1⟩ := span_gcd (k := kl - 1) (by rw [hm.2]; decide) s1 s2
      exact z_aret C (Or.inl ⟨_, rfl⟩) (Or.inr ⟨_, rfl⟩) ⟨rfl, hfr, e9.1, e9.2, ⟨_, _, gq⟩, a, rfl, ea, kl, Lp, ga, Or.inr ⟨hm.1, hm.2, o, u, po, pu, e1, e2, c1⟩⟩ d_W_commonDivisor_87
  have loop : ∀ (m i a b : Nat) (M1 : zM) (kl kr kq : Nat) (Lp Rp Qp : PS), i ≤ 25 → 26 ≤ i + m → (a = w + 9 ∧ b = w + 11 ∨ a = w + 11 ∧ b = w + 9) → M1 w = some (.inr (9, [.ref (w + 1), .ref (w + 3), .ref (w + 5), .ref (w + 7), .ref (w + 9), .ref (w + 11), .ref (w + 13)])) → zp E M1 a 25 kl Lp → zp E M1 b 25 kr Rp → zp E M1 (w + 13) 25 kq Qp → zoutR M M1 (w + 9) (w + 15) → span Lp Rp N D → span N D Lp Rp → 1 ≤ kl → (i = 0 ∧ 1 ≤ kr ∨ 2 ≤ kl ∧ Lp (kl - 1) = 1) → kr + i ≤ 25 → Z X E 5 (zQ X E 0 0 (fun v s M' => sz = s ∧ zoutR M M' (w + 9) (w + 15) ∧ (∃ k P, zp E M' (w + 9) 25 k P) ∧ (∃ k P, zp E M' (w + 11) 25 k P) ∧ (∃ k P, zp E M' (w + 13) 25 k P) ∧ ∃ g : Nat, some (.ref g) = v ∧ (g = w + 9 ∨ g = w + 11) ∧ ∃ kg G, zp E M' g 25 kg G ∧ gcdR N D kg G)) 0 0 sz M1 28 [(0, .ref w), (1, .ref a), (2, .ref b), (3, .int (nI i))] [] := by
    intro m
    induction m with
    | zero => intro i a b M1 kl kr kq Lp Rp Qp h1 h2; omega
    | succ m ih =>
      intro i a b M1 kl kr kq Lp Rp Qp hi hm hab g0 ga gb gq hfr s1 s2 hkl hmon hkr
      refine z_iload_n C d_W_commonDivisor_28 rfl rfl ?_
      refine z_bipush (v := nI 24) C d_W_commonDivisor_29 (by decide) ?_
      refine z_icmp_gt (tgt := 75) C d_W_commonDivisor_31 (by decide) (fun c31 => ?_) (fun c31 => ?_)
      · have c31 := (nI_ltI (by decide) (by omega)).mp c31
        exact fin i a b M1 kl kr kq Lp Rp Qp hab g0 ga gb gq hfr s1 s2 hkl hmon (by omega)
      · have c31 : i ≤ 24 := Nat.not_lt.mp (fun q => c31 ((nI_ltI (by decide) (by omega)).mpr q))
        refine z_aload_n C d_W_commonDivisor_34 rfl rfl ?_
        refine z_getN C in_P (zp_c0 gb) rfl 1 (by decide) fl_W_94 rfl rfl d_W_commonDivisor_35 ?_
        refine z_if_le (tgt := 75) C d_W_commonDivisor_38 (by decide) (fun c38 => ?_) (fun c38 => ?_)
        · have c38 := (tI_le0 (by omega)).mp c38
          exact fin i a b M1 kl kr kq Lp Rp Qp hab g0 ga gb gq hfr s1 s2 hkl hmon (by omega)
        · have c38 : 1 < kr := Nat.not_le.mp (fun q => c38 ((tI_le0 (by omega)).mpr q))
          obtain ⟨lo, hlo⟩ : ∃ lo, kr = lo + 1 := ⟨kr - 1, by omega⟩
          have nz : Rp lo ≠ 0 := (zp_pol gb).2 lo hlo
          refine z_aload_n C d_W_commonDivisor_41 rfl rfl ?_
          refine z_aload_n C d_W_commonDivisor_42 rfl rfl ?_
          refine z_callV (rest := [.ref b]) (n := 0) (As := []) C (p_lead E X.2.1 sz _ gb hlo) ⟨z_cb C k_P_lead ml_W_101 ii_P rfl rfl (by decide +kernel) ⟨by decide, by decide⟩, C.2.2.2.2.1 _ im_P_lead, C.2.2.2.2.1 _ se_P_lead⟩ (zp_c0 gb) rfl rfl rfl (Nat.le_of_ble_eq_true rfl) d_W_commonDivisor_43 ⟨by decide, by decide⟩ ?_
          intro v_43 s_43 M_43 hp_43
          obtain ⟨rfl, rfl, rfl⟩ := hp_43
          show Z _ _ _ _ _ _ _ _ 46 _ [.int (fI (Rp lo)), .ref b]
          refine z_callSN (rest := [.ref b]) (n := 1) (As := [.int (fI (Rp lo))]) C (s_inverse E X.2.1 sz _ (Rp lo)) ⟨z_cn C k_S_inverse ml_W_104 ii_S rfl rfl (by decide +kernel) ⟨by decide, by decide⟩, C.2.2.2.2.1 _ sm_S_inverse, trivial⟩ rfl rfl (Nat.le_of_ble_eq_true rfl) d_W_commonDivisor_46 ⟨by decide, by decide⟩ ?_
          intro v_46 s_46 M_46 hp_46
          obtain ⟨rfl, rfl, rfl⟩ := hp_46
          show Z _ _ _ _ _ _ _ _ 49 _ [.int (fI (ff_inv (Rp lo))), .ref b]
          refine z_callV (rest := []) (n := 1) (As := [.int (fI (ff_inv (Rp lo)))]) C (p_scale E X.2.1 sz _ gb (ff_inv (Rp lo))) ⟨z_cb C k_P_scale ml_W_58 ii_P rfl rfl (by decide +kernel) ⟨by decide, by decide⟩, C.2.2.2.2.1 _ im_P_scale, C.2.2.2.2.1 _ se_P_scale⟩ (zp_c0 gb) rfl rfl rfl (Nat.le_of_ble_eq_true rfl) d_W_commonDivisor_49 ⟨by decide, by decide⟩ ?_
          intro v_49 s_49 M_49 hp_49
          obtain ⟨rfl, rfl, ⟨k_49, hn_49⟩, ho_49⟩ := hp_49
          have hc0_49 := (ho_49 _ (by omega) (by omega)).trans g0
          have hq0_49 := zp_o ho_49 ga (by omega)
          have hq2_49 := zp_o ho_49 gq (by omega)
          show Z _ _ _ _ _ _ _ _ 52 _ []
          have lead1 : (ps_mul (ps_C (ff_inv (Rp lo))) Rp) lo = 1 := by
            simp only [ps_mul, ps_mC]; rw [ff_cm]; exact ff_inv_mul nz
          have hk2 : k_49 = lo + 1 := zp_eq hn_49 (fun i hi => by simp only [ps_mul, ps_mC, (zp_pol gb).1 i (by omega)]; grind) (by rw [lead1]; decide)
          have hb2 : zp E M_49 b 25 (lo + 1) (ps_mul (ps_C (ff_inv (Rp lo))) Rp) := hk2 ▸ hn_49
          refine z_aload_n C d_W_commonDivisor_52 rfl rfl ?_
          refine z_aload_n C d_W_commonDivisor_53 rfl rfl ?_
          refine z_aload_n C d_W_commonDivisor_54 rfl rfl ?_
          refine z_get C in_W hc0_49 rfl 6 (by decide) fl_W_35 rfl rfl d_W_commonDivisor_55 ?_
          refine z_callV (rest := []) (n := 2) (As := [.ref b, .ref (w + 13)]) C (p_divideBy (lo := lo) E X.2.1 sz _ hq0_49 hb2 hq2_49 lead1 (by omega) (by omega) (by omega) (by have := zp_lt hq0_49; omega)) ⟨z_cb C k_P_divideBy ml_W_98 ii_P rfl rfl (by decide +kernel) ⟨by decide, by decide⟩, C.2.2.2.2.1 _ im_P_divideBy, C.2.2.2.2.1 _ se_P_divideBy⟩ (zp_c0 hq0_49) rfl rfl rfl (Nat.le_of_ble_eq_true rfl) d_W_commonDivisor_58 ⟨by decide, by decide⟩ ?_
          intro v_58 s_58 M_58 hp_58
          obtain ⟨rfl, rfl, Q9, R9, kr9, kq9, hA9, hR9, ha9, hq9, hf9⟩ := hp_58
          have hb9 := zp_kept hb2 (hf9 _ (by omega) (by omega) (by omega) (by omega)) (hf9 _ (by omega) (by omega) (by omega) (by omega))
          have hc9 := (hf9 _ (by omega) (by omega) (by omega) (by omega)).trans hc0_49
          have hfr9 : zoutR M M_58 (w + 9) (w + 15) := fun q hq => (hf9 q (by omega) (by omega) (by omega) (by omega)).trans ((ho_49 q (by omega) (by omega)).trans (hfr q hq))
          have pq := rep_pol9 hq9
          show Z _ _ _ _ _ _ _ _ 61 _ []
          refine z_aload_n C d_W_commonDivisor_61 rfl rfl ?_
          refine z_astore (L' := [(0, .ref w), (1, .ref a), (2, .ref b), (3, .int (nI i)), (4, .ref a)]) C d_W_commonDivisor_62 (by decide) rfl ?_
          refine z_aload_n C d_W_commonDivisor_64 rfl rfl ?_
          refine z_astore_n (L' := [(0, .ref w), (1, .ref b), (2, .ref b), (3, .int (nI i)), (4, .ref a)]) C d_W_commonDivisor_65 rfl (by decide) rfl ?_
          refine z_aload C d_W_commonDivisor_66 rfl ?_
          refine z_astore_n (L' := [(0, .ref w), (1, .ref b), (2, .ref a), (3, .int (nI i)), (4, .ref a)]) C d_W_commonDivisor_68 rfl (by decide) rfl ?_
          refine z_iinc (v := nI (i + 1)) (L' := [(0, .ref w), (1, .ref b), (2, .ref a), (3, .int (nI (i + 1))), (4, .ref a)]) C d_W_commonDivisor_69 rfl (nI_1 i) (by decide) rfl ?_
          refine z_goto (tgt := 28) C d_W_commonDivisor_72 (by decide) ?_
          refine z_sub [0, 1, 2, 3] rfl ?_
          have q1 := span_sc Lp Rp (c := ff_inv (Rp lo)) (c' := Rp lo) (by have := ff_inv_mul nz; grind)
          have q2 := span_md (rep_pol9 hq9) hA9
          exact ih (i + 1) b a _ _ _ _ _ _ _ (by omega) (by omega) (by omega) hc9 hb9 ha9 hq9 hfr9 (span_tr (span_sw _ _) (span_tr q2.1 (span_tr q1.1 s1))) (span_tr s2 (span_tr q1.2 (span_tr q2.2 (span_sw _ _)))) (by omega) (Or.inr ⟨by omega, lead1⟩) (by have := zp_le ha9 (m := lo) hR9; omega)
  show Z X E 5 _ 0 0 sz M 0 [(0, .ref w)] []
  refine z_aload_n C d_W_commonDivisor_0 rfl rfl ?_
  refine z_get C in_W hw0 rfl 4 (by decide) fl_W_29 rfl rfl d_W_commonDivisor_1 ?_
  refine z_astore_n (L' := [(0, .ref w), (1, .ref (w + 9))]) C d_W_commonDivisor_4 rfl (by decide) rfl ?_
  refine z_aload_n C d_W_commonDivisor_5 rfl rfl ?_
  refine z_get C in_W hw0 rfl 5 (by decide) fl_W_32 rfl rfl d_W_commonDivisor_6 ?_
  refine z_astore_n (L' := [(0, .ref w), (1, .ref (w + 9)), (2, .ref (w + 11))]) C d_W_commonDivisor_9 rfl (by decide) rfl ?_
  refine z_aload_n C d_W_commonDivisor_10 rfl rfl ?_
  refine z_aload_n C d_W_commonDivisor_11 rfl rfl ?_
  refine z_get C in_W hw0 rfl 0 (by decide) fl_W_16 rfl rfl d_W_commonDivisor_12 ?_
  refine z_callV (rest := []) (n := 1) (As := [.ref (w + 1)]) C (p_copy E X.2.1 sz _ hw9 hw1 (by omega) (by have := zp_lt hw1; omega)) ⟨z_cb C k_P_copy ml_W_54 ii_P rfl rfl (by decide +kernel) ⟨by decide, by decide⟩, C.2.2.2.2.1 _ im_P_copy, C.2.2.2.2.1 _ se_P_copy⟩ (zp_c0 hw9) rfl rfl rfl (Nat.le_of_ble_eq_true rfl) d_W_commonDivisor_15 ⟨by decide, by decide⟩ ?_
  intro v_15 s_15 M_15 hp_15
  obtain ⟨rfl, rfl, hn_15, ho_15⟩ := hp_15
  have hc0_15 := (ho_15 _ (by omega) (by omega)).trans hw0
  have hq1_15 := zp_o ho_15 hw11 (by omega)
  have hq2_15 := zp_o ho_15 hw13 (by omega)
  have hq3_15 := zp_o ho_15 hw1 (by omega)
  have hq4_15 := zp_o ho_15 hw3 (by omega)
  show Z _ _ _ _ _ _ _ _ 18 _ []
  refine z_aload_n C d_W_commonDivisor_18 rfl rfl ?_
  refine z_aload_n C d_W_commonDivisor_19 rfl rfl ?_
  refine z_get C in_W hc0_15 rfl 1 (by decide) fl_W_20 rfl rfl d_W_commonDivisor_20 ?_
  refine z_callV (rest := []) (n := 1) (As := [.ref (w + 3)]) C (p_copy E X.2.1 sz _ hq1_15 hq4_15 (by omega) (by have := zp_lt hq4_15; omega)) ⟨z_cb C k_P_copy ml_W_54 ii_P rfl rfl (by decide +kernel) ⟨by decide, by decide⟩, C.2.2.2.2.1 _ im_P_copy, C.2.2.2.2.1 _ se_P_copy⟩ (zp_c0 hq1_15) rfl rfl rfl (Nat.le_of_ble_eq_true rfl) d_W_commonDivisor_23 ⟨by decide, by decide⟩ ?_
  intro v_23 s_23 M_23 hp_23
  obtain ⟨rfl, rfl, hn_23, ho_23⟩ := hp_23
  have hc0_23 := (ho_23 _ (by omega) (by omega)).trans hc0_15
  have hq0_23 := zp_o ho_23 hn_15 (by omega)
  have hq2_23 := zp_o ho_23 hq2_15 (by omega)
  have hq3_23 := zp_o ho_23 hq3_15 (by omega)
  have hq4_23 := zp_o ho_23 hq4_15 (by omega)
  show Z _ _ _ _ _ _ _ _ 26 _ []
  refine z_iconst (v := nI 0) C d_W_commonDivisor_26 (by decide) ?_
  refine z_istore_n (L' := [(0, .ref w), (1, .ref (w + 9)), (2, .ref (w + 11)), (3, .int (nI 0))]) C d_W_commonDivisor_27 rfl (by decide) rfl ?_
  exact loop 26 0 (w + 9) (w + 11) _ _ _ _ _ _ _ (by omega) (by omega) (Or.inl ⟨rfl, rfl⟩) hc0_23 hq0_23 hn_23 hq2_23 (zoutR_tr (zoutR_tr zoutR_rf (zout_R ho_15 (by omega) (by omega))) (zout_R ho_23 (by omega) (by omega))) (span_rf _ _) (span_rf _ _) hkn (Or.inl ⟨rfl, hkd⟩) (by omega)
end
section
/-- a division that goes up without a rest -/
theorem dv_exact {N o G Q R : PS} {lo : Nat} (po : pol o) (pq : pol Q) (hG : ∀ j, lo < j → G j = 0) (hG1 : G lo = 1) (h1 : N = ps_mul o G) (h2 : N = ps_add (ps_mul Q G) R) (hR : ∀ j, lo ≤ j → R j = 0) : Q = o ∧ ∀ j, R j = 0 := by
  have e : ps_mul (ps_sub o Q) G = R := by
    rw [h1] at h2
    letI := ps_ring
    have h2' : o * G = Q * G + R := h2
    show (o - Q) * G = R
    grind
  have hd : dg G lo := ⟨by rw [hG1]; decide, hG⟩
  rcases pol_dg (pol_sub po pq) with z | ⟨j, hj⟩
  · refine ⟨?_, fun j => ?_⟩
    · funext i
      have := z i
      simp only [ps_sub] at this
      grind
    · rw [← e]
      exact ps_m0 z
  · exfalso
    have t := (dg_mul hj hd).1.1
    rw [e] at t
    exact t (hR _ (by omega))
theorem tI_len {n m : Nat} (hn : n < 2 ^ 30) (hm : m < 2 ^ 30) : tI n ≤ nI m ↔ n ≤ m + 1 := by
  rw [Int32.le_iff_toInt_le, tI_int hn, nI_toInt (by omega)]; omega
theorem ps_mul1 (f : PS) : f = ps_mul f (ps_C 1) := by
  letI := ps_ring
  show f = f * 1
  grind
theorem formof_0 {N D : PS} (h : ∀ i, N i = 0) : formof N D (ps_C 0) (ps_C 1) := by
  have z : ps_C 0 = ps_0 := by
    funext i
    simp [ps_C, ps_0]
  refine ⟨⟨pol_C 0, pol_C 1, ⟨ps_C 0, ps_C 1, pol_C 0, pol_C 1, ?_⟩, 0, ⟨by decide, fun i hi => by simp [ps_C, show i ≠ 0 by omega]⟩, rfl⟩, ?_⟩
  · letI := ps_ring
    show (0 : PS) * 0 + 1 * 1 = 1
    grind
  · have e : N = ps_0 := by
      funext i
      exact h i
    rw [z, e, ps_mul0l, ps_mul0l]
end
section
set_option maxHeartbeats 4000000 in
/-- Workshop.settle -/
theorem w_settle (E : zE) (l : Launch) (sz : Nat) (M : zM) {w kn kd : Nat} {N D : PS} (hw : zsh E M w kn kd N D) (hkd : 1 ≤ kd) {q1 kn1 kd1 : Nat} {N1 D1 : PS} (h1 : zf E M q1 kn1 kd1 N1 D1) (a1 : q1 + 5 ≤ w ∨ w + 15 ≤ q1) : zMet E l y_W_settle c_W_settle 4 (some .int) { frames := 3, cells := 0, slots := 0, locals := 72 } 0 0 [.ref w, .ref q1] sz M (fun v s M' => sz = s ∧ (∃ x y A B, zsh E M' w x y A B) ∧ (∀ x, (x < w + 1 ∨ w + 15 ≤ x) → (x < q1 + 1 ∨ q1 + 5 ≤ x) → M' x = M x) ∧ ∃ n d, formof N D n d ∧ ((some (.int (-6)) = v ∧ ((∃ i, 12 < i ∧ n i ≠ 0) ∨ (∃ i, 12 < i ∧ d i ≠ 0)) ∧ zoutR M M' (w + 1) (w + 15)) ∨ (some (.int 0) = v ∧ ∃ a b, zf E M' q1 a b n d))) := by
  obtain ⟨hw0, hw1, hw3, ⟨kw5, Pw5, hw5⟩, ⟨kw7, Pw7, hw7⟩, ⟨kw9, Pw9, hw9⟩, ⟨kw11, Pw11, hw11⟩, ⟨kw13, Pw13, hw13⟩⟩ := id hw
  have b1 := zp_lt hw1
  have b3 := zp_lt hw3
  refine zMet.ofZ (by decide) (Nat.le_of_ble_eq_true rfl) ?_
  intro X hl hini C
  have hw3o := hw3
  have tail : ∀ (M1 : zM) (ko ku : Nat) (o u x : PS), zsh E M1 w ko ku o u → zf E M1 q1 kn1 kd1 N1 D1 → zoutR M M1 (w + 1) (w + 15) → pol o → pol u → N = ps_mul o x → D = ps_mul u x → cop o u → Z X E 4 (zQ X E 0 0 (fun v s M' => sz = s ∧ (∃ x y A B, zsh E M' w x y A B) ∧ (∀ x, (x < w + 1 ∨ w + 15 ≤ x) → (x < q1 + 1 ∨ q1 + 5 ≤ x) → M' x = M x) ∧ ∃ n d, formof N D n d ∧ ((some (.int (-6)) = v ∧ ((∃ i, 12 < i ∧ n i ≠ 0) ∨ (∃ i, 12 < i ∧ d i ≠ 0)) ∧ zoutR M M' (w + 1) (w + 15)) ∨ (some (.int 0) = v ∧ ∃ a b, zf E M' q1 a b n d)))) 0 0 sz M1 75 [(0, .ref w), (1, .ref q1)] [] := by
    intro M1 ko ku o u x hw' hf hfr po pu eN eD hcop
    obtain ⟨hw0, hw1, hw3, ⟨kw5, Pw5, hw5⟩, ⟨kw7, Pw7, hw7⟩, ⟨kw9, Pw9, hw9⟩, ⟨kw11, Pw11, hw11⟩, ⟨kw13, Pw13, hw13⟩⟩ := id hw'
    have c1 := zp_lt hw1
    have c3 := zp_lt hw3
    have hku : 1 ≤ ku := by
      rcases Nat.eq_zero_or_pos ku with q | q
      · exfalso
        apply (zp_pol hw3o).2 (kd - 1) (by omega)
        rw [eD]
        exact ps_m0 (fun i => (zp_pol hw3).1 i (by omega))
      · exact q
    obtain ⟨m, hm⟩ : ∃ m, ku = m + 1 := ⟨ku - 1, by omega⟩
    have nz : u m ≠ 0 := (zp_pol hw3).2 m hm
    have ncz : ff_inv (u m) ≠ 0 := fun q => by have := ff_inv_mul nz; rw [q] at this; exact absurd this (by grind)
    have hform := formof_sc (c := ff_inv (u m)) (c' := u m) (k := m) (by have := ff_inv_mul nz; grind) eN eD po pu hcop ⟨nz, fun i hi => (zp_pol hw3).1 i (by omega)⟩ rfl
    refine z_aload_n C d_W_settle_75 rfl rfl ?_
    refine z_get C in_W hw0 rfl 0 (by decide) fl_W_16 rfl rfl d_W_settle_76 ?_
    refine z_getN C in_P (zp_c0 hw1) rfl 1 (by decide) fl_W_94 rfl rfl d_W_settle_79 ?_
    refine z_bipush (v := nI 12) C d_W_settle_82 (by decide) ?_
    refine z_icmp_gt (tgt := 99) C d_W_settle_84 (by decide) (fun c84 => ?_) (fun c84 => ?_)
    · have c84 := (tI_ltn (by omega) (by decide)).mp c84
      have hbig : (∃ i, 12 < i ∧ ps_mul (ps_C (ff_inv (u m))) o i ≠ 0) ∨ ∃ i, 12 < i ∧ ps_mul (ps_C (ff_inv (u m))) u i ≠ 0 := Or.inl ⟨ko - 1, by omega, by simp only [ps_mul, ps_mC]; exact ff_mul_ne ncz ((zp_pol hw1).2 _ (by omega))⟩
      refine z_bipush (v := -6) C d_W_settle_99 (by decide) ?_
      exact z_iret C ⟨rfl, ⟨_, _, _, _, hw'⟩, fun z z1 _ => hfr z z1, _, _, hform, Or.inl ⟨rfl, hbig, hfr⟩⟩ d_W_settle_101
    · have c84 : ko ≤ 13 := Nat.not_lt.mp (fun q => c84 ((tI_ltn (by omega) (by decide)).mpr q))
      refine z_aload_n C d_W_settle_87 rfl rfl ?_
      refine z_get C in_W hw0 rfl 1 (by decide) fl_W_20 rfl rfl d_W_settle_88 ?_
      refine z_getN C in_P (zp_c0 hw3) rfl 1 (by decide) fl_W_94 rfl rfl d_W_settle_91 ?_
      refine z_bipush (v := nI 12) C d_W_settle_94 (by decide) ?_
      refine z_icmp_le (tgt := 102) C d_W_settle_96 (by decide) (fun c96 => ?_) (fun c96 => ?_)
      · have c96 := (tI_len (by omega) (by decide)).mp c96
        refine z_aload_n C d_W_settle_102 rfl rfl ?_
        refine z_get C in_W hw0 rfl 1 (by decide) fl_W_20 rfl rfl d_W_settle_103 ?_
        refine z_callV (rest := []) (n := 0) (As := []) C (p_lead E X.2.1 sz _ hw3 hm) ⟨z_cb C k_P_lead ml_W_101 ii_P rfl rfl (by decide +kernel) ⟨by decide, by decide⟩, C.2.2.2.2.1 _ im_P_lead, C.2.2.2.2.1 _ se_P_lead⟩ (zp_c0 hw3) rfl rfl rfl (Nat.le_of_ble_eq_true rfl) d_W_settle_106 ⟨by decide, by decide⟩ ?_
        intro v_106 s_106 M_106 hp_106
        obtain ⟨rfl, rfl, rfl⟩ := hp_106
        show Z _ _ _ _ _ _ _ _ 109 _ [.int (fI (u m))]
        refine z_callSN (rest := []) (n := 1) (As := [.int (fI (u m))]) C (s_inverse E X.2.1 sz _ (u m)) ⟨z_cn C k_S_inverse ml_W_104 ii_S rfl rfl (by decide +kernel) ⟨by decide, by decide⟩, C.2.2.2.2.1 _ sm_S_inverse, trivial⟩ rfl rfl (Nat.le_of_ble_eq_true rfl) d_W_settle_109 ⟨by decide, by decide⟩ ?_
        intro v_109 s_109 M_109 hp_109
        obtain ⟨rfl, rfl, rfl⟩ := hp_109
        show Z _ _ _ _ _ _ _ _ 112 _ [.int (fI (ff_inv (u m)))]
        refine z_istore_n (L' := [(0, .ref w), (1, .ref q1), (3, .int (fI (ff_inv (u m))))]) C d_W_settle_112 rfl (by decide) rfl ?_
        refine z_aload_n C d_W_settle_113 rfl rfl ?_
        refine z_get C in_W hw0 rfl 0 (by decide) fl_W_16 rfl rfl d_W_settle_114 ?_
        refine z_iload_n C d_W_settle_117 rfl rfl ?_
        refine z_callV (rest := []) (n := 1) (As := [.int (fI (ff_inv (u m)))]) C (p_scale E X.2.1 sz _ hw1 (ff_inv (u m))) ⟨z_cb C k_P_scale ml_W_58 ii_P rfl rfl (by decide +kernel) ⟨by decide, by decide⟩, C.2.2.2.2.1 _ im_P_scale, C.2.2.2.2.1 _ se_P_scale⟩ (zp_c0 hw1) rfl rfl rfl (Nat.le_of_ble_eq_true rfl) d_W_settle_118 ⟨by decide, by decide⟩ ?_
        intro v_118 s_118 M_118 hp_118
        obtain ⟨rfl, rfl, ⟨k_118, hn_118⟩, ho_118⟩ := hp_118
        have hc0_118 := (ho_118 _ (by omega) (by omega)).trans hw0
        have hc1_118 := (ho_118 _ (by omega) (by omega)).trans hf.1
        have hq1_118 := zp_o ho_118 hw3 (by omega)
        have hq2_118 := zp_o ho_118 hw5 (by omega)
        have hq3_118 := zp_o ho_118 hw7 (by omega)
        have hq4_118 := zp_o ho_118 hw9 (by omega)
        have hq5_118 := zp_o ho_118 hw11 (by omega)
        have hq6_118 := zp_o ho_118 hw13 (by omega)
        have hq7_118 := zp_o ho_118 hf.2.1 (by omega)
        have hq8_118 := zp_o ho_118 hf.2.2 (by omega)
        show Z _ _ _ _ _ _ _ _ 121 _ []
        refine z_aload_n C d_W_settle_121 rfl rfl ?_
        refine z_get C in_W hc0_118 rfl 1 (by decide) fl_W_20 rfl rfl d_W_settle_122 ?_
        refine z_iload_n C d_W_settle_125 rfl rfl ?_
        refine z_callV (rest := []) (n := 1) (As := [.int (fI (ff_inv (u m)))]) C (p_scale E X.2.1 sz _ hq1_118 (ff_inv (u m))) ⟨z_cb C k_P_scale ml_W_58 ii_P rfl rfl (by decide +kernel) ⟨by decide, by decide⟩, C.2.2.2.2.1 _ im_P_scale, C.2.2.2.2.1 _ se_P_scale⟩ (zp_c0 hq1_118) rfl rfl rfl (Nat.le_of_ble_eq_true rfl) d_W_settle_126 ⟨by decide, by decide⟩ ?_
        intro v_126 s_126 M_126 hp_126
        obtain ⟨rfl, rfl, ⟨k_126, hn_126⟩, ho_126⟩ := hp_126
        have hc0_126 := (ho_126 _ (by omega) (by omega)).trans hc0_118
        have hc1_126 := (ho_126 _ (by omega) (by omega)).trans hc1_118
        have hq0_126 := zp_o ho_126 hn_118 (by omega)
        have hq2_126 := zp_o ho_126 hq2_118 (by omega)
        have hq3_126 := zp_o ho_126 hq3_118 (by omega)
        have hq4_126 := zp_o ho_126 hq4_118 (by omega)
        have hq5_126 := zp_o ho_126 hq5_118 (by omega)
        have hq6_126 := zp_o ho_126 hq6_118 (by omega)
        have hq7_126 := zp_o ho_126 hq7_118 (by omega)
        have hq8_126 := zp_o ho_126 hq8_118 (by omega)
        show Z _ _ _ _ _ _ _ _ 129 _ []
        refine z_aload_n C d_W_settle_129 rfl rfl ?_
        refine z_getN C in_F hc1_126 rfl 0 (by decide) fl_W_38 rfl rfl d_W_settle_130 ?_
        refine z_aload_n C d_W_settle_133 rfl rfl ?_
        refine z_get C in_W hc0_126 rfl 0 (by decide) fl_W_16 rfl rfl d_W_settle_134 ?_
        refine z_callV (rest := []) (n := 1) (As := [.ref (w + 1)]) C (p_copy E X.2.1 sz _ hq7_126 hq0_126 (by omega) (by have := zp_le hq0_126 (m := 13) (fun i hi => by simp only [ps_mul, ps_mC, (zp_pol hw1).1 i (by omega)]; grind); omega)) ⟨z_cb C k_P_copy ml_W_54 ii_P rfl rfl (by decide +kernel) ⟨by decide, by decide⟩, C.2.2.2.2.1 _ im_P_copy, C.2.2.2.2.1 _ se_P_copy⟩ (zp_c0 hq7_126) rfl rfl rfl (Nat.le_of_ble_eq_true rfl) d_W_settle_137 ⟨by decide, by decide⟩ ?_
        intro v_137 s_137 M_137 hp_137
        obtain ⟨rfl, rfl, hn_137, ho_137⟩ := hp_137
        have hc0_137 := (ho_137 _ (by omega) (by omega)).trans hc0_126
        have hc1_137 := (ho_137 _ (by omega) (by omega)).trans hc1_126
        have hq0_137 := zp_o ho_137 hq0_126 (by omega)
        have hq1_137 := zp_o ho_137 hn_126 (by omega)
        have hq2_137 := zp_o ho_137 hq2_126 (by omega)
        have hq3_137 := zp_o ho_137 hq3_126 (by omega)
        have hq4_137 := zp_o ho_137 hq4_126 (by omega)
        have hq5_137 := zp_o ho_137 hq5_126 (by omega)
        have hq6_137 := zp_o ho_137 hq6_126 (by omega)
        have hq8_137 := zp_o ho_137 hq8_126 (by omega)
        show Z _ _ _ _ _ _ _ _ 140 _ []
        refine z_aload_n C d_W_settle_140 rfl rfl ?_
        refine z_getN C in_F hc1_137 rfl 1 (by decide) fl_W_41 rfl rfl d_W_settle_141 ?_
        refine z_aload_n C d_W_settle_144 rfl rfl ?_
        refine z_get C in_W hc0_137 rfl 1 (by decide) fl_W_20 rfl rfl d_W_settle_145 ?_
        refine z_callV (rest := []) (n := 1) (As := [.ref (w + 3)]) C (p_copy E X.2.1 sz _ hq8_137 hq1_137 (by omega) (by have := zp_le hq1_137 (m := 13) (fun i hi => by simp only [ps_mul, ps_mC, (zp_pol hw3).1 i (by omega)]; grind); omega)) ⟨z_cb C k_P_copy ml_W_54 ii_P rfl rfl (by decide +kernel) ⟨by decide, by decide⟩, C.2.2.2.2.1 _ im_P_copy, C.2.2.2.2.1 _ se_P_copy⟩ (zp_c0 hq8_137) rfl rfl rfl (Nat.le_of_ble_eq_true rfl) d_W_settle_148 ⟨by decide, by decide⟩ ?_
        intro v_148 s_148 M_148 hp_148
        obtain ⟨rfl, rfl, hn_148, ho_148⟩ := hp_148
        have hc0_148 := (ho_148 _ (by omega) (by omega)).trans hc0_137
        have hc1_148 := (ho_148 _ (by omega) (by omega)).trans hc1_137
        have hq0_148 := zp_o ho_148 hq0_137 (by omega)
        have hq1_148 := zp_o ho_148 hq1_137 (by omega)
        have hq2_148 := zp_o ho_148 hq2_137 (by omega)
        have hq3_148 := zp_o ho_148 hq3_137 (by omega)
        have hq4_148 := zp_o ho_148 hq4_137 (by omega)
        have hq5_148 := zp_o ho_148 hq5_137 (by omega)
        have hq6_148 := zp_o ho_148 hq6_137 (by omega)
        have hq7_148 := zp_o ho_148 hn_137 (by omega)
        show Z _ _ _ _ _ _ _ _ 151 _ []
        refine z_iconst (v := 0) C d_W_settle_151 (by decide) ?_
        exact z_iret C ⟨rfl, ⟨_, _, _, _, ⟨hc0_148, hq0_148, hq1_148, ⟨_, _, hq2_148⟩, ⟨_, _, hq3_148⟩, ⟨_, _, hq4_148⟩, ⟨_, _, hq5_148⟩, ⟨_, _, hq6_148⟩⟩⟩, fun z z1 z2 => (ho_148 z (by omega) (by omega)).trans ((ho_137 z (by omega) (by omega)).trans ((ho_126 z (by omega) (by omega)).trans ((ho_118 z (by omega) (by omega)).trans (hfr z z1)))), _, _, hform, Or.inr ⟨rfl, _, _, hc1_148, hq7_148, hn_148⟩⟩ d_W_settle_152
      · have c96 : 13 < ku := Nat.not_le.mp (fun q => c96 ((tI_len (by omega) (by decide)).mpr q))
        have hbig : (∃ i, 12 < i ∧ ps_mul (ps_C (ff_inv (u m))) o i ≠ 0) ∨ ∃ i, 12 < i ∧ ps_mul (ps_C (ff_inv (u m))) u i ≠ 0 := Or.inr ⟨ku - 1, by omega, by simp only [ps_mul, ps_mC]; exact ff_mul_ne ncz ((zp_pol hw3).2 _ (by omega))⟩
        refine z_bipush (v := -6) C d_W_settle_99 (by decide) ?_
        exact z_iret C ⟨rfl, ⟨_, _, _, _, hw'⟩, fun z z1 _ => hfr z z1, _, _, hform, Or.inl ⟨rfl, hbig, hfr⟩⟩ d_W_settle_101
  show Z X E 4 _ 0 0 sz M 0 [(0, .ref w), (1, .ref q1)] []
  refine z_aload_n C d_W_settle_0 rfl rfl ?_
  refine z_get C in_W hw0 rfl 0 (by decide) fl_W_16 rfl rfl d_W_settle_1 ?_
  refine z_callV (rest := []) (n := 0) (As := []) C (p_isZero E X.2.1 sz _ hw1) ⟨z_cb C k_P_isZero ml_W_85 ii_P rfl rfl (by decide +kernel) ⟨by decide, by decide⟩, C.2.2.2.2.1 _ im_P_isZero, C.2.2.2.2.1 _ se_P_isZero⟩ (zp_c0 hw1) rfl rfl rfl (Nat.le_of_ble_eq_true rfl) d_W_settle_4 ⟨by decide, by decide⟩ ?_
  intro v_4 s_4 M_4 hp_4
  obtain ⟨rfl, rfl, rfl⟩ := hp_4
  show Z _ _ _ _ _ _ _ _ 7 _ [.int (if kn = 0 then 1 else 0)]
  refine z_if_eq (tgt := 17) C d_W_settle_7 (by decide) (fun c7 => ?_) (fun c7 => ?_)
  · have c7 : kn ≠ 0 := fun q => by rw [if_pos q] at c7; exact absurd c7 (by decide)
    refine z_aload_n C d_W_settle_17 rfl rfl ?_
    refine z_callV (rest := []) (n := 0) (As := []) C (w_gcd E X.2.1 sz _ hw (by omega) hkd) ⟨z_cb C k_W_commonDivisor ml_W_90 ii_W rfl rfl (by decide +kernel) ⟨by decide, by decide⟩, C.2.2.2.2.1 _ im_W_commonDivisor, C.2.2.2.2.1 _ se_W_commonDivisor⟩ hw0 rfl rfl rfl (Nat.le_of_ble_eq_true rfl) d_W_settle_18 ⟨by decide, by decide⟩ ?_
    intro v_18 s_18 M_18 hp_18
    obtain ⟨rfl, hfr18, ⟨k9, P9, h9⟩, ⟨k11, P11, h11⟩, ⟨k13, P13, h13⟩, g, rfl, eg, kg, G, hg, hG⟩ := hp_18
    have cw18 := (hfr18 w (by omega)).trans hw0
    have cq18 := (hfr18 q1 (by omega)).trans h1.1
    have p1_18 := zp_oR hfr18 hw1 (by omega)
    have p3_18 := zp_oR hfr18 hw3 (by omega)
    have p5_18 := zp_oR hfr18 hw5 (by omega)
    have p7_18 := zp_oR hfr18 hw7 (by omega)
    have f1_18 := zp_oR hfr18 h1.2.1 (by omega)
    have f3_18 := zp_oR hfr18 h1.2.2 (by omega)
    have bg := zp_lt hg
    have hfr : zoutR M M_18 (w + 1) (w + 15) := zoutR_w hfr18 (by omega) (by omega)
    show Z _ _ _ _ _ _ _ _ 21 _ [.ref g]
    refine z_astore_n (L' := [(0, .ref w), (1, .ref q1), (2, .ref g)]) C d_W_settle_21 rfl (by decide) rfl ?_
    refine z_aload_n C d_W_settle_22 rfl rfl ?_
    refine z_getN C in_P (zp_c0 hg) rfl 1 (by decide) fl_W_94 rfl rfl d_W_settle_23 ?_
    refine z_if_le (tgt := 75) C d_W_settle_26 (by decide) (fun c26 => ?_) (fun c26 => ?_)
    · have c26 := (tI_le0 (by omega)).mp c26
      have hcp : cop N D := by
        rcases hG with q | q
        · exact q.2
        · exact absurd q.1 (by omega)
      refine z_sub [0, 1] rfl ?_
      exact tail _ _ _ _ _ (ps_C 1) ⟨cw18, p1_18, p3_18, ⟨_, _, p5_18⟩, ⟨_, _, p7_18⟩, ⟨_, _, h9⟩, ⟨_, _, h11⟩, ⟨_, _, h13⟩⟩ ⟨cq18, f1_18, f3_18⟩ (hfr) (rep_pol9 hw1) (rep_pol9 hw3) (ps_mul1 N) (ps_mul1 D) hcp
    · have c26 : 1 < kg := Nat.not_le.mp (fun q => c26 ((tI_le0 (by omega)).mpr q))
      obtain ⟨-, hG1, o, u, po, pu, eo, eu, hcp⟩ : 2 ≤ kg ∧ G (kg - 1) = 1 ∧ ∃ o u : PS, pol o ∧ pol u ∧ N = ps_mul o G ∧ D = ps_mul u G ∧ cop o u := by
        rcases hG with q | q
        · exact absurd q.1 (by omega)
        · exact q
      obtain ⟨lo, hlo⟩ : ∃ lo, kg = lo + 1 := ⟨kg - 1, by omega⟩
      rw [show kg - 1 = lo by omega] at hG1
      refine z_aload_n C d_W_settle_29 rfl rfl ?_
      refine z_get C in_W cw18 rfl 0 (by decide) fl_W_16 rfl rfl d_W_settle_30 ?_
      refine z_aload_n C d_W_settle_33 rfl rfl ?_
      refine z_aload_n C d_W_settle_34 rfl rfl ?_
      refine z_get C in_W cw18 rfl 6 (by decide) fl_W_35 rfl rfl d_W_settle_35 ?_
      refine z_callV (rest := []) (n := 2) (As := [.ref g, .ref (w + 13)]) C (p_divideBy (lo := lo) E X.2.1 sz _ p1_18 (hlo ▸ hg) h13 hG1 (by omega) (by omega) (by omega) (by have := zp_lt p1_18; omega)) ⟨z_cb C k_P_divideBy ml_W_98 ii_P rfl rfl (by decide +kernel) ⟨by decide, by decide⟩, C.2.2.2.2.1 _ im_P_divideBy, C.2.2.2.2.1 _ se_P_divideBy⟩ (zp_c0 p1_18) rfl rfl rfl (Nat.le_of_ble_eq_true rfl) d_W_settle_38 ⟨by decide, by decide⟩ ?_
      intro v_38 s_38 M_38 hp_38
      obtain ⟨rfl, rfl, Q_38, R_38, kr_38, kq_38, hA_38, hR_38, hr_38, hq_38, hf_38⟩ := hp_38
      obtain ⟨rfl, eR_38⟩ := dv_exact po (rep_pol9 hq_38) (fun j hj => (zp_pol hg).1 j (by omega)) hG1 eo hA_38 hR_38
      have hc0_38 := (hf_38 _ (by omega) (by omega) (by omega) (by omega)).trans cw18
      have hc1_38 := (hf_38 _ (by omega) (by omega) (by omega) (by omega)).trans cq18
      have hq1_38 := zp_kept p3_18 (hf_38 _ (by omega) (by omega) (by omega) (by omega)) (hf_38 _ (by omega) (by omega) (by omega) (by omega))
      have hq2_38 := zp_kept p5_18 (hf_38 _ (by omega) (by omega) (by omega) (by omega)) (hf_38 _ (by omega) (by omega) (by omega) (by omega))
      have hq3_38 := zp_kept p7_18 (hf_38 _ (by omega) (by omega) (by omega) (by omega)) (hf_38 _ (by omega) (by omega) (by omega) (by omega))
      have hq4_38 := zp_kept h9 (hf_38 _ (by omega) (by omega) (by omega) (by omega)) (hf_38 _ (by omega) (by omega) (by omega) (by omega))
      have hq5_38 := zp_kept h11 (hf_38 _ (by omega) (by omega) (by omega) (by omega)) (hf_38 _ (by omega) (by omega) (by omega) (by omega))
      have hq7_38 := zp_kept f1_18 (hf_38 _ (by omega) (by omega) (by omega) (by omega)) (hf_38 _ (by omega) (by omega) (by omega) (by omega))
      have hq8_38 := zp_kept f3_18 (hf_38 _ (by omega) (by omega) (by omega) (by omega)) (hf_38 _ (by omega) (by omega) (by omega) (by omega))
      have hq9_38 := zp_kept hg (hf_38 _ (by omega) (by omega) (by omega) (by omega)) (hf_38 _ (by omega) (by omega) (by omega) (by omega))
      have hR2_38 : zoutR M_18 M_38 (w + 1) (w + 15) := fun z hz => hf_38 z (by omega) (by omega) (by omega) (by omega)
      show Z _ _ _ _ _ _ _ _ 41 _ []
      refine z_aload_n C d_W_settle_41 rfl rfl ?_
      refine z_get C in_W hc0_38 rfl 0 (by decide) fl_W_16 rfl rfl d_W_settle_42 ?_
      refine z_aload_n C d_W_settle_45 rfl rfl ?_
      refine z_get C in_W hc0_38 rfl 6 (by decide) fl_W_35 rfl rfl d_W_settle_46 ?_
      refine z_callV (rest := []) (n := 1) (As := [.ref (w + 13)]) C (p_copy E X.2.1 sz _ hr_38 hq_38 (by omega) (by have := zp_lt hq_38; omega)) ⟨z_cb C k_P_copy ml_W_54 ii_P rfl rfl (by decide +kernel) ⟨by decide, by decide⟩, C.2.2.2.2.1 _ im_P_copy, C.2.2.2.2.1 _ se_P_copy⟩ (zp_c0 hr_38) rfl rfl rfl (Nat.le_of_ble_eq_true rfl) d_W_settle_49 ⟨by decide, by decide⟩ ?_
      intro v_49 s_49 M_49 hp_49
      obtain ⟨rfl, rfl, hn_49, ho_49⟩ := hp_49
      have hc0_49 := (ho_49 _ (by omega) (by omega)).trans hc0_38
      have hc1_49 := (ho_49 _ (by omega) (by omega)).trans hc1_38
      have hq1_49 := zp_o ho_49 hq1_38 (by omega)
      have hq2_49 := zp_o ho_49 hq2_38 (by omega)
      have hq3_49 := zp_o ho_49 hq3_38 (by omega)
      have hq4_49 := zp_o ho_49 hq4_38 (by omega)
      have hq5_49 := zp_o ho_49 hq5_38 (by omega)
      have hq6_49 := zp_o ho_49 hq_38 (by omega)
      have hq7_49 := zp_o ho_49 hq7_38 (by omega)
      have hq8_49 := zp_o ho_49 hq8_38 (by omega)
      have hq9_49 := zp_o ho_49 hq9_38 (by omega)
      show Z _ _ _ _ _ _ _ _ 52 _ []
      refine z_aload_n C d_W_settle_52 rfl rfl ?_
      refine z_get C in_W hc0_49 rfl 1 (by decide) fl_W_20 rfl rfl d_W_settle_53 ?_
      refine z_aload_n C d_W_settle_56 rfl rfl ?_
      refine z_aload_n C d_W_settle_57 rfl rfl ?_
      refine z_get C in_W hc0_49 rfl 6 (by decide) fl_W_35 rfl rfl d_W_settle_58 ?_
      refine z_callV (rest := []) (n := 2) (As := [.ref g, .ref (w + 13)]) C (p_divideBy (lo := lo) E X.2.1 sz _ hq1_49 (hlo ▸ hq9_49) hq6_49 hG1 (by omega) (by omega) (by omega) (by have := zp_lt hq1_49; omega)) ⟨z_cb C k_P_divideBy ml_W_98 ii_P rfl rfl (by decide +kernel) ⟨by decide, by decide⟩, C.2.2.2.2.1 _ im_P_divideBy, C.2.2.2.2.1 _ se_P_divideBy⟩ (zp_c0 hq1_49) rfl rfl rfl (Nat.le_of_ble_eq_true rfl) d_W_settle_61 ⟨by decide, by decide⟩ ?_
      intro v_61 s_61 M_61 hp_61
      obtain ⟨rfl, rfl, Q_61, R_61, kr_61, kq_61, hA_61, hR_61, hr_61, hq_61, hf_61⟩ := hp_61
      obtain ⟨rfl, eR_61⟩ := dv_exact pu (rep_pol9 hq_61) (fun j hj => (zp_pol hg).1 j (by omega)) hG1 eu hA_61 hR_61
      have hc0_61 := (hf_61 _ (by omega) (by omega) (by omega) (by omega)).trans hc0_49
      have hc1_61 := (hf_61 _ (by omega) (by omega) (by omega) (by omega)).trans hc1_49
      have hq0_61 := zp_kept hn_49 (hf_61 _ (by omega) (by omega) (by omega) (by omega)) (hf_61 _ (by omega) (by omega) (by omega) (by omega))
      have hq2_61 := zp_kept hq2_49 (hf_61 _ (by omega) (by omega) (by omega) (by omega)) (hf_61 _ (by omega) (by omega) (by omega) (by omega))
      have hq3_61 := zp_kept hq3_49 (hf_61 _ (by omega) (by omega) (by omega) (by omega)) (hf_61 _ (by omega) (by omega) (by omega) (by omega))
      have hq4_61 := zp_kept hq4_49 (hf_61 _ (by omega) (by omega) (by omega) (by omega)) (hf_61 _ (by omega) (by omega) (by omega) (by omega))
      have hq5_61 := zp_kept hq5_49 (hf_61 _ (by omega) (by omega) (by omega) (by omega)) (hf_61 _ (by omega) (by omega) (by omega) (by omega))
      have hq7_61 := zp_kept hq7_49 (hf_61 _ (by omega) (by omega) (by omega) (by omega)) (hf_61 _ (by omega) (by omega) (by omega) (by omega))
      have hq8_61 := zp_kept hq8_49 (hf_61 _ (by omega) (by omega) (by omega) (by omega)) (hf_61 _ (by omega) (by omega) (by omega) (by omega))
      have hq9_61 := zp_kept hq9_49 (hf_61 _ (by omega) (by omega) (by omega) (by omega)) (hf_61 _ (by omega) (by omega) (by omega) (by omega))
      have hR2_61 : zoutR M_49 M_61 (w + 1) (w + 15) := fun z hz => hf_61 z (by omega) (by omega) (by omega) (by omega)
      show Z _ _ _ _ _ _ _ _ 64 _ []
      refine z_aload_n C d_W_settle_64 rfl rfl ?_
      refine z_get C in_W hc0_61 rfl 1 (by decide) fl_W_20 rfl rfl d_W_settle_65 ?_
      refine z_aload_n C d_W_settle_68 rfl rfl ?_
      refine z_get C in_W hc0_61 rfl 6 (by decide) fl_W_35 rfl rfl d_W_settle_69 ?_
      refine z_callV (rest := []) (n := 1) (As := [.ref (w + 13)]) C (p_copy E X.2.1 sz _ hr_61 hq_61 (by omega) (by have := zp_lt hq_61; omega)) ⟨z_cb C k_P_copy ml_W_54 ii_P rfl rfl (by decide +kernel) ⟨by decide, by decide⟩, C.2.2.2.2.1 _ im_P_copy, C.2.2.2.2.1 _ se_P_copy⟩ (zp_c0 hr_61) rfl rfl rfl (Nat.le_of_ble_eq_true rfl) d_W_settle_72 ⟨by decide, by decide⟩ ?_
      intro v_72 s_72 M_72 hp_72
      obtain ⟨rfl, rfl, hn_72, ho_72⟩ := hp_72
      have hc0_72 := (ho_72 _ (by omega) (by omega)).trans hc0_61
      have hc1_72 := (ho_72 _ (by omega) (by omega)).trans hc1_61
      have hq0_72 := zp_o ho_72 hq0_61 (by omega)
      have hq2_72 := zp_o ho_72 hq2_61 (by omega)
      have hq3_72 := zp_o ho_72 hq3_61 (by omega)
      have hq4_72 := zp_o ho_72 hq4_61 (by omega)
      have hq5_72 := zp_o ho_72 hq5_61 (by omega)
      have hq6_72 := zp_o ho_72 hq_61 (by omega)
      have hq7_72 := zp_o ho_72 hq7_61 (by omega)
      have hq8_72 := zp_o ho_72 hq8_61 (by omega)
      have hq9_72 := zp_o ho_72 hq9_61 (by omega)
      show Z _ _ _ _ _ _ _ _ 75 _ []
      refine z_sub [0, 1] rfl ?_
      exact tail _ _ _ _ _ G ⟨hc0_72, hq0_72, hn_72, ⟨_, _, hq2_72⟩, ⟨_, _, hq3_72⟩, ⟨_, _, hq4_72⟩, ⟨_, _, hq5_72⟩, ⟨_, _, hq6_72⟩⟩ ⟨hc1_72, hq7_72, hq8_72⟩ (zoutR_tr (zoutR_tr (zoutR_tr (zoutR_tr hfr hR2_38) (zout_R ho_49 (by omega) (by omega))) hR2_61) (zout_R ho_72 (by omega) (by omega))) po pu eo eu hcp
  · have c7 : kn = 0 := by
      by_cases q : kn = 0
      · exact q
      · exact absurd (if_neg q) c7
    refine z_aload_n C d_W_settle_10 rfl rfl ?_
    refine z_iconst (v := fI 0) C d_W_settle_11 (by decide) ?_
    refine z_callV (rest := []) (n := 1) (As := [.int (fI 0)]) C (f_setConstant E X.2.1 sz _ h1 0) ⟨z_cb C k_F_setConstant ml_W_89 ii_F rfl rfl (by decide +kernel) ⟨by decide, by decide⟩, C.2.2.2.2.1 _ im_F_setConstant, C.2.2.2.2.1 _ se_F_setConstant⟩ h1.1 rfl rfl rfl (Nat.le_of_ble_eq_true rfl) d_W_settle_12 ⟨by decide, by decide⟩ ?_
    intro v_12 s_12 M_12 hp_12
    obtain ⟨rfl, rfl, hz12, ho12⟩ := hp_12
    show Z _ _ _ _ _ _ _ _ 15 _ []
    refine z_iconst (v := 0) C d_W_settle_15 (by decide) ?_
    exact z_iret C ⟨rfl, ⟨_, _, _, _, zsh_oR ho12 hw (by omega)⟩, fun z z1 z2 => ho12 z z2, _, _, formof_0 (fun i => (zp_pol hw1).1 i (by omega)), Or.inr ⟨rfl, _, _, hz12⟩⟩ d_W_settle_16
end
section
theorem d_L_init_0 : decode c_L_init 0 = .ok (.aload_n 0, 1) := by decide +kernel
theorem d_L_init_1 : decode c_L_init 1 = .ok (.invokespecial 3, 3) := by decide +kernel
theorem d_L_init_4 : decode c_L_init 4 = .ok (.aload_n 0, 1) := by decide +kernel
theorem d_L_init_5 : decode c_L_init 5 = .ok (.bipush 32, 2) := by decide +kernel
theorem d_L_init_7 : decode c_L_init 7 = .ok (.newarray .char, 2) := by decide +kernel
theorem d_L_init_9 : decode c_L_init 9 = .ok (.putfield 9, 3) := by decide +kernel
theorem d_L_init_12 : decode c_L_init 12 = .ok (.aload_n 0, 1) := by decide +kernel
theorem d_L_init_13 : decode c_L_init 13 = .ok (.iconst 0, 1) := by decide +kernel
theorem d_L_init_14 : decode c_L_init 14 = .ok (.putfield 15, 3) := by decide +kernel
theorem d_L_init_17 : decode c_L_init 17 = .ok (.return_, 1) := by decide +kernel
theorem d_G_init_0 : decode c_G_init 0 = .ok (.aload_n 0, 1) := by decide +kernel
theorem d_G_init_1 : decode c_G_init 1 = .ok (.invokespecial 3, 3) := by decide +kernel
theorem d_G_init_4 : decode c_G_init 4 = .ok (.aload_n 0, 1) := by decide +kernel
theorem d_G_init_5 : decode c_G_init 5 = .ok (.bipush 32, 2) := by decide +kernel
theorem d_G_init_7 : decode c_G_init 7 = .ok (.newarray .int, 2) := by decide +kernel
theorem d_G_init_9 : decode c_G_init 9 = .ok (.putfield 9, 3) := by decide +kernel
theorem d_G_init_12 : decode c_G_init 12 = .ok (.aload_n 0, 1) := by decide +kernel
theorem d_G_init_13 : decode c_G_init 13 = .ok (.bipush 32, 2) := by decide +kernel
theorem d_G_init_15 : decode c_G_init 15 = .ok (.newarray .int, 2) := by decide +kernel
theorem d_G_init_17 : decode c_G_init 17 = .ok (.putfield 15, 3) := by decide +kernel
theorem d_G_init_20 : decode c_G_init 20 = .ok (.aload_n 0, 1) := by decide +kernel
theorem d_G_init_21 : decode c_G_init 21 = .ok (.iconst 0, 1) := by decide +kernel
theorem d_G_init_22 : decode c_G_init 22 = .ok (.putfield 18, 3) := by decide +kernel
theorem d_G_init_25 : decode c_G_init 25 = .ok (.aload_n 0, 1) := by decide +kernel
theorem d_G_init_26 : decode c_G_init 26 = .ok (.iconst (-1), 1) := by decide +kernel
theorem d_G_init_27 : decode c_G_init 27 = .ok (.putfield 22, 3) := by decide +kernel
theorem d_G_init_30 : decode c_G_init 30 = .ok (.return_, 1) := by decide +kernel
theorem d_K_init_0 : decode c_K_init 0 = .ok (.aload_n 0, 1) := by decide +kernel
theorem d_K_init_1 : decode c_K_init 1 = .ok (.invokespecial 3, 3) := by decide +kernel
theorem d_K_init_4 : decode c_K_init 4 = .ok (.aload_n 0, 1) := by decide +kernel
theorem d_K_init_5 : decode c_K_init 5 = .ok (.new 9, 3) := by decide +kernel
theorem d_K_init_8 : decode c_K_init 8 = .ok (.dup, 1) := by decide +kernel
theorem d_K_init_9 : decode c_K_init 9 = .ok (.invokespecial 11, 3) := by decide +kernel
theorem d_K_init_12 : decode c_K_init 12 = .ok (.putfield 12, 3) := by decide +kernel
theorem d_K_init_15 : decode c_K_init 15 = .ok (.aload_n 0, 1) := by decide +kernel
theorem d_K_init_16 : decode c_K_init 16 = .ok (.bipush 16, 2) := by decide +kernel
theorem d_K_init_18 : decode c_K_init 18 = .ok (.anewarray 18, 3) := by decide +kernel
theorem d_K_init_21 : decode c_K_init 21 = .ok (.putfield 20, 3) := by decide +kernel
theorem d_K_init_24 : decode c_K_init 24 = .ok (.aload_n 0, 1) := by decide +kernel
theorem d_K_init_25 : decode c_K_init 25 = .ok (.iconst 0, 1) := by decide +kernel
theorem d_K_init_26 : decode c_K_init 26 = .ok (.putfield 24, 3) := by decide +kernel
theorem d_K_init_29 : decode c_K_init 29 = .ok (.iconst 0, 1) := by decide +kernel
theorem d_K_init_30 : decode c_K_init 30 = .ok (.istore_n 1, 1) := by decide +kernel
theorem d_K_init_31 : decode c_K_init 31 = .ok (.iload_n 1, 1) := by decide +kernel
theorem d_K_init_32 : decode c_K_init 32 = .ok (.bipush 16, 2) := by decide +kernel
theorem d_K_init_34 : decode c_K_init 34 = .ok (.if_icmp .ge 22, 3) := by decide +kernel
theorem d_K_init_37 : decode c_K_init 37 = .ok (.aload_n 0, 1) := by decide +kernel
theorem d_K_init_38 : decode c_K_init 38 = .ok (.getfield 20, 3) := by decide +kernel
theorem d_K_init_41 : decode c_K_init 41 = .ok (.iload_n 1, 1) := by decide +kernel
theorem d_K_init_42 : decode c_K_init 42 = .ok (.new 18, 3) := by decide +kernel
theorem d_K_init_45 : decode c_K_init 45 = .ok (.dup, 1) := by decide +kernel
theorem d_K_init_46 : decode c_K_init 46 = .ok (.invokespecial 28, 3) := by decide +kernel
theorem d_K_init_49 : decode c_K_init 49 = .ok (.aastore, 1) := by decide +kernel
theorem d_K_init_50 : decode c_K_init 50 = .ok (.iinc 1 1, 3) := by decide +kernel
theorem d_K_init_53 : decode c_K_init 53 = .ok (.goto (-22), 3) := by decide +kernel
theorem d_K_init_56 : decode c_K_init 56 = .ok (.return_, 1) := by decide +kernel
theorem d_H_init_0 : decode c_H_init 0 = .ok (.aload_n 0, 1) := by decide +kernel
theorem d_H_init_1 : decode c_H_init 1 = .ok (.invokespecial 3, 3) := by decide +kernel
theorem d_H_init_4 : decode c_H_init 4 = .ok (.aload_n 0, 1) := by decide +kernel
theorem d_H_init_5 : decode c_H_init 5 = .ok (.bipush 40, 2) := by decide +kernel
theorem d_H_init_7 : decode c_H_init 7 = .ok (.anewarray 9, 3) := by decide +kernel
theorem d_H_init_10 : decode c_H_init 10 = .ok (.putfield 11, 3) := by decide +kernel
theorem d_H_init_13 : decode c_H_init 13 = .ok (.aload_n 0, 1) := by decide +kernel
theorem d_H_init_14 : decode c_H_init 14 = .ok (.bipush 40, 2) := by decide +kernel
theorem d_H_init_16 : decode c_H_init 16 = .ok (.newarray .int, 2) := by decide +kernel
theorem d_H_init_18 : decode c_H_init 18 = .ok (.putfield 17, 3) := by decide +kernel
theorem d_H_init_21 : decode c_H_init 21 = .ok (.aload_n 0, 1) := by decide +kernel
theorem d_H_init_22 : decode c_H_init 22 = .ok (.iconst 3, 1) := by decide +kernel
theorem d_H_init_23 : decode c_H_init 23 = .ok (.newarray .int, 2) := by decide +kernel
theorem d_H_init_25 : decode c_H_init 25 = .ok (.putfield 21, 3) := by decide +kernel
theorem d_H_init_28 : decode c_H_init 28 = .ok (.aload_n 0, 1) := by decide +kernel
theorem d_H_init_29 : decode c_H_init 29 = .ok (.iconst 0, 1) := by decide +kernel
theorem d_H_init_30 : decode c_H_init 30 = .ok (.putfield 24, 3) := by decide +kernel
theorem d_H_init_33 : decode c_H_init 33 = .ok (.aload_n 0, 1) := by decide +kernel
theorem d_H_init_34 : decode c_H_init 34 = .ok (.iconst 0, 1) := by decide +kernel
theorem d_H_init_35 : decode c_H_init 35 = .ok (.putfield 28, 3) := by decide +kernel
theorem d_H_init_38 : decode c_H_init 38 = .ok (.iconst 0, 1) := by decide +kernel
theorem d_H_init_39 : decode c_H_init 39 = .ok (.istore_n 1, 1) := by decide +kernel
theorem d_H_init_40 : decode c_H_init 40 = .ok (.iload_n 1, 1) := by decide +kernel
theorem d_H_init_41 : decode c_H_init 41 = .ok (.bipush 40, 2) := by decide +kernel
theorem d_H_init_43 : decode c_H_init 43 = .ok (.if_icmp .ge 22, 3) := by decide +kernel
theorem d_H_init_46 : decode c_H_init 46 = .ok (.aload_n 0, 1) := by decide +kernel
theorem d_H_init_47 : decode c_H_init 47 = .ok (.getfield 11, 3) := by decide +kernel
theorem d_H_init_50 : decode c_H_init 50 = .ok (.iload_n 1, 1) := by decide +kernel
theorem d_H_init_51 : decode c_H_init 51 = .ok (.new 9, 3) := by decide +kernel
theorem d_H_init_54 : decode c_H_init 54 = .ok (.dup, 1) := by decide +kernel
theorem d_H_init_55 : decode c_H_init 55 = .ok (.invokespecial 31, 3) := by decide +kernel
theorem d_H_init_58 : decode c_H_init 58 = .ok (.aastore, 1) := by decide +kernel
theorem d_H_init_59 : decode c_H_init 59 = .ok (.iinc 1 1, 3) := by decide +kernel
theorem d_H_init_62 : decode c_H_init 62 = .ok (.goto (-22), 3) := by decide +kernel
theorem d_H_init_65 : decode c_H_init 65 = .ok (.return_, 1) := by decide +kernel
theorem d_L_mayHold_0 : decode c_L_mayHold 0 = .ok (.iload_n 0, 1) := by decide +kernel
theorem d_L_mayHold_1 : decode c_L_mayHold 1 = .ok (.ifCond .le 24, 3) := by decide +kernel
theorem d_L_mayHold_4 : decode c_L_mayHold 4 = .ok (.iload_n 0, 1) := by decide +kernel
theorem d_L_mayHold_5 : decode c_L_mayHold 5 = .ok (.sipush 128, 3) := by decide +kernel
theorem d_L_mayHold_8 : decode c_L_mayHold 8 = .ok (.if_icmp .ge 17, 3) := by decide +kernel
theorem d_L_mayHold_11 : decode c_L_mayHold 11 = .ok (.ldc 19, 2) := by decide +kernel
theorem d_L_mayHold_13 : decode c_L_mayHold 13 = .ok (.iload_n 0, 1) := by decide +kernel
theorem d_L_mayHold_14 : decode c_L_mayHold 14 = .ok (.i2c, 1) := by decide +kernel
theorem d_L_mayHold_15 : decode c_L_mayHold 15 = .ok (.invokevirtual 21, 3) := by decide +kernel
theorem d_L_mayHold_18 : decode c_L_mayHold 18 = .ok (.ifCond .lt 7, 3) := by decide +kernel
theorem d_L_mayHold_21 : decode c_L_mayHold 21 = .ok (.iconst 1, 1) := by decide +kernel
theorem d_L_mayHold_22 : decode c_L_mayHold 22 = .ok (.goto 4, 3) := by decide +kernel
theorem d_L_mayHold_25 : decode c_L_mayHold 25 = .ok (.iconst 0, 1) := by decide +kernel
theorem d_L_mayHold_26 : decode c_L_mayHold 26 = .ok (.ireturn, 1) := by decide +kernel
theorem d_L_add_0 : decode c_L_add 0 = .ok (.aload_n 0, 1) := by decide +kernel
theorem d_L_add_1 : decode c_L_add 1 = .ok (.getfield 15, 3) := by decide +kernel
theorem d_L_add_4 : decode c_L_add 4 = .ok (.bipush 32, 2) := by decide +kernel
theorem d_L_add_6 : decode c_L_add 6 = .ok (.if_icmp .lt 5, 3) := by decide +kernel
theorem d_L_add_9 : decode c_L_add 9 = .ok (.iconst 0, 1) := by decide +kernel
theorem d_L_add_10 : decode c_L_add 10 = .ok (.ireturn, 1) := by decide +kernel
theorem d_L_add_11 : decode c_L_add 11 = .ok (.aload_n 0, 1) := by decide +kernel
theorem d_L_add_12 : decode c_L_add 12 = .ok (.getfield 9, 3) := by decide +kernel
theorem d_L_add_15 : decode c_L_add 15 = .ok (.aload_n 0, 1) := by decide +kernel
theorem d_L_add_16 : decode c_L_add 16 = .ok (.getfield 15, 3) := by decide +kernel
theorem d_L_add_19 : decode c_L_add 19 = .ok (.iload_n 1, 1) := by decide +kernel
theorem d_L_add_20 : decode c_L_add 20 = .ok (.castore, 1) := by decide +kernel
theorem d_L_add_21 : decode c_L_add 21 = .ok (.aload_n 0, 1) := by decide +kernel
theorem d_L_add_22 : decode c_L_add 22 = .ok (.dup, 1) := by decide +kernel
theorem d_L_add_23 : decode c_L_add 23 = .ok (.getfield 15, 3) := by decide +kernel
theorem d_L_add_26 : decode c_L_add 26 = .ok (.iconst 1, 1) := by decide +kernel
theorem d_L_add_27 : decode c_L_add 27 = .ok (.iadd, 1) := by decide +kernel
theorem d_L_add_28 : decode c_L_add 28 = .ok (.putfield 15, 3) := by decide +kernel
theorem d_L_add_31 : decode c_L_add 31 = .ok (.iconst 1, 1) := by decide +kernel
theorem d_L_add_32 : decode c_L_add 32 = .ok (.ireturn, 1) := by decide +kernel
theorem d_L_dropLast_0 : decode c_L_dropLast 0 = .ok (.aload_n 0, 1) := by decide +kernel
theorem d_L_dropLast_1 : decode c_L_dropLast 1 = .ok (.getfield 15, 3) := by decide +kernel
theorem d_L_dropLast_4 : decode c_L_dropLast 4 = .ok (.ifCond .ne 5, 3) := by decide +kernel
theorem d_L_dropLast_7 : decode c_L_dropLast 7 = .ok (.iconst 0, 1) := by decide +kernel
theorem d_L_dropLast_8 : decode c_L_dropLast 8 = .ok (.ireturn, 1) := by decide +kernel
theorem d_L_dropLast_9 : decode c_L_dropLast 9 = .ok (.aload_n 0, 1) := by decide +kernel
theorem d_L_dropLast_10 : decode c_L_dropLast 10 = .ok (.dup, 1) := by decide +kernel
theorem d_L_dropLast_11 : decode c_L_dropLast 11 = .ok (.getfield 15, 3) := by decide +kernel
theorem d_L_dropLast_14 : decode c_L_dropLast 14 = .ok (.iconst 1, 1) := by decide +kernel
theorem d_L_dropLast_15 : decode c_L_dropLast 15 = .ok (.isub, 1) := by decide +kernel
theorem d_L_dropLast_16 : decode c_L_dropLast 16 = .ok (.putfield 15, 3) := by decide +kernel
theorem d_L_dropLast_19 : decode c_L_dropLast 19 = .ok (.iconst 1, 1) := by decide +kernel
theorem d_L_dropLast_20 : decode c_L_dropLast 20 = .ok (.ireturn, 1) := by decide +kernel
theorem d_G_clear_0 : decode c_G_clear 0 = .ok (.aload_n 0, 1) := by decide +kernel
theorem d_G_clear_1 : decode c_G_clear 1 = .ok (.iconst 0, 1) := by decide +kernel
theorem d_G_clear_2 : decode c_G_clear 2 = .ok (.putfield 18, 3) := by decide +kernel
theorem d_G_clear_5 : decode c_G_clear 5 = .ok (.aload_n 0, 1) := by decide +kernel
theorem d_G_clear_6 : decode c_G_clear 6 = .ok (.iconst (-1), 1) := by decide +kernel
theorem d_G_clear_7 : decode c_G_clear 7 = .ok (.putfield 22, 3) := by decide +kernel
theorem d_G_clear_10 : decode c_G_clear 10 = .ok (.return_, 1) := by decide +kernel
theorem d_L_at_0 : decode c_L_at 0 = .ok (.iload_n 1, 1) := by decide +kernel
theorem d_L_at_1 : decode c_L_at 1 = .ok (.ifCond .lt 20, 3) := by decide +kernel
theorem d_L_at_4 : decode c_L_at 4 = .ok (.iload_n 1, 1) := by decide +kernel
theorem d_L_at_5 : decode c_L_at 5 = .ok (.aload_n 0, 1) := by decide +kernel
theorem d_L_at_6 : decode c_L_at 6 = .ok (.getfield 15, 3) := by decide +kernel
theorem d_L_at_9 : decode c_L_at 9 = .ok (.if_icmp .ge 12, 3) := by decide +kernel
theorem d_L_at_12 : decode c_L_at 12 = .ok (.aload_n 0, 1) := by decide +kernel
theorem d_L_at_13 : decode c_L_at 13 = .ok (.getfield 9, 3) := by decide +kernel
theorem d_L_at_16 : decode c_L_at 16 = .ok (.iload_n 1, 1) := by decide +kernel
theorem d_L_at_17 : decode c_L_at 17 = .ok (.caload, 1) := by decide +kernel
theorem d_L_at_18 : decode c_L_at 18 = .ok (.goto 4, 3) := by decide +kernel
theorem d_L_at_21 : decode c_L_at 21 = .ok (.iconst 0, 1) := by decide +kernel
theorem d_L_at_22 : decode c_L_at 22 = .ok (.ireturn, 1) := by decide +kernel
theorem d_G_add_0 : decode c_G_add 0 = .ok (.aload_n 0, 1) := by decide +kernel
theorem d_G_add_1 : decode c_G_add 1 = .ok (.getfield 18, 3) := by decide +kernel
theorem d_G_add_4 : decode c_G_add 4 = .ok (.bipush 32, 2) := by decide +kernel
theorem d_G_add_6 : decode c_G_add 6 = .ok (.if_icmp .ge 33, 3) := by decide +kernel
theorem d_G_add_9 : decode c_G_add 9 = .ok (.aload_n 0, 1) := by decide +kernel
theorem d_G_add_10 : decode c_G_add 10 = .ok (.getfield 9, 3) := by decide +kernel
theorem d_G_add_13 : decode c_G_add 13 = .ok (.aload_n 0, 1) := by decide +kernel
theorem d_G_add_14 : decode c_G_add 14 = .ok (.getfield 18, 3) := by decide +kernel
theorem d_G_add_17 : decode c_G_add 17 = .ok (.iload_n 1, 1) := by decide +kernel
theorem d_G_add_18 : decode c_G_add 18 = .ok (.iastore, 1) := by decide +kernel
theorem d_G_add_19 : decode c_G_add 19 = .ok (.aload_n 0, 1) := by decide +kernel
theorem d_G_add_20 : decode c_G_add 20 = .ok (.getfield 15, 3) := by decide +kernel
theorem d_G_add_23 : decode c_G_add 23 = .ok (.aload_n 0, 1) := by decide +kernel
theorem d_G_add_24 : decode c_G_add 24 = .ok (.getfield 18, 3) := by decide +kernel
theorem d_G_add_27 : decode c_G_add 27 = .ok (.iload_n 2, 1) := by decide +kernel
theorem d_G_add_28 : decode c_G_add 28 = .ok (.iastore, 1) := by decide +kernel
theorem d_G_add_29 : decode c_G_add 29 = .ok (.aload_n 0, 1) := by decide +kernel
theorem d_G_add_30 : decode c_G_add 30 = .ok (.dup, 1) := by decide +kernel
theorem d_G_add_31 : decode c_G_add 31 = .ok (.getfield 18, 3) := by decide +kernel
theorem d_G_add_34 : decode c_G_add 34 = .ok (.iconst 1, 1) := by decide +kernel
theorem d_G_add_35 : decode c_G_add 35 = .ok (.iadd, 1) := by decide +kernel
theorem d_G_add_36 : decode c_G_add 36 = .ok (.putfield 18, 3) := by decide +kernel
theorem d_G_add_39 : decode c_G_add 39 = .ok (.return_, 1) := by decide +kernel
theorem d_L_clear_0 : decode c_L_clear 0 = .ok (.aload_n 0, 1) := by decide +kernel
theorem d_L_clear_1 : decode c_L_clear 1 = .ok (.iconst 0, 1) := by decide +kernel
theorem d_L_clear_2 : decode c_L_clear 2 = .ok (.putfield 15, 3) := by decide +kernel
theorem d_L_clear_5 : decode c_L_clear 5 = .ok (.return_, 1) := by decide +kernel
theorem d_H_isFull_0 : decode c_H_isFull 0 = .ok (.aload_n 0, 1) := by decide +kernel
theorem d_H_isFull_1 : decode c_H_isFull 1 = .ok (.getfield 24, 3) := by decide +kernel
theorem d_H_isFull_4 : decode c_H_isFull 4 = .ok (.bipush 40, 2) := by decide +kernel
theorem d_H_isFull_6 : decode c_H_isFull 6 = .ok (.if_icmp .lt 7, 3) := by decide +kernel
theorem d_H_isFull_9 : decode c_H_isFull 9 = .ok (.iconst 1, 1) := by decide +kernel
theorem d_H_isFull_10 : decode c_H_isFull 10 = .ok (.goto 4, 3) := by decide +kernel
theorem d_H_isFull_13 : decode c_H_isFull 13 = .ok (.iconst 0, 1) := by decide +kernel
theorem d_H_isFull_14 : decode c_H_isFull 14 = .ok (.ireturn, 1) := by decide +kernel
theorem d_K_run_0 : decode c_K_run 0 = .ok (.iconst 0, 1) := by decide +kernel
theorem d_K_run_1 : decode c_K_run 1 = .ok (.istore_n 3, 1) := by decide +kernel
theorem d_K_run_2 : decode c_K_run 2 = .ok (.aload_n 0, 1) := by decide +kernel
theorem d_K_run_3 : decode c_K_run 3 = .ok (.iconst 0, 1) := by decide +kernel
theorem d_K_run_4 : decode c_K_run 4 = .ok (.putfield 24, 3) := by decide +kernel
theorem d_K_run_7 : decode c_K_run 7 = .ok (.iconst 0, 1) := by decide +kernel
theorem d_K_run_8 : decode c_K_run 8 = .ok (.istore 4, 2) := by decide +kernel
theorem d_K_run_10 : decode c_K_run 10 = .ok (.iload 4, 2) := by decide +kernel
theorem d_K_run_12 : decode c_K_run 12 = .ok (.aload_n 1, 1) := by decide +kernel
theorem d_K_run_13 : decode c_K_run 13 = .ok (.getfield 29, 3) := by decide +kernel
theorem d_K_run_16 : decode c_K_run 16 = .ok (.if_icmp .ge 62, 3) := by decide +kernel
theorem d_K_run_19 : decode c_K_run 19 = .ok (.iload_n 3, 1) := by decide +kernel
theorem d_K_run_20 : decode c_K_run 20 = .ok (.ifCond .ne 58, 3) := by decide +kernel
theorem d_K_run_23 : decode c_K_run 23 = .ok (.aload_n 1, 1) := by decide +kernel
theorem d_K_run_24 : decode c_K_run 24 = .ok (.getfield 34, 3) := by decide +kernel
theorem d_K_run_27 : decode c_K_run 27 = .ok (.iload 4, 2) := by decide +kernel
theorem d_K_run_29 : decode c_K_run 29 = .ok (.iaload, 1) := by decide +kernel
theorem d_K_run_30 : decode c_K_run 30 = .ok (.istore 5, 2) := by decide +kernel
theorem d_K_run_32 : decode c_K_run 32 = .ok (.iload 5, 2) := by decide +kernel
theorem d_K_run_34 : decode c_K_run 34 = .ok (.invokestatic 38, 3) := by decide +kernel
theorem d_K_run_37 : decode c_K_run 37 = .ok (.ifCond .eq 21, 3) := by decide +kernel
theorem d_K_run_40 : decode c_K_run 40 = .ok (.aload_n 0, 1) := by decide +kernel
theorem d_K_run_41 : decode c_K_run 41 = .ok (.iload 5, 2) := by decide +kernel
theorem d_K_run_43 : decode c_K_run 43 = .ok (.aload_n 1, 1) := by decide +kernel
theorem d_K_run_44 : decode c_K_run 44 = .ok (.getfield 42, 3) := by decide +kernel
theorem d_K_run_47 : decode c_K_run 47 = .ok (.iload 4, 2) := by decide +kernel
theorem d_K_run_49 : decode c_K_run 49 = .ok (.iaload, 1) := by decide +kernel
theorem d_K_run_50 : decode c_K_run 50 = .ok (.aload_n 2, 1) := by decide +kernel
theorem d_K_run_51 : decode c_K_run 51 = .ok (.invokevirtual 45, 3) := by decide +kernel
theorem d_K_run_54 : decode c_K_run 54 = .ok (.istore_n 3, 1) := by decide +kernel
theorem d_K_run_55 : decode c_K_run 55 = .ok (.goto 17, 3) := by decide +kernel
theorem d_K_run_58 : decode c_K_run 58 = .ok (.aload_n 0, 1) := by decide +kernel
theorem d_K_run_59 : decode c_K_run 59 = .ok (.iload 5, 2) := by decide +kernel
theorem d_K_run_61 : decode c_K_run 61 = .ok (.aload_n 1, 1) := by decide +kernel
theorem d_K_run_62 : decode c_K_run 62 = .ok (.getfield 42, 3) := by decide +kernel
theorem d_K_run_65 : decode c_K_run 65 = .ok (.iload 4, 2) := by decide +kernel
theorem d_K_run_67 : decode c_K_run 67 = .ok (.iaload, 1) := by decide +kernel
theorem d_K_run_68 : decode c_K_run 68 = .ok (.invokevirtual 49, 3) := by decide +kernel
theorem d_K_run_71 : decode c_K_run 71 = .ok (.istore_n 3, 1) := by decide +kernel
theorem d_K_run_72 : decode c_K_run 72 = .ok (.iinc 4 1, 3) := by decide +kernel
theorem d_K_run_75 : decode c_K_run 75 = .ok (.goto (-65), 3) := by decide +kernel
theorem d_K_run_78 : decode c_K_run 78 = .ok (.iload_n 3, 1) := by decide +kernel
theorem d_K_run_79 : decode c_K_run 79 = .ok (.ireturn, 1) := by decide +kernel
theorem d_G_loads_0 : decode c_G_loads 0 = .ok (.iload_n 0, 1) := by decide +kernel
theorem d_G_loads_1 : decode c_G_loads 1 = .ok (.iconst 4, 1) := by decide +kernel
theorem d_G_loads_2 : decode c_G_loads 2 = .ok (.if_icmp .gt 7, 3) := by decide +kernel
theorem d_G_loads_5 : decode c_G_loads 5 = .ok (.iconst 1, 1) := by decide +kernel
theorem d_G_loads_6 : decode c_G_loads 6 = .ok (.goto 4, 3) := by decide +kernel
theorem d_G_loads_9 : decode c_G_loads 9 = .ok (.iconst 0, 1) := by decide +kernel
theorem d_G_loads_10 : decode c_G_loads 10 = .ok (.ireturn, 1) := by decide +kernel
theorem d_K_load_0 : decode c_K_load 0 = .ok (.aload_n 0, 1) := by decide +kernel
theorem d_K_load_1 : decode c_K_load 1 = .ok (.getfield 24, 3) := by decide +kernel
theorem d_K_load_4 : decode c_K_load 4 = .ok (.bipush 16, 2) := by decide +kernel
theorem d_K_load_6 : decode c_K_load 6 = .ok (.if_icmp .lt 6, 3) := by decide +kernel
theorem d_K_load_9 : decode c_K_load 9 = .ok (.bipush (-6), 2) := by decide +kernel
theorem d_K_load_11 : decode c_K_load 11 = .ok (.ireturn, 1) := by decide +kernel
theorem d_K_load_12 : decode c_K_load 12 = .ok (.aload_n 0, 1) := by decide +kernel
theorem d_K_load_13 : decode c_K_load 13 = .ok (.getfield 20, 3) := by decide +kernel
theorem d_K_load_16 : decode c_K_load 16 = .ok (.aload_n 0, 1) := by decide +kernel
theorem d_K_load_17 : decode c_K_load 17 = .ok (.getfield 24, 3) := by decide +kernel
theorem d_K_load_20 : decode c_K_load 20 = .ok (.aaload, 1) := by decide +kernel
theorem d_K_load_21 : decode c_K_load 21 = .ok (.astore 4, 2) := by decide +kernel
theorem d_K_load_23 : decode c_K_load 23 = .ok (.aload_n 0, 1) := by decide +kernel
theorem d_K_load_24 : decode c_K_load 24 = .ok (.dup, 1) := by decide +kernel
theorem d_K_load_25 : decode c_K_load 25 = .ok (.getfield 24, 3) := by decide +kernel
theorem d_K_load_28 : decode c_K_load 28 = .ok (.iconst 1, 1) := by decide +kernel
theorem d_K_load_29 : decode c_K_load 29 = .ok (.iadd, 1) := by decide +kernel
theorem d_K_load_30 : decode c_K_load 30 = .ok (.putfield 24, 3) := by decide +kernel
theorem d_K_load_33 : decode c_K_load 33 = .ok (.iload_n 1, 1) := by decide +kernel
theorem d_K_load_34 : decode c_K_load 34 = .ok (.iconst 1, 1) := by decide +kernel
theorem d_K_load_35 : decode c_K_load 35 = .ok (.if_icmp .ne 16, 3) := by decide +kernel
theorem d_K_load_38 : decode c_K_load 38 = .ok (.aload 4, 2) := by decide +kernel
theorem d_K_load_40 : decode c_K_load 40 = .ok (.iload_n 2, 1) := by decide +kernel
theorem d_K_load_41 : decode c_K_load 41 = .ok (.sipush 10007, 3) := by decide +kernel
theorem d_K_load_44 : decode c_K_load 44 = .ok (.irem, 1) := by decide +kernel
theorem d_K_load_45 : decode c_K_load 45 = .ok (.invokevirtual 53, 3) := by decide +kernel
theorem d_K_load_48 : decode c_K_load 48 = .ok (.goto 51, 3) := by decide +kernel
theorem d_K_load_51 : decode c_K_load 51 = .ok (.iload_n 1, 1) := by decide +kernel
theorem d_K_load_52 : decode c_K_load 52 = .ok (.iconst 2, 1) := by decide +kernel
theorem d_K_load_53 : decode c_K_load 53 = .ok (.if_icmp .ne 11, 3) := by decide +kernel
theorem d_K_load_56 : decode c_K_load 56 = .ok (.aload 4, 2) := by decide +kernel
theorem d_K_load_58 : decode c_K_load 58 = .ok (.invokevirtual 57, 3) := by decide +kernel
theorem d_K_load_61 : decode c_K_load 61 = .ok (.goto 38, 3) := by decide +kernel
theorem d_K_load_64 : decode c_K_load 64 = .ok (.aload_n 3, 1) := by decide +kernel
theorem d_K_load_65 : decode c_K_load 65 = .ok (.iload_n 1, 1) := by decide +kernel
theorem d_K_load_66 : decode c_K_load 66 = .ok (.iconst 3, 1) := by decide +kernel
theorem d_K_load_67 : decode c_K_load 67 = .ok (.if_icmp .ne 11, 3) := by decide +kernel
theorem d_K_load_70 : decode c_K_load 70 = .ok (.aload_n 3, 1) := by decide +kernel
theorem d_K_load_71 : decode c_K_load 71 = .ok (.iload_n 2, 1) := by decide +kernel
theorem d_K_load_72 : decode c_K_load 72 = .ok (.invokevirtual 60, 3) := by decide +kernel
theorem d_K_load_75 : decode c_K_load 75 = .ok (.goto 4, 3) := by decide +kernel
theorem d_K_load_78 : decode c_K_load 78 = .ok (.iload_n 2, 1) := by decide +kernel
theorem d_K_load_79 : decode c_K_load 79 = .ok (.invokevirtual 66, 3) := by decide +kernel
theorem d_K_load_82 : decode c_K_load 82 = .ok (.astore 5, 2) := by decide +kernel
theorem d_K_load_84 : decode c_K_load 84 = .ok (.aload 5, 2) := by decide +kernel
theorem d_K_load_86 : decode c_K_load 86 = .ok (.ifnonnull 6, 3) := by decide +kernel
theorem d_K_load_89 : decode c_K_load 89 = .ok (.bipush (-4), 2) := by decide +kernel
theorem d_K_load_91 : decode c_K_load 91 = .ok (.ireturn, 1) := by decide +kernel
theorem d_K_load_92 : decode c_K_load 92 = .ok (.aload 4, 2) := by decide +kernel
theorem d_K_load_94 : decode c_K_load 94 = .ok (.aload 5, 2) := by decide +kernel
theorem d_K_load_96 : decode c_K_load 96 = .ok (.invokevirtual 70, 3) := by decide +kernel
theorem d_K_load_99 : decode c_K_load 99 = .ok (.iconst 0, 1) := by decide +kernel
theorem d_K_load_100 : decode c_K_load 100 = .ok (.ireturn, 1) := by decide +kernel
theorem d_H_labelBoundTo_0 : decode c_H_labelBoundTo 0 = .ok (.iload_n 1, 1) := by decide +kernel
theorem d_H_labelBoundTo_1 : decode c_H_labelBoundTo 1 = .ok (.ifCond .lt 17, 3) := by decide +kernel
theorem d_H_labelBoundTo_4 : decode c_H_labelBoundTo 4 = .ok (.iload_n 1, 1) := by decide +kernel
theorem d_H_labelBoundTo_5 : decode c_H_labelBoundTo 5 = .ok (.iconst 3, 1) := by decide +kernel
theorem d_H_labelBoundTo_6 : decode c_H_labelBoundTo 6 = .ok (.if_icmp .ge 12, 3) := by decide +kernel
theorem d_H_labelBoundTo_9 : decode c_H_labelBoundTo 9 = .ok (.aload_n 0, 1) := by decide +kernel
theorem d_H_labelBoundTo_10 : decode c_H_labelBoundTo 10 = .ok (.getfield 21, 3) := by decide +kernel
theorem d_H_labelBoundTo_13 : decode c_H_labelBoundTo 13 = .ok (.iload_n 1, 1) := by decide +kernel
theorem d_H_labelBoundTo_14 : decode c_H_labelBoundTo 14 = .ok (.iaload, 1) := by decide +kernel
theorem d_H_labelBoundTo_15 : decode c_H_labelBoundTo 15 = .ok (.goto 4, 3) := by decide +kernel
theorem d_H_labelBoundTo_18 : decode c_H_labelBoundTo 18 = .ok (.iconst 0, 1) := by decide +kernel
theorem d_H_labelBoundTo_19 : decode c_H_labelBoundTo 19 = .ok (.ireturn, 1) := by decide +kernel
theorem d_H_find_0 : decode c_H_find 0 = .ok (.iload_n 1, 1) := by decide +kernel
theorem d_H_find_1 : decode c_H_find 1 = .ok (.iconst 1, 1) := by decide +kernel
theorem d_H_find_2 : decode c_H_find 2 = .ok (.if_icmp .lt 22, 3) := by decide +kernel
theorem d_H_find_5 : decode c_H_find 5 = .ok (.iload_n 1, 1) := by decide +kernel
theorem d_H_find_6 : decode c_H_find 6 = .ok (.aload_n 0, 1) := by decide +kernel
theorem d_H_find_7 : decode c_H_find 7 = .ok (.getfield 24, 3) := by decide +kernel
theorem d_H_find_10 : decode c_H_find 10 = .ok (.if_icmp .gt 14, 3) := by decide +kernel
theorem d_H_find_13 : decode c_H_find 13 = .ok (.aload_n 0, 1) := by decide +kernel
theorem d_H_find_14 : decode c_H_find 14 = .ok (.getfield 11, 3) := by decide +kernel
theorem d_H_find_17 : decode c_H_find 17 = .ok (.iload_n 1, 1) := by decide +kernel
theorem d_H_find_18 : decode c_H_find 18 = .ok (.iconst 1, 1) := by decide +kernel
theorem d_H_find_19 : decode c_H_find 19 = .ok (.isub, 1) := by decide +kernel
theorem d_H_find_20 : decode c_H_find 20 = .ok (.aaload, 1) := by decide +kernel
theorem d_H_find_21 : decode c_H_find 21 = .ok (.goto 4, 3) := by decide +kernel
theorem d_H_find_24 : decode c_H_find 24 = .ok (.aconst_null, 1) := by decide +kernel
theorem d_H_find_25 : decode c_H_find 25 = .ok (.areturn, 1) := by decide +kernel
theorem d_K_operate_0 : decode c_K_operate 0 = .ok (.iload_n 1, 1) := by decide +kernel
theorem d_K_operate_1 : decode c_K_operate 1 = .ok (.invokestatic 74, 3) := by decide +kernel
theorem d_K_operate_4 : decode c_K_operate 4 = .ok (.ifCond .eq 7, 3) := by decide +kernel
theorem d_K_operate_7 : decode c_K_operate 7 = .ok (.iconst 2, 1) := by decide +kernel
theorem d_K_operate_8 : decode c_K_operate 8 = .ok (.goto 4, 3) := by decide +kernel
theorem d_K_operate_11 : decode c_K_operate 11 = .ok (.iconst 1, 1) := by decide +kernel
theorem d_K_operate_12 : decode c_K_operate 12 = .ok (.istore_n 3, 1) := by decide +kernel
theorem d_K_operate_13 : decode c_K_operate 13 = .ok (.aload_n 0, 1) := by decide +kernel
theorem d_K_operate_14 : decode c_K_operate 14 = .ok (.getfield 24, 3) := by decide +kernel
theorem d_K_operate_17 : decode c_K_operate 17 = .ok (.iload_n 3, 1) := by decide +kernel
theorem d_K_operate_18 : decode c_K_operate 18 = .ok (.if_icmp .ge 6, 3) := by decide +kernel
theorem d_K_operate_21 : decode c_K_operate 21 = .ok (.bipush (-6), 2) := by decide +kernel
theorem d_K_operate_23 : decode c_K_operate 23 = .ok (.ireturn, 1) := by decide +kernel
theorem d_K_operate_24 : decode c_K_operate 24 = .ok (.aload_n 0, 1) := by decide +kernel
theorem d_K_operate_25 : decode c_K_operate 25 = .ok (.getfield 20, 3) := by decide +kernel
theorem d_K_operate_28 : decode c_K_operate 28 = .ok (.aload_n 0, 1) := by decide +kernel
theorem d_K_operate_29 : decode c_K_operate 29 = .ok (.getfield 24, 3) := by decide +kernel
theorem d_K_operate_32 : decode c_K_operate 32 = .ok (.iconst 1, 1) := by decide +kernel
theorem d_K_operate_33 : decode c_K_operate 33 = .ok (.isub, 1) := by decide +kernel
theorem d_K_operate_34 : decode c_K_operate 34 = .ok (.aaload, 1) := by decide +kernel
theorem d_K_operate_35 : decode c_K_operate 35 = .ok (.astore 4, 2) := by decide +kernel
theorem d_K_operate_37 : decode c_K_operate 37 = .ok (.aload_n 0, 1) := by decide +kernel
theorem d_K_operate_38 : decode c_K_operate 38 = .ok (.getfield 20, 3) := by decide +kernel
theorem d_K_operate_41 : decode c_K_operate 41 = .ok (.aload_n 0, 1) := by decide +kernel
theorem d_K_operate_42 : decode c_K_operate 42 = .ok (.getfield 24, 3) := by decide +kernel
theorem d_K_operate_45 : decode c_K_operate 45 = .ok (.iload_n 3, 1) := by decide +kernel
theorem d_K_operate_46 : decode c_K_operate 46 = .ok (.isub, 1) := by decide +kernel
theorem d_K_operate_47 : decode c_K_operate 47 = .ok (.aaload, 1) := by decide +kernel
theorem d_K_operate_48 : decode c_K_operate 48 = .ok (.astore 5, 2) := by decide +kernel
theorem d_K_operate_50 : decode c_K_operate 50 = .ok (.aload_n 0, 1) := by decide +kernel
theorem d_K_operate_51 : decode c_K_operate 51 = .ok (.aload_n 0, 1) := by decide +kernel
theorem d_K_operate_52 : decode c_K_operate 52 = .ok (.getfield 24, 3) := by decide +kernel
theorem d_K_operate_55 : decode c_K_operate 55 = .ok (.iload_n 3, 1) := by decide +kernel
theorem d_K_operate_56 : decode c_K_operate 56 = .ok (.isub, 1) := by decide +kernel
theorem d_K_operate_57 : decode c_K_operate 57 = .ok (.iconst 1, 1) := by decide +kernel
theorem d_K_operate_58 : decode c_K_operate 58 = .ok (.iadd, 1) := by decide +kernel
theorem d_K_operate_59 : decode c_K_operate 59 = .ok (.putfield 24, 3) := by decide +kernel
theorem d_K_operate_62 : decode c_K_operate 62 = .ok (.iconst 0, 1) := by decide +kernel
theorem d_K_operate_63 : decode c_K_operate 63 = .ok (.istore 6, 2) := by decide +kernel
theorem d_K_operate_65 : decode c_K_operate 65 = .ok (.iload_n 1, 1) := by decide +kernel
theorem d_K_operate_66 : decode c_K_operate 66 = .ok (.tableswitch 151 5 12 #[124, 151, 139, 46, 61, 78, 92, 108], 46) := by decide +kernel
theorem d_K_operate_112 : decode c_K_operate 112 = .ok (.aload_n 0, 1) := by decide +kernel
theorem d_K_operate_113 : decode c_K_operate 113 = .ok (.getfield 12, 3) := by decide +kernel
theorem d_K_operate_116 : decode c_K_operate 116 = .ok (.aload 5, 2) := by decide +kernel
theorem d_K_operate_118 : decode c_K_operate 118 = .ok (.aload 4, 2) := by decide +kernel
theorem d_K_operate_120 : decode c_K_operate 120 = .ok (.iconst 1, 1) := by decide +kernel
theorem d_K_operate_121 : decode c_K_operate 121 = .ok (.invokevirtual 77, 3) := by decide +kernel
theorem d_K_operate_124 : decode c_K_operate 124 = .ok (.goto 102, 3) := by decide +kernel
theorem d_K_operate_127 : decode c_K_operate 127 = .ok (.aload_n 0, 1) := by decide +kernel
theorem d_K_operate_128 : decode c_K_operate 128 = .ok (.getfield 12, 3) := by decide +kernel
theorem d_K_operate_131 : decode c_K_operate 131 = .ok (.aload 5, 2) := by decide +kernel
theorem d_K_operate_133 : decode c_K_operate 133 = .ok (.aload 4, 2) := by decide +kernel
theorem d_K_operate_135 : decode c_K_operate 135 = .ok (.sipush 10006, 3) := by decide +kernel
theorem d_K_operate_138 : decode c_K_operate 138 = .ok (.invokevirtual 77, 3) := by decide +kernel
theorem d_K_operate_141 : decode c_K_operate 141 = .ok (.goto 85, 3) := by decide +kernel
theorem d_K_operate_144 : decode c_K_operate 144 = .ok (.aload_n 0, 1) := by decide +kernel
theorem d_K_operate_145 : decode c_K_operate 145 = .ok (.getfield 12, 3) := by decide +kernel
theorem d_K_operate_148 : decode c_K_operate 148 = .ok (.aload 5, 2) := by decide +kernel
theorem d_K_operate_150 : decode c_K_operate 150 = .ok (.aload 4, 2) := by decide +kernel
theorem d_K_operate_152 : decode c_K_operate 152 = .ok (.invokevirtual 81, 3) := by decide +kernel
theorem d_K_operate_155 : decode c_K_operate 155 = .ok (.goto 71, 3) := by decide +kernel
theorem d_K_operate_158 : decode c_K_operate 158 = .ok (.aload_n 0, 1) := by decide +kernel
theorem d_K_operate_159 : decode c_K_operate 159 = .ok (.getfield 12, 3) := by decide +kernel
theorem d_K_operate_162 : decode c_K_operate 162 = .ok (.aload 5, 2) := by decide +kernel
theorem d_K_operate_164 : decode c_K_operate 164 = .ok (.aload 4, 2) := by decide +kernel
theorem d_K_operate_166 : decode c_K_operate 166 = .ok (.invokevirtual 85, 3) := by decide +kernel
theorem d_K_operate_169 : decode c_K_operate 169 = .ok (.istore 6, 2) := by decide +kernel
theorem d_K_operate_171 : decode c_K_operate 171 = .ok (.goto 55, 3) := by decide +kernel
theorem d_K_operate_174 : decode c_K_operate 174 = .ok (.aload_n 0, 1) := by decide +kernel
theorem d_K_operate_175 : decode c_K_operate 175 = .ok (.getfield 12, 3) := by decide +kernel
theorem d_K_operate_178 : decode c_K_operate 178 = .ok (.aload 5, 2) := by decide +kernel
theorem d_K_operate_180 : decode c_K_operate 180 = .ok (.aload 4, 2) := by decide +kernel
theorem d_K_operate_182 : decode c_K_operate 182 = .ok (.invokevirtual 89, 3) := by decide +kernel
theorem d_K_operate_185 : decode c_K_operate 185 = .ok (.istore 6, 2) := by decide +kernel
theorem d_K_operate_187 : decode c_K_operate 187 = .ok (.goto 39, 3) := by decide +kernel
theorem d_K_operate_190 : decode c_K_operate 190 = .ok (.aload_n 0, 1) := by decide +kernel
theorem d_K_operate_191 : decode c_K_operate 191 = .ok (.getfield 12, 3) := by decide +kernel
theorem d_K_operate_194 : decode c_K_operate 194 = .ok (.aload 5, 2) := by decide +kernel
theorem d_K_operate_196 : decode c_K_operate 196 = .ok (.iload_n 2, 1) := by decide +kernel
theorem d_K_operate_197 : decode c_K_operate 197 = .ok (.invokevirtual 92, 3) := by decide +kernel
theorem d_K_operate_200 : decode c_K_operate 200 = .ok (.istore 6, 2) := by decide +kernel
theorem d_K_operate_202 : decode c_K_operate 202 = .ok (.goto 24, 3) := by decide +kernel
theorem d_K_operate_205 : decode c_K_operate 205 = .ok (.aload_n 0, 1) := by decide +kernel
theorem d_K_operate_206 : decode c_K_operate 206 = .ok (.getfield 12, 3) := by decide +kernel
theorem d_K_operate_209 : decode c_K_operate 209 = .ok (.aload 5, 2) := by decide +kernel
theorem d_K_operate_211 : decode c_K_operate 211 = .ok (.invokevirtual 96, 3) := by decide +kernel
theorem d_K_operate_214 : decode c_K_operate 214 = .ok (.goto 12, 3) := by decide +kernel
theorem d_K_operate_217 : decode c_K_operate 217 = .ok (.aload_n 0, 1) := by decide +kernel
theorem d_K_operate_218 : decode c_K_operate 218 = .ok (.getfield 12, 3) := by decide +kernel
theorem d_K_operate_221 : decode c_K_operate 221 = .ok (.aload 5, 2) := by decide +kernel
theorem d_K_operate_223 : decode c_K_operate 223 = .ok (.invokevirtual 99, 3) := by decide +kernel
theorem d_K_operate_226 : decode c_K_operate 226 = .ok (.iload 6, 2) := by decide +kernel
theorem d_K_operate_228 : decode c_K_operate 228 = .ok (.ifCond .ne 15, 3) := by decide +kernel
theorem d_K_operate_231 : decode c_K_operate 231 = .ok (.aload_n 0, 1) := by decide +kernel
theorem d_K_operate_232 : decode c_K_operate 232 = .ok (.getfield 12, 3) := by decide +kernel
theorem d_K_operate_235 : decode c_K_operate 235 = .ok (.aload 5, 2) := by decide +kernel
theorem d_K_operate_237 : decode c_K_operate 237 = .ok (.invokevirtual 102, 3) := by decide +kernel
theorem d_K_operate_240 : decode c_K_operate 240 = .ok (.goto 5, 3) := by decide +kernel
theorem d_K_operate_243 : decode c_K_operate 243 = .ok (.iload 6, 2) := by decide +kernel
theorem d_K_operate_245 : decode c_K_operate 245 = .ok (.ireturn, 1) := by decide +kernel
theorem d_G_hasTwoSides_0 : decode c_G_hasTwoSides 0 = .ok (.iload_n 0, 1) := by decide +kernel
theorem d_G_hasTwoSides_1 : decode c_G_hasTwoSides 1 = .ok (.bipush 8, 2) := by decide +kernel
theorem d_G_hasTwoSides_3 : decode c_G_hasTwoSides 3 = .ok (.if_icmp .lt 7, 3) := by decide +kernel
theorem d_G_hasTwoSides_6 : decode c_G_hasTwoSides 6 = .ok (.iconst 1, 1) := by decide +kernel
theorem d_G_hasTwoSides_7 : decode c_G_hasTwoSides 7 = .ok (.goto 4, 3) := by decide +kernel
theorem d_G_hasTwoSides_10 : decode c_G_hasTwoSides 10 = .ok (.iconst 0, 1) := by decide +kernel
theorem d_G_hasTwoSides_11 : decode c_G_hasTwoSides 11 = .ok (.ireturn, 1) := by decide +kernel
theorem d_K_result_0 : decode c_K_result 0 = .ok (.aload_n 0, 1) := by decide +kernel
theorem d_K_result_1 : decode c_K_result 1 = .ok (.getfield 20, 3) := by decide +kernel
theorem d_K_result_4 : decode c_K_result 4 = .ok (.iconst 0, 1) := by decide +kernel
theorem d_K_result_5 : decode c_K_result 5 = .ok (.aaload, 1) := by decide +kernel
theorem d_K_result_6 : decode c_K_result 6 = .ok (.areturn, 1) := by decide +kernel
theorem d_H_keep_0 : decode c_H_keep 0 = .ok (.aload_n 0, 1) := by decide +kernel
theorem d_H_keep_1 : decode c_H_keep 1 = .ok (.invokevirtual 32, 3) := by decide +kernel
theorem d_H_keep_4 : decode c_H_keep 4 = .ok (.ifCond .eq 6, 3) := by decide +kernel
theorem d_H_keep_7 : decode c_H_keep 7 = .ok (.bipush (-2), 2) := by decide +kernel
theorem d_H_keep_9 : decode c_H_keep 9 = .ok (.ireturn, 1) := by decide +kernel
theorem d_H_keep_10 : decode c_H_keep 10 = .ok (.aload_n 0, 1) := by decide +kernel
theorem d_H_keep_11 : decode c_H_keep 11 = .ok (.getfield 11, 3) := by decide +kernel
theorem d_H_keep_14 : decode c_H_keep 14 = .ok (.aload_n 0, 1) := by decide +kernel
theorem d_H_keep_15 : decode c_H_keep 15 = .ok (.getfield 24, 3) := by decide +kernel
theorem d_H_keep_18 : decode c_H_keep 18 = .ok (.aaload, 1) := by decide +kernel
theorem d_H_keep_19 : decode c_H_keep 19 = .ok (.aload_n 1, 1) := by decide +kernel
theorem d_H_keep_20 : decode c_H_keep 20 = .ok (.invokevirtual 36, 3) := by decide +kernel
theorem d_H_keep_23 : decode c_H_keep 23 = .ok (.aload_n 0, 1) := by decide +kernel
theorem d_H_keep_24 : decode c_H_keep 24 = .ok (.getfield 17, 3) := by decide +kernel
theorem d_H_keep_27 : decode c_H_keep 27 = .ok (.aload_n 0, 1) := by decide +kernel
theorem d_H_keep_28 : decode c_H_keep 28 = .ok (.getfield 24, 3) := by decide +kernel
theorem d_H_keep_31 : decode c_H_keep 31 = .ok (.aload_n 0, 1) := by decide +kernel
theorem d_H_keep_32 : decode c_H_keep 32 = .ok (.aload_n 1, 1) := by decide +kernel
theorem d_H_keep_33 : decode c_H_keep 33 = .ok (.invokevirtual 40, 3) := by decide +kernel
theorem d_H_keep_36 : decode c_H_keep 36 = .ok (.iastore, 1) := by decide +kernel
theorem d_H_keep_37 : decode c_H_keep 37 = .ok (.aload_n 0, 1) := by decide +kernel
theorem d_H_keep_38 : decode c_H_keep 38 = .ok (.dup, 1) := by decide +kernel
theorem d_H_keep_39 : decode c_H_keep 39 = .ok (.getfield 24, 3) := by decide +kernel
theorem d_H_keep_42 : decode c_H_keep 42 = .ok (.iconst 1, 1) := by decide +kernel
theorem d_H_keep_43 : decode c_H_keep 43 = .ok (.iadd, 1) := by decide +kernel
theorem d_H_keep_44 : decode c_H_keep 44 = .ok (.putfield 24, 3) := by decide +kernel
theorem d_H_keep_47 : decode c_H_keep 47 = .ok (.aload_n 0, 1) := by decide +kernel
theorem d_H_keep_48 : decode c_H_keep 48 = .ok (.getfield 24, 3) := by decide +kernel
theorem d_H_keep_51 : decode c_H_keep 51 = .ok (.ireturn, 1) := by decide +kernel
theorem d_H_shapeNumberFor_0 : decode c_H_shapeNumberFor 0 = .ok (.iconst 0, 1) := by decide +kernel
theorem d_H_shapeNumberFor_1 : decode c_H_shapeNumberFor 1 = .ok (.istore_n 2, 1) := by decide +kernel
theorem d_H_shapeNumberFor_2 : decode c_H_shapeNumberFor 2 = .ok (.iload_n 2, 1) := by decide +kernel
theorem d_H_shapeNumberFor_3 : decode c_H_shapeNumberFor 3 = .ok (.aload_n 0, 1) := by decide +kernel
theorem d_H_shapeNumberFor_4 : decode c_H_shapeNumberFor 4 = .ok (.getfield 24, 3) := by decide +kernel
theorem d_H_shapeNumberFor_7 : decode c_H_shapeNumberFor 7 = .ok (.if_icmp .ge 29, 3) := by decide +kernel
theorem d_H_shapeNumberFor_10 : decode c_H_shapeNumberFor 10 = .ok (.aload_n 0, 1) := by decide +kernel
theorem d_H_shapeNumberFor_11 : decode c_H_shapeNumberFor 11 = .ok (.getfield 11, 3) := by decide +kernel
theorem d_H_shapeNumberFor_14 : decode c_H_shapeNumberFor 14 = .ok (.iload_n 2, 1) := by decide +kernel
theorem d_H_shapeNumberFor_15 : decode c_H_shapeNumberFor 15 = .ok (.aaload, 1) := by decide +kernel
theorem d_H_shapeNumberFor_16 : decode c_H_shapeNumberFor 16 = .ok (.aload_n 1, 1) := by decide +kernel
theorem d_H_shapeNumberFor_17 : decode c_H_shapeNumberFor 17 = .ok (.invokevirtual 44, 3) := by decide +kernel
theorem d_H_shapeNumberFor_20 : decode c_H_shapeNumberFor 20 = .ok (.ifCond .eq 10, 3) := by decide +kernel
theorem d_H_shapeNumberFor_23 : decode c_H_shapeNumberFor 23 = .ok (.aload_n 0, 1) := by decide +kernel
theorem d_H_shapeNumberFor_24 : decode c_H_shapeNumberFor 24 = .ok (.getfield 17, 3) := by decide +kernel
theorem d_H_shapeNumberFor_27 : decode c_H_shapeNumberFor 27 = .ok (.iload_n 2, 1) := by decide +kernel
theorem d_H_shapeNumberFor_28 : decode c_H_shapeNumberFor 28 = .ok (.iaload, 1) := by decide +kernel
theorem d_H_shapeNumberFor_29 : decode c_H_shapeNumberFor 29 = .ok (.ireturn, 1) := by decide +kernel
theorem d_H_shapeNumberFor_30 : decode c_H_shapeNumberFor 30 = .ok (.iinc 2 1, 3) := by decide +kernel
theorem d_H_shapeNumberFor_33 : decode c_H_shapeNumberFor 33 = .ok (.goto (-31), 3) := by decide +kernel
theorem d_H_shapeNumberFor_36 : decode c_H_shapeNumberFor 36 = .ok (.aload_n 0, 1) := by decide +kernel
theorem d_H_shapeNumberFor_37 : decode c_H_shapeNumberFor 37 = .ok (.dup, 1) := by decide +kernel
theorem d_H_shapeNumberFor_38 : decode c_H_shapeNumberFor 38 = .ok (.getfield 28, 3) := by decide +kernel
theorem d_H_shapeNumberFor_41 : decode c_H_shapeNumberFor 41 = .ok (.iconst 1, 1) := by decide +kernel
theorem d_H_shapeNumberFor_42 : decode c_H_shapeNumberFor 42 = .ok (.iadd, 1) := by decide +kernel
theorem d_H_shapeNumberFor_43 : decode c_H_shapeNumberFor 43 = .ok (.putfield 28, 3) := by decide +kernel
theorem d_H_shapeNumberFor_46 : decode c_H_shapeNumberFor 46 = .ok (.aload_n 0, 1) := by decide +kernel
theorem d_H_shapeNumberFor_47 : decode c_H_shapeNumberFor 47 = .ok (.getfield 28, 3) := by decide +kernel
theorem d_H_shapeNumberFor_50 : decode c_H_shapeNumberFor 50 = .ok (.ireturn, 1) := by decide +kernel
theorem d_H_bind_0 : decode c_H_bind 0 = .ok (.iload_n 1, 1) := by decide +kernel
theorem d_H_bind_1 : decode c_H_bind 1 = .ok (.ifCond .lt 15, 3) := by decide +kernel
theorem d_H_bind_4 : decode c_H_bind 4 = .ok (.iload_n 1, 1) := by decide +kernel
theorem d_H_bind_5 : decode c_H_bind 5 = .ok (.iconst 3, 1) := by decide +kernel
theorem d_H_bind_6 : decode c_H_bind 6 = .ok (.if_icmp .ge 10, 3) := by decide +kernel
theorem d_H_bind_9 : decode c_H_bind 9 = .ok (.aload_n 0, 1) := by decide +kernel
theorem d_H_bind_10 : decode c_H_bind 10 = .ok (.getfield 21, 3) := by decide +kernel
theorem d_H_bind_13 : decode c_H_bind 13 = .ok (.iload_n 1, 1) := by decide +kernel
theorem d_H_bind_14 : decode c_H_bind 14 = .ok (.iload_n 2, 1) := by decide +kernel
theorem d_H_bind_15 : decode c_H_bind 15 = .ok (.iastore, 1) := by decide +kernel
theorem d_H_bind_16 : decode c_H_bind 16 = .ok (.return_, 1) := by decide +kernel
theorem d_H_shapeOf_0 : decode c_H_shapeOf 0 = .ok (.iload_n 1, 1) := by decide +kernel
theorem d_H_shapeOf_1 : decode c_H_shapeOf 1 = .ok (.iconst 1, 1) := by decide +kernel
theorem d_H_shapeOf_2 : decode c_H_shapeOf 2 = .ok (.if_icmp .lt 22, 3) := by decide +kernel
theorem d_H_shapeOf_5 : decode c_H_shapeOf 5 = .ok (.iload_n 1, 1) := by decide +kernel
theorem d_H_shapeOf_6 : decode c_H_shapeOf 6 = .ok (.aload_n 0, 1) := by decide +kernel
theorem d_H_shapeOf_7 : decode c_H_shapeOf 7 = .ok (.getfield 24, 3) := by decide +kernel
theorem d_H_shapeOf_10 : decode c_H_shapeOf 10 = .ok (.if_icmp .gt 14, 3) := by decide +kernel
theorem d_H_shapeOf_13 : decode c_H_shapeOf 13 = .ok (.aload_n 0, 1) := by decide +kernel
theorem d_H_shapeOf_14 : decode c_H_shapeOf 14 = .ok (.getfield 17, 3) := by decide +kernel
theorem d_H_shapeOf_17 : decode c_H_shapeOf 17 = .ok (.iload_n 1, 1) := by decide +kernel
theorem d_H_shapeOf_18 : decode c_H_shapeOf 18 = .ok (.iconst 1, 1) := by decide +kernel
theorem d_H_shapeOf_19 : decode c_H_shapeOf 19 = .ok (.isub, 1) := by decide +kernel
theorem d_H_shapeOf_20 : decode c_H_shapeOf 20 = .ok (.iaload, 1) := by decide +kernel
theorem d_H_shapeOf_21 : decode c_H_shapeOf 21 = .ok (.goto 4, 3) := by decide +kernel
theorem d_H_shapeOf_24 : decode c_H_shapeOf 24 = .ok (.iconst 0, 1) := by decide +kernel
theorem d_H_shapeOf_25 : decode c_H_shapeOf 25 = .ok (.ireturn, 1) := by decide +kernel
theorem d_H_clear_0 : decode c_H_clear 0 = .ok (.aload_n 0, 1) := by decide +kernel
theorem d_H_clear_1 : decode c_H_clear 1 = .ok (.iconst 0, 1) := by decide +kernel
theorem d_H_clear_2 : decode c_H_clear 2 = .ok (.putfield 24, 3) := by decide +kernel
theorem d_H_clear_5 : decode c_H_clear 5 = .ok (.aload_n 0, 1) := by decide +kernel
theorem d_H_clear_6 : decode c_H_clear 6 = .ok (.iconst 0, 1) := by decide +kernel
theorem d_H_clear_7 : decode c_H_clear 7 = .ok (.putfield 28, 3) := by decide +kernel
theorem d_H_clear_10 : decode c_H_clear 10 = .ok (.iconst 0, 1) := by decide +kernel
theorem d_H_clear_11 : decode c_H_clear 11 = .ok (.istore_n 1, 1) := by decide +kernel
theorem d_H_clear_12 : decode c_H_clear 12 = .ok (.iload_n 1, 1) := by decide +kernel
theorem d_H_clear_13 : decode c_H_clear 13 = .ok (.iconst 3, 1) := by decide +kernel
theorem d_H_clear_14 : decode c_H_clear 14 = .ok (.if_icmp .ge 16, 3) := by decide +kernel
theorem d_H_clear_17 : decode c_H_clear 17 = .ok (.aload_n 0, 1) := by decide +kernel
theorem d_H_clear_18 : decode c_H_clear 18 = .ok (.getfield 21, 3) := by decide +kernel
theorem d_H_clear_21 : decode c_H_clear 21 = .ok (.iload_n 1, 1) := by decide +kernel
theorem d_H_clear_22 : decode c_H_clear 22 = .ok (.iconst 0, 1) := by decide +kernel
theorem d_H_clear_23 : decode c_H_clear 23 = .ok (.iastore, 1) := by decide +kernel
theorem d_H_clear_24 : decode c_H_clear 24 = .ok (.iinc 1 1, 3) := by decide +kernel
theorem d_H_clear_27 : decode c_H_clear 27 = .ok (.goto (-15), 3) := by decide +kernel
theorem d_H_clear_30 : decode c_H_clear 30 = .ok (.return_, 1) := by decide +kernel
end
section
/-! the line and the program in the world -/
/-- the line at p: its characters' codes -/
def zln (E : zE) (M : zM) (p : Nat) (cs : List Nat) : Prop := ∃ f : Nat → Int32, M p = some (.inr (2, [.ref (p + 1), .int (nI cs.length)])) ∧ M (p + 1) = some (.inl (E.2.1 1, 32, .inl f)) ∧ cs.length ≤ 32 ∧ (∀ i c, cs[i]? = some c → f i = nI c) ∧ ∀ c ∈ cs, c < 128
theorem zln_oR {E : zE} {M M' : zM} {lo hi p : Nat} {cs : List Nat} (ho : zoutR M M' lo hi) (h : zln E M p cs) (hne : p + 2 ≤ lo ∨ hi ≤ p) : zln E M' p cs := by
  obtain ⟨f, h0, h1, h⟩ := h
  exact ⟨f, (ho p (by omega)).trans h0, (ho (p + 1) (by omega)).trans h1, h⟩
/-- the program at g: its steps, its target -/
def zpg (E : zE) (M : zM) (g : Nat) (ps : List (Int32 × Int32)) (t : Int32) : Prop := ∃ kf df : Nat → Int32, M g = some (.inr (4, [.ref (g + 1), .ref (g + 2), .int (nI ps.length), .int t])) ∧ M (g + 1) = some (.inl (E.2.1 0, 32, .inl kf)) ∧ M (g + 2) = some (.inl (E.2.1 0, 32, .inl df)) ∧ ps.length ≤ 32 ∧ ∀ i x, ps[i]? = some x → kf i = x.1 ∧ df i = x.2
theorem zpg_oR {E : zE} {M M' : zM} {lo hi g : Nat} {ps : List (Int32 × Int32)} {t : Int32} (ho : zoutR M M' lo hi) (h : zpg E M g ps t) (hne : g + 3 ≤ lo ∨ hi ≤ g) : zpg E M' g ps t := by
  obtain ⟨kf, df, h0, h1, h2, h⟩ := h
  exact ⟨kf, df, (ho g (by omega)).trans h0, (ho (g + 1) (by omega)).trans h1, (ho (g + 2) (by omega)).trans h2, h⟩
theorem ap_get {α : Type} {l : List α} {a x : α} {i : Nat} (h : (l ++ [a])[i]? = some x) : l[i]? = some x ∧ i < l.length ∨ i = l.length ∧ a = x := by
  rcases Nat.lt_or_ge i l.length with q | q
  · rw [List.getElem?_append_left q] at h
    exact Or.inl ⟨h, q⟩
  · rw [List.getElem?_append_right q] at h
    have hz : i - l.length < 1 := (List.getElem?_eq_some_iff.mp h).1
    rw [show i - l.length = 0 by omega] at h
    exact Or.inr ⟨by omega, Option.some.inj h⟩
end
section
set_option maxHeartbeats 4000000 in
/-- Line.add -/
theorem l_add (E : zE) (l : Launch) (sz : Nat) (M : zM) {p : Nat} {cs : List Nat} (hL : zln E M p cs) (c : Nat) (hc1 : c < 128) : zMet E l y_L_add c_L_add 2 (some .boolean) { frames := 0, cells := 0, slots := 0, locals := 0 } 0 0 [.ref p, .int (nI c)] sz M (fun v s M' => sz = s ∧ zoutR M M' p (p + 2) ∧ ((cs.length < 32 ∧ some (.int 1) = v ∧ zln E M' p (cs ++ [c])) ∨ (cs.length = 32 ∧ some (.int 0) = v ∧ M = M'))) := by
  obtain ⟨f, h0, h1, hlen, hf, hc⟩ := hL
  refine zMet.ofZ (by decide) (Nat.le_of_ble_eq_true rfl) ?_
  intro X hl hini C
  show Z X E 2 _ 0 0 sz M 0 [(0, .ref p), (1, .int (nI c))] []
  refine z_aload_n C d_L_add_0 rfl rfl ?_
  refine z_get C in_L h0 rfl 1 (by decide) fl_L_15 rfl rfl d_L_add_1 ?_
  refine z_bipush (v := nI 32) C d_L_add_4 (by decide) ?_
  refine z_icmp_lt (tgt := 11) C d_L_add_6 (by decide) (fun c6 => ?_) (fun c6 => ?_)
  · have c6 := (nI_ltI (by omega) (by decide)).mp c6
    refine z_aload_n C d_L_add_11 rfl rfl ?_
    refine z_get C in_L h0 rfl 0 (by decide) fl_L_9 rfl rfl d_L_add_12 ?_
    refine z_aload_n C d_L_add_15 rfl rfl ?_
    refine z_get C in_L h0 rfl 1 (by decide) fl_L_15 rfl rfl d_L_add_16 ?_
    refine z_iload_n C d_L_add_19 rfl rfl ?_
    refine z_cast C h1 1 rfl cs.length (rfl) (c6) (by decide) (by have := (pk_charN (q := c) (by omega)).1; unfold vp_nar; rw [this]) d_L_add_20 ?_
    refine z_aload_n C d_L_add_21 rfl rfl ?_
    refine z_dup C d_L_add_22 rfl ?_
    refine z_get C in_L ((zU_ne (by omega)).trans h0) rfl 1 (by decide) fl_L_15 rfl rfl d_L_add_23 ?_
    refine z_iconst (v := 1) C d_L_add_26 (by decide) ?_
    refine z_iadd C d_L_add_27 ?_
    refine z_top (y := nI (cs.length + 1)) (nI_1 _) ?_
    refine z_put C in_L ty_L tok_L nm_L ((zU_ne (by omega)).trans h0) rfl 1 (by decide) fl_L_15 rfl rfl rfl (rfl) (rfl) (Nat.le_of_ble_eq_true rfl) d_L_add_28 ?_
    show Z _ _ _ _ _ _ _ (zU (zU M (p + 1) (.inl (E.2.1 1, 32, .inl (upd f cs.length (nI c))))) p (.inr (2, [.ref (p + 1), .int (nI (cs.length + 1))]))) _ _ _
    refine z_iconst (v := 1) C d_L_add_31 (by decide) ?_
    refine z_zret C rfl ⟨rfl, fun q hq => (zU_ne (by omega)).trans (zU_ne (by omega)), Or.inl ⟨c6, rfl, upd f cs.length (nI c), ?_, (zU_ne (by omega)).trans zU_eq, by simp; omega, fun i x hx => ?_, fun x hx => ?_⟩⟩ d_L_add_32
    · rw [List.length_append]; exact zU_eq
    · rcases ap_get hx with ⟨q1, q2⟩ | ⟨q1, q2⟩
      · rw [upd_ne (by omega)]; exact hf i x q1
      · rw [q1, upd_eq, q2]
    · rcases List.mem_append.mp hx with q | q
      · exact hc x q
      · rw [List.mem_singleton.mp q]; exact hc1
  · have c6 : cs.length = 32 := by
      rcases Nat.lt_or_ge cs.length 32 with q | q
      · exact absurd ((nI_ltI (by omega) (by decide)).mpr q) c6
      · omega
    refine z_iconst (v := 0) C d_L_add_9 (by decide) ?_
    exact z_zret C rfl ⟨rfl, zoutR_rf, Or.inr ⟨c6, rfl, rfl⟩⟩ d_L_add_10
set_option maxHeartbeats 4000000 in
/-- Line.dropLast -/
theorem l_dropLast (E : zE) (l : Launch) (sz : Nat) (M : zM) {p : Nat} {cs : List Nat} (hL : zln E M p cs) : zMet E l y_L_dropLast c_L_dropLast 1 (some .boolean) { frames := 0, cells := 0, slots := 0, locals := 0 } 0 0 [.ref p] sz M (fun v s M' => sz = s ∧ zoutR M M' p (p + 2) ∧ ((cs = [] ∧ some (.int 0) = v ∧ M = M') ∨ (cs ≠ [] ∧ some (.int 1) = v ∧ zln E M' p cs.dropLast))) := by
  obtain ⟨f, h0, h1, hlen, hf, hc⟩ := hL
  refine zMet.ofZ (by decide) (Nat.le_of_ble_eq_true rfl) ?_
  intro X hl hini C
  show Z X E 1 _ 0 0 sz M 0 [(0, .ref p)] []
  refine z_aload_n C d_L_dropLast_0 rfl rfl ?_
  refine z_get C in_L h0 rfl 1 (by decide) fl_L_15 rfl rfl d_L_dropLast_1 ?_
  refine z_if_ne (tgt := 9) C d_L_dropLast_4 (by decide) (fun c4 => ?_) (fun c4 => ?_)
  · have c4 : cs ≠ [] := fun q => c4 (by rw [q]; decide)
    have hpos : 0 < cs.length := List.length_pos_iff.mpr c4
    refine z_aload_n C d_L_dropLast_9 rfl rfl ?_
    refine z_dup C d_L_dropLast_10 rfl ?_
    refine z_get C in_L h0 rfl 1 (by decide) fl_L_15 rfl rfl d_L_dropLast_11 ?_
    refine z_iconst (v := 1) C d_L_dropLast_14 (by decide) ?_
    refine z_isub C d_L_dropLast_15 ?_
    refine z_top (y := nI (cs.length - 1)) (pk_sub (a := cs.length) (b := 1) (by omega)) ?_
    refine z_put C in_L ty_L tok_L nm_L h0 rfl 1 (by decide) fl_L_15 rfl rfl rfl (rfl) (rfl) (Nat.le_of_ble_eq_true rfl) d_L_dropLast_16 ?_
    show Z _ _ _ _ _ _ _ (zU M p (.inr (2, [.ref (p + 1), .int (nI (cs.length - 1))]))) _ _ _
    refine z_iconst (v := 1) C d_L_dropLast_19 (by decide) ?_
    refine z_zret C rfl ⟨rfl, fun q hq => zU_ne (by omega), Or.inr ⟨c4, rfl, f, ?_, (zU_ne (by omega)).trans h1, by simp; omega, fun i x hx => ?_, fun x hx => hc x (List.dropLast_subset cs hx)⟩⟩ d_L_dropLast_20
    · rw [List.length_dropLast]; exact zU_eq
    · rw [List.getElem?_dropLast] at hx
      split at hx
      · exact hf i x hx
      · cases hx
  · have c4 : cs = [] := by
      rcases Nat.eq_zero_or_pos cs.length with q | q
      · exact List.eq_nil_of_length_eq_zero q
      · exact absurd c4 (nI_ne0 q (by omega))
    refine z_iconst (v := 0) C d_L_dropLast_7 (by decide) ?_
    exact z_zret C rfl ⟨rfl, zoutR_rf, Or.inl ⟨c4, rfl, rfl⟩⟩ d_L_dropLast_8
set_option maxHeartbeats 4000000 in
/-- Line.clear -/
theorem l_clear (E : zE) (l : Launch) (sz : Nat) (M : zM) {p : Nat} {cs : List Nat} (hL : zln E M p cs) : zMet E l y_L_clear c_L_clear 1 none { frames := 0, cells := 0, slots := 0, locals := 0 } 0 0 [.ref p] sz M (fun v s M' => none = v ∧ sz = s ∧ zoutR M M' p (p + 2) ∧ zln E M' p []) := by
  obtain ⟨f, h0, h1, hlen, hf, hc⟩ := hL
  refine zMet.ofZ (by decide) (Nat.le_of_ble_eq_true rfl) ?_
  intro X hl hini C
  show Z X E 1 _ 0 0 sz M 0 [(0, .ref p)] []
  refine z_aload_n C d_L_clear_0 rfl rfl ?_
  refine z_iconst (v := nI 0) C d_L_clear_1 (by decide) ?_
  refine z_put C in_L ty_L tok_L nm_L h0 rfl 1 (by decide) fl_L_15 rfl rfl rfl (rfl) (rfl) (Nat.le_of_ble_eq_true rfl) d_L_clear_2 ?_
  show Z _ _ _ _ _ _ _ (zU M p (.inr (2, [.ref (p + 1), .int (nI 0)]))) _ _ _
  exact z_vret C ⟨rfl, rfl, fun q hq => zU_ne (by omega), f, zU_eq, (zU_ne (by omega)).trans h1, by simp, fun i x hx => by simp at hx, fun x hx => by simp at hx⟩ d_L_clear_5
set_option maxHeartbeats 4000000 in
/-- Line.at -/
theorem l_at (E : zE) (l : Launch) (sz : Nat) (M : zM) {p : Nat} {cs : List Nat} (hL : zln E M p cs) (i : Nat) (hi : i < 2 ^ 20) : zMet E l y_L_at c_L_at 2 (some .char) { frames := 0, cells := 0, slots := 0, locals := 0 } 0 0 [.ref p, .int (nI i)] sz M (zRet (some (.int (nI (cs.getD i 0)))) sz M) := by
  obtain ⟨f, h0, h1, hlen, hf, hc⟩ := hL
  refine zMet.ofZ (by decide) (Nat.le_of_ble_eq_true rfl) ?_
  intro X hl hini C
  show Z X E 2 _ 0 0 sz M 0 [(0, .ref p), (1, .int (nI i))] []
  refine z_iload_n C d_L_at_0 rfl rfl ?_
  refine z_if_lt (tgt := 21) C d_L_at_1 (by decide) (fun c_1 => absurd c_1 (nI_pos (by omega))) (fun _ => ?_)
  refine z_iload_n C d_L_at_4 rfl rfl ?_
  refine z_aload_n C d_L_at_5 rfl rfl ?_
  refine z_get C in_L h0 rfl 1 (by decide) fl_L_15 rfl rfl d_L_at_6 ?_
  refine z_icmp_ge (tgt := 21) C d_L_at_9 (by decide) (fun c9 => ?_) (fun c9 => ?_)
  · have c9 := (nI_leI (by omega) (by omega)).mp c9
    have e : cs.getD i 0 = 0 := by
      rw [List.getD_eq_getElem?_getD, List.getElem?_eq_none c9]; rfl
    refine z_iconst (v := 0) C d_L_at_21 (by decide) ?_
    exact z_zret C rfl ⟨by rw [e]; rfl, rfl, rfl⟩ d_L_at_22
  · have c9 : i < cs.length := Nat.not_le.mp (fun q => c9 ((nI_leI (by omega) (by omega)).mpr q))
    have hx : cs[i]? = some (cs.getD i 0) := by
      rw [List.getD_eq_getElem?_getD, List.getElem?_eq_getElem c9]; rfl
    have hl9 := hc _ (List.mem_of_getElem? hx)
    refine z_aload_n C d_L_at_12 rfl rfl ?_
    refine z_get C in_L h0 rfl 0 (by decide) fl_L_9 rfl rfl d_L_at_13 ?_
    refine z_iload_n C d_L_at_16 rfl rfl ?_
    refine z_cald C h1 1 rfl i (rfl) (by omega) (by decide) d_L_at_17 ?_
    refine z_top (y := nI (cs.getD i 0)) (hf i _ hx) ?_
    refine z_goto (tgt := 22) C d_L_at_18 (by decide) ?_
    exact z_zret C (pk_charN (by omega)).1 ⟨rfl, rfl, rfl⟩ d_L_at_22
set_option maxHeartbeats 4000000 in
/-- Program.clear -/
theorem g_clear (E : zE) (l : Launch) (sz : Nat) (M : zM) {g : Nat} {ps : List (Int32 × Int32)} {t : Int32} (hG : zpg E M g ps t) : zMet E l y_G_clear c_G_clear 1 none { frames := 0, cells := 0, slots := 0, locals := 0 } 0 0 [.ref g] sz M (fun v s M' => none = v ∧ sz = s ∧ zoutR M M' g (g + 3) ∧ zpg E M' g [] (-1)) := by
  obtain ⟨kf, df, h0, h1, h2, hlen, hf⟩ := hG
  refine zMet.ofZ (by decide) (Nat.le_of_ble_eq_true rfl) ?_
  intro X hl hini C
  show Z X E 1 _ 0 0 sz M 0 [(0, .ref g)] []
  refine z_aload_n C d_G_clear_0 rfl rfl ?_
  refine z_iconst (v := nI 0) C d_G_clear_1 (by decide) ?_
  refine z_put C in_G ty_G tok_G nm_G h0 rfl 2 (by decide) fl_G_18 rfl rfl rfl (rfl) (rfl) (Nat.le_of_ble_eq_true rfl) d_G_clear_2 ?_
  show Z _ _ _ _ _ _ _ (zU M g (.inr (4, [.ref (g + 1), .ref (g + 2), .int (nI 0), .int t]))) _ _ _
  refine z_aload_n C d_G_clear_5 rfl rfl ?_
  refine z_iconst (v := (-1)) C d_G_clear_6 (by decide) ?_
  refine z_put C in_G ty_G tok_G nm_G zU_eq rfl 3 (by decide) fl_G_22 rfl rfl rfl (rfl) (rfl) (Nat.le_of_ble_eq_true rfl) d_G_clear_7 ?_
  show Z _ _ _ _ _ _ _ (zU (zU M g (.inr (4, [.ref (g + 1), .ref (g + 2), .int (nI 0), .int t]))) g (.inr (4, [.ref (g + 1), .ref (g + 2), .int (nI 0), .int (-1)]))) _ _ _
  refine z_world zU_uu ?_
  exact z_vret C ⟨rfl, rfl, fun q hq => zU_ne (by omega), kf, df, zU_eq, (zU_ne (by omega)).trans h1, (zU_ne (by omega)).trans h2, by simp, fun i x hx => by simp at hx⟩ d_G_clear_10
set_option maxHeartbeats 4000000 in
/-- Program.add -/
theorem g_add (E : zE) (l : Launch) (sz : Nat) (M : zM) {g : Nat} {ps : List (Int32 × Int32)} {t : Int32} (hG : zpg E M g ps t) (x y : Int32) (hl : ps.length < 32) : zMet E l y_G_add c_G_add 3 none { frames := 0, cells := 0, slots := 0, locals := 0 } 0 0 [.ref g, .int x, .int y] sz M (fun v s M' => none = v ∧ sz = s ∧ zoutR M M' g (g + 3) ∧ zpg E M' g (ps ++ [(x, y)]) t) := by
  obtain ⟨kf, df, h0, h1, h2, hlen, hf⟩ := hG
  refine zMet.ofZ (by decide) (Nat.le_of_ble_eq_true rfl) ?_
  intro X hl hini C
  show Z X E 3 _ 0 0 sz M 0 [(0, .ref g), (1, .int x), (2, .int y)] []
  refine z_aload_n C d_G_add_0 rfl rfl ?_
  refine z_get C in_G h0 rfl 2 (by decide) fl_G_18 rfl rfl d_G_add_1 ?_
  refine z_bipush (v := nI 32) C d_G_add_4 (by decide) ?_
  refine z_icmp_ge (tgt := 39) C d_G_add_6 (by decide) (fun c_6 => absurd c_6 (fun q => absurd ((nI_leI (by decide) (by omega)).mp q) (by omega))) (fun _ => ?_)
  refine z_aload_n C d_G_add_9 rfl rfl ?_
  refine z_get C in_G h0 rfl 0 (by decide) fl_G_9 rfl rfl d_G_add_10 ?_
  refine z_aload_n C d_G_add_13 rfl rfl ?_
  refine z_get C in_G h0 rfl 2 (by decide) fl_G_18 rfl rfl d_G_add_14 ?_
  refine z_iload_n C d_G_add_17 rfl rfl ?_
  refine z_iast C h1 0 rfl ps.length (rfl) (by omega) (by decide) d_G_add_18 ?_
  refine z_aload_n C d_G_add_19 rfl rfl ?_
  refine z_get C in_G ((zU_ne (by omega)).trans h0) rfl 1 (by decide) fl_G_15 rfl rfl d_G_add_20 ?_
  refine z_aload_n C d_G_add_23 rfl rfl ?_
  refine z_get C in_G ((zU_ne (by omega)).trans h0) rfl 2 (by decide) fl_G_18 rfl rfl d_G_add_24 ?_
  refine z_iload_n C d_G_add_27 rfl rfl ?_
  refine z_iast C ((zU_ne (by omega)).trans h2) 0 rfl ps.length (rfl) (by omega) (by decide) d_G_add_28 ?_
  refine z_aload_n C d_G_add_29 rfl rfl ?_
  refine z_dup C d_G_add_30 rfl ?_
  refine z_get C in_G ((zU_ne (by omega)).trans ((zU_ne (by omega)).trans h0)) rfl 2 (by decide) fl_G_18 rfl rfl d_G_add_31 ?_
  refine z_iconst (v := 1) C d_G_add_34 (by decide) ?_
  refine z_iadd C d_G_add_35 ?_
  refine z_top (y := nI (ps.length + 1)) (nI_1 _) ?_
  refine z_put C in_G ty_G tok_G nm_G ((zU_ne (by omega)).trans ((zU_ne (by omega)).trans h0)) rfl 2 (by decide) fl_G_18 rfl rfl rfl (rfl) (rfl) (Nat.le_of_ble_eq_true rfl) d_G_add_36 ?_
  show Z _ _ _ _ _ _ _ (zU (zU (zU M (g + 1) (.inl (E.2.1 0, 32, .inl (upd kf ps.length x)))) (g + 2) (.inl (E.2.1 0, 32, .inl (upd df ps.length y)))) g (.inr (4, [.ref (g + 1), .ref (g + 2), .int (nI (ps.length + 1)), .int t]))) _ _ _
  refine z_vret C ⟨rfl, rfl, fun q hq => (zU_ne (by omega)).trans ((zU_ne (by omega)).trans (zU_ne (by omega))), upd kf ps.length x, upd df ps.length y, ?_, (zU_ne (by omega)).trans ((zU_ne (by omega)).trans zU_eq), (zU_ne (by omega)).trans zU_eq, by simp; omega, fun i z hz => ?_⟩ d_G_add_39
  · rw [List.length_append]; exact zU_eq
  · rcases ap_get hz with ⟨q1, q2⟩ | ⟨q1, q2⟩
    · rw [upd_ne (by omega), upd_ne (by omega)]; exact hf i z q1
    · rw [q1, upd_eq, upd_eq, ← q2]; exact ⟨rfl, rfl⟩
set_option maxHeartbeats 4000000 in
/-- Program.loads -/
theorem g_loads (E : zE) (l : Launch) (sz : Nat) (M : zM) (n : Nat) (hn : n < 100) : zMet E l y_G_loads c_G_loads 1 (some .boolean) { frames := 0, cells := 0, slots := 0, locals := 0 } 0 0 [.int (nI n)] sz M (zRet (some (.int (if n ≤ 4 then 1 else 0))) sz M) := by
  refine zMet.ofZ (by decide) (Nat.le_of_ble_eq_true rfl) ?_
  intro X hl hini C
  show Z X E 1 _ 0 0 sz M 0 [(0, .int (nI n))] []
  refine z_iload_n C d_G_loads_0 rfl rfl ?_
  refine z_iconst (v := nI 4) C d_G_loads_1 (by decide) ?_
  refine z_icmp_gt (tgt := 9) C d_G_loads_2 (by decide) (fun c2 => ?_) (fun c2 => ?_)
  · have c2 := (nI_ltI (by decide) (by omega)).mp c2
    refine z_iconst (v := 0) C d_G_loads_9 (by decide) ?_
    exact z_zret C rfl ⟨by rw [if_neg (by omega)], rfl, rfl⟩ d_G_loads_10
  · have c2 : n ≤ 4 := Nat.not_lt.mp (fun q => c2 ((nI_ltI (by decide) (by omega)).mpr q))
    refine z_iconst (v := 1) C d_G_loads_5 (by decide) ?_
    refine z_goto (tgt := 10) C d_G_loads_6 (by decide) ?_
    exact z_zret C rfl ⟨by rw [if_pos c2], rfl, rfl⟩ d_G_loads_10
set_option maxHeartbeats 4000000 in
/-- Program.hasTwoSides -/
theorem g_two (E : zE) (l : Launch) (sz : Nat) (M : zM) (n : Nat) (hn : n < 100) : zMet E l y_G_hasTwoSides c_G_hasTwoSides 1 (some .boolean) { frames := 0, cells := 0, slots := 0, locals := 0 } 0 0 [.int (nI n)] sz M (zRet (some (.int (if 8 ≤ n then 1 else 0))) sz M) := by
  refine zMet.ofZ (by decide) (Nat.le_of_ble_eq_true rfl) ?_
  intro X hl hini C
  show Z X E 1 _ 0 0 sz M 0 [(0, .int (nI n))] []
  refine z_iload_n C d_G_hasTwoSides_0 rfl rfl ?_
  refine z_bipush (v := nI 8) C d_G_hasTwoSides_1 (by decide) ?_
  refine z_icmp_lt (tgt := 10) C d_G_hasTwoSides_3 (by decide) (fun c3 => ?_) (fun c3 => ?_)
  · have c3 := (nI_ltI (by omega) (by decide)).mp c3
    refine z_iconst (v := 0) C d_G_hasTwoSides_10 (by decide) ?_
    exact z_zret C rfl ⟨by rw [if_neg (by omega)], rfl, rfl⟩ d_G_hasTwoSides_11
  · have c3 : 8 ≤ n := Nat.not_lt.mp (fun q => c3 ((nI_ltI (by omega) (by decide)).mpr q))
    refine z_iconst (v := 1) C d_G_hasTwoSides_6 (by decide) ?_
    refine z_goto (tgt := 11) C d_G_hasTwoSides_7 (by decide) ?_
    exact z_zret C rfl ⟨by rw [if_pos c3], rfl, rfl⟩ d_G_hasTwoSides_11
end
section
/-! the shelf in the world: the labels' FORMs, their shape numbers, the names -/
def zsf (E : zE) (M : zM) (h : Nat) (fs : List (PS × PS)) (ss : List Nat) (nb : Nat → Nat) (sc : Nat) : Prop :=
  ∃ (ff : Nat → Option Nat) (sf nf : Nat → Int32), M h = some (.inr (6, [.ref (h + 1), .ref (h + 2), .ref (h + 3), .int (nI fs.length), .int (nI sc)])) ∧ M (h + 1) = some (.inl (E.2.1 3, 40, .inr (.inr (.inr (.inr ff))))) ∧ M (h + 2) = some (.inl (E.2.1 0, 40, .inl sf)) ∧ M (h + 3) = some (.inl (E.2.1 0, 3, .inl nf)) ∧
    (fs.length ≤ 40 ∧ ss.length = fs.length ∧ sc ≤ fs.length) ∧ (∀ i, i < 40 → ff i = some (h + 4 + 5 * i)) ∧ (∀ (i : Nat) s, ss[i]? = some s → sf i = nI s ∧ s ≤ sc) ∧ (∀ i, i < 3 → nf i = nI (nb i) ∧ nb i ≤ fs.length) ∧ (∀ (i : Nat) x, fs[i]? = some x → ∃ kn kd, zf E M (h + 4 + 5 * i) kn kd x.1 x.2) ∧ ∀ i, i < 40 → ∃ kn kd N D, zf E M (h + 4 + 5 * i) kn kd N D
theorem zsf_oR {E : zE} {M M' : zM} {lo hi h : Nat} {fs : List (PS × PS)} {ss : List Nat} {nb : Nat → Nat} {sc : Nat} (ho : zoutR M M' lo hi) (H : zsf E M h fs ss nb sc) (hne : h + 204 ≤ lo ∨ hi ≤ h) : zsf E M' h fs ss nb sc := by
  obtain ⟨ff, sf, nf, h0, h1, h2, h3, hl, hff, hsf, hnf, hfm, hal⟩ := H
  refine ⟨ff, sf, nf, (ho h (by omega)).trans h0, (ho (h + 1) (by omega)).trans h1, (ho (h + 2) (by omega)).trans h2, (ho (h + 3) (by omega)).trans h3, hl, hff, hsf, hnf, fun i x hx => ?_, fun i hi => ?_⟩
  · obtain ⟨kn, kd, hz⟩ := hfm i x hx
    have := (List.getElem?_eq_some_iff.mp hx).1
    exact ⟨kn, kd, zf_oR ho hz (by omega)⟩
  · obtain ⟨kn, kd, N, D, hz⟩ := hal i hi
    exact ⟨kn, kd, N, D, zf_oR ho hz (by omega)⟩
/-- which label's FORM it is, and the shape number that it has -/
def shN (fs : List (PS × PS)) (ss : List Nat) (sc : Nat) (x : PS × PS) (v sc' : Nat) : Prop := (∃ i : Nat, fs[i]? = some x ∧ (∀ j : Nat, j < i → fs[j]? ≠ some x) ∧ ss[i]? = some v ∧ sc' = sc) ∨ ((∀ j : Nat, fs[j]? ≠ some x) ∧ v = sc + 1 ∧ sc' = sc + 1)
end
section
set_option maxHeartbeats 4000000 in
/-- Shelf.isFull -/
theorem h_isFull (E : zE) (l : Launch) (sz : Nat) (M : zM) {h : Nat} {fs : List (PS × PS)} {ss : List Nat} {nb : Nat → Nat} {sc : Nat} (H : zsf E M h fs ss nb sc) : zMet E l y_H_isFull c_H_isFull 1 (some .boolean) { frames := 0, cells := 0, slots := 0, locals := 0 } 0 0 [.ref h] sz M (zRet (some (.int (if fs.length = 40 then 1 else 0))) sz M) := by
  obtain ⟨ff, sf, nf, h0, h1, h2, h3, ⟨hl1, hl2, hl3⟩, hff, hsf, hnf, hfm, hal⟩ := id H
  refine zMet.ofZ (by decide) (Nat.le_of_ble_eq_true rfl) ?_
  intro X hl hini C
  show Z X E 1 _ 0 0 sz M 0 [(0, .ref h)] []
  refine z_aload_n C d_H_isFull_0 rfl rfl ?_
  refine z_get C in_H h0 rfl 3 (by decide) fl_H_24 rfl rfl d_H_isFull_1 ?_
  refine z_bipush (v := nI 40) C d_H_isFull_4 (by decide) ?_
  refine z_icmp_lt (tgt := 13) C d_H_isFull_6 (by decide) (fun c6 => ?_) (fun c6 => ?_)
  · have c6 := (nI_ltI (by omega) (by decide)).mp c6
    refine z_iconst (v := 0) C d_H_isFull_13 (by decide) ?_
    exact z_zret C rfl ⟨by rw [if_neg (by omega)], rfl, rfl⟩ d_H_isFull_14
  · have c6 : fs.length = 40 := by
      rcases Nat.lt_or_ge fs.length 40 with q | q
      · exact absurd ((nI_ltI (by omega) (by decide)).mpr q) c6
      · omega
    refine z_iconst (v := 1) C d_H_isFull_9 (by decide) ?_
    refine z_goto (tgt := 14) C d_H_isFull_10 (by decide) ?_
    exact z_zret C rfl ⟨by rw [if_pos c6], rfl, rfl⟩ d_H_isFull_14
set_option maxHeartbeats 4000000 in
/-- Shelf.find -/
theorem h_find (E : zE) (l : Launch) (sz : Nat) (M : zM) {h : Nat} {fs : List (PS × PS)} {ss : List Nat} {nb : Nat → Nat} {sc : Nat} (H : zsf E M h fs ss nb sc) (x : Int32) : zMet E l y_H_find c_H_find 2 (some (FieldType.object "RationalSession$Form")) { frames := 0, cells := 0, slots := 0, locals := 0 } 0 0 [.ref h, .int x] sz M (fun v s M' => sz = s ∧ M = M' ∧ ((∃ i : Nat, i < fs.length ∧ x = nI (i + 1) ∧ some (.ref (h + 4 + 5 * i)) = v) ∨ ((¬ ∃ i : Nat, i < fs.length ∧ x = nI (i + 1)) ∧ some .null = v))) := by
  obtain ⟨ff, sf, nf, h0, h1, h2, h3, ⟨hl1, hl2, hl3⟩, hff, hsf, hnf, hfm, hal⟩ := id H
  refine zMet.ofZ (by decide) (Nat.le_of_ble_eq_true rfl) ?_
  intro X hl hini C
  show Z X E 2 _ 0 0 sz M 0 [(0, .ref h), (1, .int x)] []
  refine z_iload_n C d_H_find_0 rfl rfl ?_
  refine z_iconst (v := nI 1) C d_H_find_1 (by decide) ?_
  refine z_icmp_lt (tgt := 24) C d_H_find_2 (by decide) (fun c2 => ?_) (fun c2 => ?_)
  · have no : ¬ ∃ i, i < fs.length ∧ x = nI (i + 1) := by
      rintro ⟨i, hi, rfl⟩
      exact absurd ((nI_ltI (by omega) (by decide)).mp c2) (by omega)
    refine z_null C d_H_find_24 ?_
    exact z_aret C (Or.inl ⟨_, rfl⟩) (Or.inl rfl) ⟨rfl, rfl, Or.inr ⟨no, rfl⟩⟩ d_H_find_25
  · have g1 : nI 1 ≤ x := Int32.not_lt.mp c2
    refine z_iload_n C d_H_find_5 rfl rfl ?_
    refine z_aload_n C d_H_find_6 rfl rfl ?_
    refine z_get C in_H h0 rfl 3 (by decide) fl_H_24 rfl rfl d_H_find_7 ?_
    refine z_icmp_gt (tgt := 24) C d_H_find_10 (by decide) (fun c10 => ?_) (fun c10 => ?_)
    · have no : ¬ ∃ i, i < fs.length ∧ x = nI (i + 1) := by
        rintro ⟨i, hi, rfl⟩
        exact absurd ((nI_ltI (by omega) (by omega)).mp c10) (by omega)
      refine z_null C d_H_find_24 ?_
      exact z_aret C (Or.inl ⟨_, rfl⟩) (Or.inl rfl) ⟨rfl, rfl, Or.inr ⟨no, rfl⟩⟩ d_H_find_25
    · have g2 : x ≤ nI fs.length := Int32.not_lt.mp c10
      obtain ⟨i, hi, rfl⟩ : ∃ i, i < fs.length ∧ x = nI (i + 1) := by
        obtain ⟨j, hj, e9⟩ := nI_of (x := x) (by
          intro q
          exact absurd (Int32.lt_of_le_of_lt g1 q) (by decide))
        rw [e9] at g1 g2
        have g1 := (nI_leI (by decide) hj).mp g1
        have g2 := (nI_leI hj (by omega)).mp g2
        exact ⟨j - 1, by omega, by rw [e9]; congr 1; omega⟩
      refine z_aload_n C d_H_find_13 rfl rfl ?_
      refine z_get C in_H h0 rfl 0 (by decide) fl_H_11 rfl rfl d_H_find_14 ?_
      refine z_iload_n C d_H_find_17 rfl rfl ?_
      refine z_iconst (v := nI 1) C d_H_find_18 (by decide) ?_
      refine z_isub C d_H_find_19 ?_
      refine z_top (y := nI i) (pk_sub (a := i + 1) (b := 1) (by omega)) ?_
      refine z_aald C h1 3 rfl i (rfl) (by omega) (by decide) (congrArg va_rf (hff i (by omega))) d_H_find_20 ?_
      refine z_goto (tgt := 25) C d_H_find_21 (by decide) ?_
      exact z_aret C (Or.inl ⟨_, rfl⟩) (Or.inr ⟨_, rfl⟩) ⟨rfl, rfl, Or.inl ⟨i, hi, rfl, rfl⟩⟩ d_H_find_25
set_option maxHeartbeats 4000000 in
/-- Shelf.shapeOf -/
theorem h_shapeOf (E : zE) (l : Launch) (sz : Nat) (M : zM) {h : Nat} {fs : List (PS × PS)} {ss : List Nat} {nb : Nat → Nat} {sc : Nat} (H : zsf E M h fs ss nb sc) (x : Int32) : zMet E l y_H_shapeOf c_H_shapeOf 2 (some .int) { frames := 0, cells := 0, slots := 0, locals := 0 } 0 0 [.ref h, .int x] sz M (fun v s M' => sz = s ∧ M = M' ∧ ((∃ i : Nat, i < fs.length ∧ x = nI (i + 1) ∧ some (.int (nI (ss.getD i 0))) = v) ∨ ((¬ ∃ i : Nat, i < fs.length ∧ x = nI (i + 1)) ∧ some (.int 0) = v))) := by
  obtain ⟨ff, sf, nf, h0, h1, h2, h3, ⟨hl1, hl2, hl3⟩, hff, hsf, hnf, hfm, hal⟩ := id H
  refine zMet.ofZ (by decide) (Nat.le_of_ble_eq_true rfl) ?_
  intro X hl hini C
  show Z X E 2 _ 0 0 sz M 0 [(0, .ref h), (1, .int x)] []
  refine z_iload_n C d_H_shapeOf_0 rfl rfl ?_
  refine z_iconst (v := nI 1) C d_H_shapeOf_1 (by decide) ?_
  refine z_icmp_lt (tgt := 24) C d_H_shapeOf_2 (by decide) (fun c2 => ?_) (fun c2 => ?_)
  · have no : ¬ ∃ i, i < fs.length ∧ x = nI (i + 1) := by
      rintro ⟨i, hi, rfl⟩
      exact absurd ((nI_ltI (by omega) (by decide)).mp c2) (by omega)
    refine z_iconst (v := 0) C d_H_shapeOf_24 (by decide) ?_
    exact z_iret C ⟨rfl, rfl, Or.inr ⟨no, rfl⟩⟩ d_H_shapeOf_25
  · have g1 : nI 1 ≤ x := Int32.not_lt.mp c2
    refine z_iload_n C d_H_shapeOf_5 rfl rfl ?_
    refine z_aload_n C d_H_shapeOf_6 rfl rfl ?_
    refine z_get C in_H h0 rfl 3 (by decide) fl_H_24 rfl rfl d_H_shapeOf_7 ?_
    refine z_icmp_gt (tgt := 24) C d_H_shapeOf_10 (by decide) (fun c10 => ?_) (fun c10 => ?_)
    · have no : ¬ ∃ i, i < fs.length ∧ x = nI (i + 1) := by
        rintro ⟨i, hi, rfl⟩
        exact absurd ((nI_ltI (by omega) (by omega)).mp c10) (by omega)
      refine z_iconst (v := 0) C d_H_shapeOf_24 (by decide) ?_
      exact z_iret C ⟨rfl, rfl, Or.inr ⟨no, rfl⟩⟩ d_H_shapeOf_25
    · have g2 : x ≤ nI fs.length := Int32.not_lt.mp c10
      obtain ⟨i, hi, rfl⟩ : ∃ i, i < fs.length ∧ x = nI (i + 1) := by
        obtain ⟨j, hj, e9⟩ := nI_of (x := x) (by
          intro q
          exact absurd (Int32.lt_of_le_of_lt g1 q) (by decide))
        rw [e9] at g1 g2
        have g1 := (nI_leI (by decide) hj).mp g1
        have g2 := (nI_leI hj (by omega)).mp g2
        exact ⟨j - 1, by omega, by rw [e9]; congr 1; omega⟩
      refine z_aload_n C d_H_shapeOf_13 rfl rfl ?_
      refine z_get C in_H h0 rfl 1 (by decide) fl_H_17 rfl rfl d_H_shapeOf_14 ?_
      refine z_iload_n C d_H_shapeOf_17 rfl rfl ?_
      refine z_iconst (v := nI 1) C d_H_shapeOf_18 (by decide) ?_
      refine z_isub C d_H_shapeOf_19 ?_
      refine z_top (y := nI i) (pk_sub (a := i + 1) (b := 1) (by omega)) ?_
      have hx : ss[i]? = some (ss.getD i 0) := by
        rw [List.getD_eq_getElem?_getD, List.getElem?_eq_getElem (by omega)]; rfl
      refine z_iald C h2 0 rfl i (rfl) (by omega) (by decide) d_H_shapeOf_20 ?_
      refine z_top (y := nI (ss.getD i 0)) ((hsf i _ hx).1) ?_
      refine z_goto (tgt := 25) C d_H_shapeOf_21 (by decide) ?_
      exact z_iret C ⟨rfl, rfl, Or.inl ⟨i, hi, rfl, rfl⟩⟩ d_H_shapeOf_25
set_option maxHeartbeats 4000000 in
/-- Shelf.labelBoundTo -/
theorem h_boundTo (E : zE) (l : Launch) (sz : Nat) (M : zM) {h : Nat} {fs : List (PS × PS)} {ss : List Nat} {nb : Nat → Nat} {sc : Nat} (H : zsf E M h fs ss nb sc) (i : Nat) (hi : i < 3) : zMet E l y_H_labelBoundTo c_H_labelBoundTo 2 (some .int) { frames := 0, cells := 0, slots := 0, locals := 0 } 0 0 [.ref h, .int (nI i)] sz M (zRet (some (.int (nI (nb i)))) sz M) := by
  obtain ⟨ff, sf, nf, h0, h1, h2, h3, ⟨hl1, hl2, hl3⟩, hff, hsf, hnf, hfm, hal⟩ := id H
  refine zMet.ofZ (by decide) (Nat.le_of_ble_eq_true rfl) ?_
  intro X hl hini C
  show Z X E 2 _ 0 0 sz M 0 [(0, .ref h), (1, .int (nI i))] []
  refine z_iload_n C d_H_labelBoundTo_0 rfl rfl ?_
  refine z_if_lt (tgt := 18) C d_H_labelBoundTo_1 (by decide) (fun c_1 => absurd c_1 (nI_pos (by omega))) (fun _ => ?_)
  refine z_iload_n C d_H_labelBoundTo_4 rfl rfl ?_
  refine z_iconst (v := nI 3) C d_H_labelBoundTo_5 (by decide) ?_
  refine z_icmp_ge (tgt := 18) C d_H_labelBoundTo_6 (by decide) (fun c_6 => absurd c_6 (fun q => absurd ((nI_leI (by decide) (by omega)).mp q) (by omega))) (fun _ => ?_)
  refine z_aload_n C d_H_labelBoundTo_9 rfl rfl ?_
  refine z_get C in_H h0 rfl 2 (by decide) fl_H_21 rfl rfl d_H_labelBoundTo_10 ?_
  refine z_iload_n C d_H_labelBoundTo_13 rfl rfl ?_
  refine z_iald C h3 0 rfl i (rfl) (hi) (by decide) d_H_labelBoundTo_14 ?_
  refine z_top (y := nI (nb i)) ((hnf i hi).1) ?_
  refine z_goto (tgt := 19) C d_H_labelBoundTo_15 (by decide) ?_
  exact z_iret C ⟨rfl, rfl, rfl⟩ d_H_labelBoundTo_19
set_option maxHeartbeats 4000000 in
/-- Shelf.bind -/
theorem h_bind (E : zE) (l : Launch) (sz : Nat) (M : zM) {h : Nat} {fs : List (PS × PS)} {ss : List Nat} {nb : Nat → Nat} {sc : Nat} (H : zsf E M h fs ss nb sc) (i l1 : Nat) (hi : i < 3) (hb1 : l1 ≤ fs.length) : zMet E l y_H_bind c_H_bind 3 none { frames := 0, cells := 0, slots := 0, locals := 0 } 0 0 [.ref h, .int (nI i), .int (nI l1)] sz M (fun v s M' => none = v ∧ sz = s ∧ zoutR M M' h (h + 4) ∧ zsf E M' h fs ss (fun j => if j = i then l1 else nb j) sc) := by
  obtain ⟨ff, sf, nf, h0, h1, h2, h3, ⟨hl1, hl2, hl3⟩, hff, hsf, hnf, hfm, hal⟩ := id H
  refine zMet.ofZ (by decide) (Nat.le_of_ble_eq_true rfl) ?_
  intro X hl hini C
  show Z X E 3 _ 0 0 sz M 0 [(0, .ref h), (1, .int (nI i)), (2, .int (nI l1))] []
  refine z_iload_n C d_H_bind_0 rfl rfl ?_
  refine z_if_lt (tgt := 16) C d_H_bind_1 (by decide) (fun c_1 => absurd c_1 (nI_pos (by omega))) (fun _ => ?_)
  refine z_iload_n C d_H_bind_4 rfl rfl ?_
  refine z_iconst (v := nI 3) C d_H_bind_5 (by decide) ?_
  refine z_icmp_ge (tgt := 16) C d_H_bind_6 (by decide) (fun c_6 => absurd c_6 (fun q => absurd ((nI_leI (by decide) (by omega)).mp q) (by omega))) (fun _ => ?_)
  refine z_aload_n C d_H_bind_9 rfl rfl ?_
  refine z_get C in_H h0 rfl 2 (by decide) fl_H_21 rfl rfl d_H_bind_10 ?_
  refine z_iload_n C d_H_bind_13 rfl rfl ?_
  refine z_iload_n C d_H_bind_14 rfl rfl ?_
  refine z_iast C h3 0 rfl i (rfl) (hi) (by decide) d_H_bind_15 ?_
  have ho : zoutR M (zU M (h + 3) (.inl (E.2.1 0, 3, .inl (upd nf i (nI l1))))) h (h + 4) := fun q hq => zU_ne (by omega)
  refine z_vret C ⟨rfl, rfl, ho, ff, sf, upd nf i (nI l1), (zU_ne (by omega)).trans h0, (zU_ne (by omega)).trans h1, (zU_ne (by omega)).trans h2, zU_eq, ⟨hl1, hl2, hl3⟩, hff, hsf, fun j hj => ?_, fun j x hx => ?_, fun j hj => ?_⟩ d_H_bind_16
  · dsimp only
    by_cases q : j = i
    · rw [q, upd_eq, if_pos rfl]; exact ⟨rfl, hb1⟩
    · rw [upd_ne q, if_neg q]; exact hnf j hj
  · obtain ⟨a1, a2, a3⟩ := hfm j x hx
    exact ⟨a1, a2, zf_oR ho a3 (by omega)⟩
  · obtain ⟨a1, a2, a3, a4, a5⟩ := hal j hj
    exact ⟨a1, a2, a3, a4, zf_oR ho a5 (by omega)⟩
set_option maxHeartbeats 4000000 in
/-- Shelf.bind without a name -/
theorem h_bindNo (E : zE) (l : Launch) (sz : Nat) (M : zM) {h : Nat} {fs : List (PS × PS)} {ss : List Nat} {nb : Nat → Nat} {sc : Nat} (H : zsf E M h fs ss nb sc) (x l1 : Int32) (hx : x < 0) : zMet E l y_H_bind c_H_bind 3 none { frames := 0, cells := 0, slots := 0, locals := 0 } 0 0 [.ref h, .int x, .int l1] sz M (zRet none sz M) := by
  obtain ⟨ff, sf, nf, h0, h1, h2, h3, ⟨hl1, hl2, hl3⟩, hff, hsf, hnf, hfm, hal⟩ := id H
  refine zMet.ofZ (by decide) (Nat.le_of_ble_eq_true rfl) ?_
  intro X hl hini C
  show Z X E 3 _ 0 0 sz M 0 [(0, .ref h), (1, .int x), (2, .int l1)] []
  refine z_iload_n C d_H_bind_0 rfl rfl ?_
  refine z_if_lt (tgt := 16) C d_H_bind_1 (by decide) (fun _ => ?_) (fun c_1 => absurd (hx) c_1)
  exact z_vret C ⟨rfl, rfl, rfl⟩ d_H_bind_16
set_option maxHeartbeats 4000000 in
/-- Shelf.clear -/
theorem h_clear (E : zE) (l : Launch) (sz : Nat) (M : zM) {h : Nat} {fs : List (PS × PS)} {ss : List Nat} {nb : Nat → Nat} {sc : Nat} (H : zsf E M h fs ss nb sc) : zMet E l y_H_clear c_H_clear 2 none { frames := 0, cells := 0, slots := 0, locals := 0 } 0 0 [.ref h] sz M (fun v s M' => none = v ∧ sz = s ∧ zoutR M M' h (h + 4) ∧ zsf E M' h [] [] (fun _ => 0) 0) := by
  obtain ⟨ff, sf, nf, h0, h1, h2, h3, ⟨hl1, hl2, hl3⟩, hff, hsf, hnf, hfm, hal⟩ := id H
  refine zMet.ofZ (by decide) (Nat.le_of_ble_eq_true rfl) ?_
  intro X hl hini C
  have loop : ∀ (m i : Nat) (g : Nat → Int32), i ≤ 3 → 4 ≤ i + m → (∀ j, j < i → g j = nI 0) → Z X E 2 (zQ X E 0 0 (fun v s M' => none = v ∧ sz = s ∧ zoutR M M' h (h + 4) ∧ zsf E M' h [] [] (fun _ => 0) 0)) 0 0 sz (zU (zU M h (.inr (6, [.ref (h + 1), .ref (h + 2), .ref (h + 3), .int (nI 0), .int (nI 0)]))) (h + 3) (.inl (E.2.1 0, 3, .inl g))) 12 [(0, .ref h), (1, .int (nI i))] [] := by
    intro m
    induction m with
    | zero => intro i g h1 h2; omega
    | succ m ih =>
      intro i g hi hm hg
      refine z_iload_n C d_H_clear_12 rfl rfl ?_
      refine z_iconst (v := nI 3) C d_H_clear_13 (by decide) ?_
      refine z_icmp_ge (tgt := 30) C d_H_clear_14 (by decide) (fun c14 => ?_) (fun c14 => ?_)
      · have c14 := (nI_leI (by decide) (by omega)).mp c14
        have ho : zoutR M (zU (zU M h (.inr (6, [.ref (h + 1), .ref (h + 2), .ref (h + 3), .int (nI 0), .int (nI 0)]))) (h + 3) (.inl (E.2.1 0, 3, .inl g))) h (h + 4) := fun q hq => (zU_ne (by omega)).trans (zU_ne (by omega))
        refine z_vret C ⟨rfl, rfl, ho, ff, sf, g, (zU_ne (by omega)).trans zU_eq, (zU_ne (by omega)).trans ((zU_ne (by omega)).trans h1), (zU_ne (by omega)).trans ((zU_ne (by omega)).trans h2), zU_eq, ⟨by simp, rfl, by simp⟩, hff, fun j s hs => by simp at hs, fun j hj => ⟨hg j (by omega), by simp⟩, fun j x hx => by simp at hx, fun j hj => ?_⟩ d_H_clear_30
        obtain ⟨a1, a2, a3, a4, a5⟩ := hal j hj
        exact ⟨a1, a2, a3, a4, zf_oR ho a5 (by omega)⟩
      · have c14 : i < 3 := Nat.not_le.mp (fun q => c14 ((nI_leI (by decide) (by omega)).mpr q))
        refine z_aload_n C d_H_clear_17 rfl rfl ?_
        refine z_get C in_H ((zU_ne (by omega)).trans zU_eq) rfl 2 (by decide) fl_H_21 rfl rfl d_H_clear_18 ?_
        refine z_iload_n C d_H_clear_21 rfl rfl ?_
        refine z_iconst (v := nI 0) C d_H_clear_22 (by decide) ?_
        refine z_iast C zU_eq 0 rfl i (rfl) (c14) (by decide) d_H_clear_23 ?_
        refine z_world zU_uu ?_
        refine z_iinc (v := nI (i + 1)) (L' := [(0, .ref h), (1, .int (nI (i + 1)))]) C d_H_clear_24 rfl (nI_1 i) (by decide) rfl ?_
        refine z_goto (tgt := 12) C d_H_clear_27 (by decide) ?_
        exact ih (i + 1) _ (by omega) (by omega) (inv_up (F := fun _ => nI 0) hg rfl)
  show Z X E 2 _ 0 0 sz M 0 [(0, .ref h)] []
  refine z_aload_n C d_H_clear_0 rfl rfl ?_
  refine z_iconst (v := nI 0) C d_H_clear_1 (by decide) ?_
  refine z_put C in_H ty_H tok_H nm_H h0 rfl 3 (by decide) fl_H_24 rfl rfl rfl (rfl) (rfl) (Nat.le_of_ble_eq_true rfl) d_H_clear_2 ?_
  show Z _ _ _ _ _ _ _ (zU M h (.inr (6, [.ref (h + 1), .ref (h + 2), .ref (h + 3), .int (nI 0), .int (nI sc)]))) _ _ _
  refine z_aload_n C d_H_clear_5 rfl rfl ?_
  refine z_iconst (v := nI 0) C d_H_clear_6 (by decide) ?_
  refine z_put C in_H ty_H tok_H nm_H zU_eq rfl 4 (by decide) fl_H_28 rfl rfl rfl (rfl) (rfl) (Nat.le_of_ble_eq_true rfl) d_H_clear_7 ?_
  show Z _ _ _ _ _ _ _ (zU (zU M h (.inr (6, [.ref (h + 1), .ref (h + 2), .ref (h + 3), .int (nI 0), .int (nI sc)]))) h (.inr (6, [.ref (h + 1), .ref (h + 2), .ref (h + 3), .int (nI 0), .int (nI 0)]))) _ _ _
  refine z_world zU_uu ?_
  refine z_iconst (v := nI 0) C d_H_clear_10 (by decide) ?_
  refine z_istore_n (L' := [(0, .ref h), (1, .int (nI 0))]) C d_H_clear_11 rfl (by decide) rfl ?_
  refine z_world (zU_id (a := h + 3) (e := .inl (E.2.1 0, 3, .inl nf)) ((zU_ne (by omega)).trans h3)).symm ?_
  exact loop 4 0 nf (by omega) (by omega) (fun j hj => absurd hj (by omega))
end
section
set_option maxHeartbeats 4000000 in
/-- Shelf.shapeNumberFor -/
theorem h_shapeFor (E : zE) (l : Launch) (sz : Nat) (M : zM) {h : Nat} {fs : List (PS × PS)} {ss : List Nat} {nb : Nat → Nat} {sc : Nat} (H : zsf E M h fs ss nb sc) {q kn kd : Nat} {N D : PS} (hq : zf E M q kn kd N D) (aq : q + 5 ≤ h ∨ h + 204 ≤ q) : zMet E l y_H_shapeNumberFor c_H_shapeNumberFor 3 (some .int) { frames := 3, cells := 0, slots := 0, locals := 64 } 0 0 [.ref h, .ref q] sz M (fun v s M' => sz = s ∧ (∃ r sc' : Nat, some (.int (nI r)) = v ∧ shN fs ss sc (N, D) r sc' ∧ r ≤ sc' ∧ M' h = some (.inr (6, [.ref (h + 1), .ref (h + 2), .ref (h + 3), .int (nI fs.length), .int (nI sc')]))) ∧ ∀ x, x ≠ h → M' x = M x) := by
  obtain ⟨ff, sf, nf, h0, h1, h2, h3, ⟨hl1, hl2, hl3⟩, hff, hsf, hnf, hfm, hal⟩ := id H
  refine zMet.ofZ (by decide) (Nat.le_of_ble_eq_true rfl) ?_
  intro X hl hini C
  have loop : ∀ (m i : Nat), i ≤ fs.length → fs.length + 1 ≤ i + m → (∀ j : Nat, j < i → fs[j]? ≠ some (N, D)) → Z X E 3 (zQ X E 0 0 (fun v s M' => sz = s ∧ (∃ r sc' : Nat, some (.int (nI r)) = v ∧ shN fs ss sc (N, D) r sc' ∧ r ≤ sc' ∧ M' h = some (.inr (6, [.ref (h + 1), .ref (h + 2), .ref (h + 3), .int (nI fs.length), .int (nI sc')]))) ∧ ∀ x, x ≠ h → M' x = M x)) 0 0 sz M 2 [(0, .ref h), (1, .ref q), (2, .int (nI i))] [] := by
    intro m
    induction m with
    | zero => intro i h1 h2; omega
    | succ m ih =>
      intro i hi hm hg
      refine z_iload_n C d_H_shapeNumberFor_2 rfl rfl ?_
      refine z_aload_n C d_H_shapeNumberFor_3 rfl rfl ?_
      refine z_get C in_H h0 rfl 3 (by decide) fl_H_24 rfl rfl d_H_shapeNumberFor_4 ?_
      refine z_icmp_ge (tgt := 36) C d_H_shapeNumberFor_7 (by decide) (fun c7 => ?_) (fun c7 => ?_)
      · have c7 := (nI_leI (by omega) (by omega)).mp c7
        have hno : ∀ j : Nat, fs[j]? ≠ some (N, D) := fun j => by
          rcases Nat.lt_or_ge j i with q | q
          · exact hg j q
          · rw [List.getElem?_eq_none (by omega)]; exact fun e => by cases e
        refine z_aload_n C d_H_shapeNumberFor_36 rfl rfl ?_
        refine z_dup C d_H_shapeNumberFor_37 rfl ?_
        refine z_get C in_H h0 rfl 4 (by decide) fl_H_28 rfl rfl d_H_shapeNumberFor_38 ?_
        refine z_iconst (v := 1) C d_H_shapeNumberFor_41 (by decide) ?_
        refine z_iadd C d_H_shapeNumberFor_42 ?_
        refine z_top (y := nI (sc + 1)) (nI_1 sc) ?_
        refine z_put C in_H ty_H tok_H nm_H h0 rfl 4 (by decide) fl_H_28 rfl rfl rfl (rfl) (rfl) (Nat.le_of_ble_eq_true rfl) d_H_shapeNumberFor_43 ?_
        show Z _ _ _ _ _ _ _ (zU M h (.inr (6, [.ref (h + 1), .ref (h + 2), .ref (h + 3), .int (nI fs.length), .int (nI (sc + 1))]))) _ _ _
        refine z_aload_n C d_H_shapeNumberFor_46 rfl rfl ?_
        refine z_get C in_H zU_eq rfl 4 (by decide) fl_H_28 rfl rfl d_H_shapeNumberFor_47 ?_
        exact z_iret C ⟨rfl, ⟨_, sc + 1, rfl, Or.inr ⟨hno, rfl, rfl⟩, Nat.le_refl _, zU_eq⟩, fun _ hx => zU_ne hx⟩ d_H_shapeNumberFor_50
      · have c7 : i < fs.length := Nat.not_le.mp (fun q => c7 ((nI_leI (by omega) (by omega)).mpr q))
        have hx : fs[i]? = some fs[i] := List.getElem?_eq_getElem c7
        obtain ⟨a1, a2, hz⟩ := hfm i _ hx
        refine z_aload_n C d_H_shapeNumberFor_10 rfl rfl ?_
        refine z_get C in_H h0 rfl 0 (by decide) fl_H_11 rfl rfl d_H_shapeNumberFor_11 ?_
        refine z_iload_n C d_H_shapeNumberFor_14 rfl rfl ?_
        refine z_aald C h1 3 rfl i (rfl) (by omega) (by decide) (congrArg va_rf (hff i (by omega))) d_H_shapeNumberFor_15 ?_
        refine z_aload_n C d_H_shapeNumberFor_16 rfl rfl ?_
        refine z_callV (rest := []) (n := 1) (As := [.ref q]) C (f_isSame E X.2.1 sz _ hz hq) ⟨z_cb C k_F_isSame ml_H_44 ii_F rfl rfl (by decide +kernel) ⟨by decide, by decide⟩, C.2.2.2.2.1 _ im_F_isSame, C.2.2.2.2.1 _ se_F_isSame⟩ hz.1 rfl rfl rfl (Nat.le_of_ble_eq_true rfl) d_H_shapeNumberFor_17 ⟨by decide, by decide⟩ ?_
        intro v_17 s_17 M_17 hp_17
        obtain ⟨rfl, rfl, ⟨e_17, rfl⟩ | ⟨e_17, rfl⟩⟩ := hp_17
        · show Z _ _ _ _ _ _ _ _ 20 _ [.int 1]
          refine z_if_eq (tgt := 30) C d_H_shapeNumberFor_20 (by decide) (fun c_20 => absurd c_20 (by decide)) (fun _ => ?_)
          refine z_aload_n C d_H_shapeNumberFor_23 rfl rfl ?_
          refine z_get C in_H h0 rfl 1 (by decide) fl_H_17 rfl rfl d_H_shapeNumberFor_24 ?_
          refine z_iload_n C d_H_shapeNumberFor_27 rfl rfl ?_
          have hs : ss[i]? = some (ss.getD i 0) := by
            rw [List.getD_eq_getElem?_getD, List.getElem?_eq_getElem (by omega)]; rfl
          refine z_iald C h2 0 rfl i (rfl) (by omega) (by decide) d_H_shapeNumberFor_28 ?_
          refine z_top (y := nI (ss.getD i 0)) ((hsf i _ hs).1) ?_
          exact z_iret C ⟨rfl, ⟨_, sc, rfl, Or.inl ⟨i, by rw [hx]; exact congrArg some (Prod.ext e_17.1 e_17.2), hg, hs, rfl⟩, (hsf i _ hs).2, h0⟩, fun _ _ => rfl⟩ d_H_shapeNumberFor_29
        · show Z _ _ _ _ _ _ _ _ 20 _ [.int 0]
          refine z_if_eq (tgt := 30) C d_H_shapeNumberFor_20 (by decide) (fun _ => ?_) (fun c_20 => absurd (by decide) c_20)
          refine z_iinc (v := nI (i + 1)) (L' := [(0, .ref h), (1, .ref q), (2, .int (nI (i + 1)))]) C d_H_shapeNumberFor_30 rfl (nI_1 i) (by decide) rfl ?_
          refine z_goto (tgt := 2) C d_H_shapeNumberFor_33 (by decide) ?_
          refine ih (i + 1) (by omega) (by omega) (fun j hj => ?_)
          rcases Nat.lt_or_ge j i with q | q
          · exact hg j q
          · rw [show j = i by omega, hx]
            intro e
            have e := Option.some.inj e
            exact e_17 ⟨congrArg Prod.fst e, congrArg Prod.snd e⟩
  show Z X E 3 _ 0 0 sz M 0 [(0, .ref h), (1, .ref q)] []
  refine z_iconst (v := nI 0) C d_H_shapeNumberFor_0 (by decide) ?_
  refine z_istore_n (L' := [(0, .ref h), (1, .ref q), (2, .int (nI 0))]) C d_H_shapeNumberFor_1 rfl (by decide) rfl ?_
  exact loop (fs.length + 1) 0 (by omega) (by omega) (fun j hj => absurd hj (by omega))
/-- the next label's place is written -/
theorem zsf_slot {E : zE} {M M' : zM} {h kn kd : Nat} {N D : PS} {fs : List (PS × PS)} {ss : List Nat} {nb : Nat → Nat} {sc : Nat} (H : zsf E M h fs ss nb sc) (hl : fs.length < 40) (ho : zoutR M M' (h + 4 + 5 * fs.length + 1) (h + 4 + 5 * fs.length + 5)) (hz : zf E M' (h + 4 + 5 * fs.length) kn kd N D) : zsf E M' h fs ss nb sc := by
  obtain ⟨ff, sf, nf, h0, h1, h2, h3, hl, hff, hsf, hnf, hfm, hal⟩ := H
  refine ⟨ff, sf, nf, (ho h (by omega)).trans h0, (ho (h + 1) (by omega)).trans h1, (ho (h + 2) (by omega)).trans h2, (ho (h + 3) (by omega)).trans h3, hl, hff, hsf, hnf, fun i x hx => ?_, fun i hi => ?_⟩
  · obtain ⟨a1, a2, a3⟩ := hfm i x hx
    have := (List.getElem?_eq_some_iff.mp hx).1
    exact ⟨a1, a2, zf_oR ho a3 (by omega)⟩
  · by_cases q : i = fs.length
    · rw [q]; exact ⟨_, _, _, _, hz⟩
    · obtain ⟨a1, a2, a3, a4, a5⟩ := hal i hi
      exact ⟨a1, a2, a3, a4, zf_oR ho a5 (by omega)⟩
/-- what is kept: one label more -/
theorem zsf_add {E : zE} {M M' : zM} {h kn kd r sc' : Nat} {N D : PS} {fs : List (PS × PS)} {ss : List Nat} {nb : Nat → Nat} {sc : Nat} {sf' : Nat → Int32} (H : zsf E M h fs ss nb sc) (hlt : fs.length < 40) (hz : zf E M (h + 4 + 5 * fs.length) kn kd N D) (hs1 : r ≤ sc') (hs2 : sc ≤ sc') (hs3 : sc' ≤ fs.length + 1) (g0 : M' h = some (.inr (6, [.ref (h + 1), .ref (h + 2), .ref (h + 3), .int (nI (fs.length + 1)), .int (nI sc')]))) (g2 : M' (h + 2) = some (.inl (E.2.1 0, 40, .inl sf'))) (hsn : sf' fs.length = nI r) (hso : ∀ i s, ss[i]? = some s → sf' i = nI s) (ho : ∀ x, x ≠ h → x ≠ h + 2 → M' x = M x) : zsf E M' h (fs ++ [(N, D)]) (ss ++ [r]) nb sc' := by
  obtain ⟨ff, sf, nf, h0, h1, h2, h3, ⟨hl1, hl2, hl3⟩, hff, hsf, hnf, hfm, hal⟩ := H
  have kf : ∀ i : Nat, i < 40 → ∀ {a b : Nat} {A B : PS}, zf E M (h + 4 + 5 * i) a b A B → zf E M' (h + 4 + 5 * i) a b A B := fun i hi a b A B q => ⟨(ho _ (by omega) (by omega)).trans q.1, zp_kept q.2.1 (ho _ (by omega) (by omega)) (ho _ (by omega) (by omega)), zp_kept q.2.2 (ho _ (by omega) (by omega)) (ho _ (by omega) (by omega))⟩
  refine ⟨ff, sf', nf, by rw [List.length_append]; exact g0, (ho _ (by omega) (by omega)).trans h1, g2, (ho _ (by omega) (by omega)).trans h3, ⟨by simp; omega, by simp; omega, by simp; omega⟩, hff, fun i s hs => ?_, fun i hi => ⟨(hnf i hi).1, by have := (hnf i hi).2; simp; omega⟩, fun i x hx => ?_, fun i hi => ?_⟩
  · rcases ap_get hs with ⟨q1, q2⟩ | ⟨q1, q2⟩
    · exact ⟨hso i s q1, by have := (hsf i s q1).2; omega⟩
    · rw [q1, hl2, ← q2]; exact ⟨hsn, hs1⟩
  · rcases ap_get hx with ⟨q1, q2⟩ | ⟨q1, q2⟩
    · obtain ⟨a1, a2, a3⟩ := hfm i x q1
      exact ⟨a1, a2, kf i (by omega) a3⟩
    · rw [q1, ← q2]; exact ⟨_, _, kf _ (by omega) hz⟩
  · obtain ⟨a1, a2, a3, a4, a5⟩ := hal i hi
    exact ⟨a1, a2, a3, a4, kf i hi a5⟩
theorem shN_le {fs : List (PS × PS)} {ss : List Nat} {sc v sc' : Nat} {x : PS × PS} (h : shN fs ss sc x v sc') : sc ≤ sc' ∧ sc' ≤ sc + 1 := by
  rcases h with ⟨i, -, -, -, e⟩ | ⟨-, -, e⟩ <;> omega
set_option maxHeartbeats 4000000 in
/-- Shelf.keep -/
theorem h_keep (E : zE) (l : Launch) (sz : Nat) (M : zM) {h : Nat} {fs : List (PS × PS)} {ss : List Nat} {nb : Nat → Nat} {sc : Nat} (H : zsf E M h fs ss nb sc) {q kn kd : Nat} {N D : PS} (hq : zf E M q kn kd N D) (aq : q + 5 ≤ h ∨ h + 204 ≤ q) (hfull : fs.length < 40) : zMet E l y_H_keep c_H_keep 2 (some .int) { frames := 4, cells := 0, slots := 0, locals := 86 } 0 0 [.ref h, .ref q] sz M (fun v s M' => sz = s ∧ some (.int (nI (fs.length + 1))) = v ∧ zoutR M M' h (h + 204) ∧ ∃ r sc' : Nat, shN fs ss sc (N, D) r sc' ∧ zsf E M' h (fs ++ [(N, D)]) (ss ++ [r]) nb sc') := by
  obtain ⟨ff, sf, nf, h0, h1, h2, h3, ⟨hl1, hl2, hl3⟩, hff, hsf, hnf, hfm, hal⟩ := id H
  obtain ⟨b1, b2, b3, b4, hz⟩ := hal fs.length hfull
  refine zMet.ofZ (by decide) (Nat.le_of_ble_eq_true rfl) ?_
  intro X hl hini C
  show Z X E 2 _ 0 0 sz M 0 [(0, .ref h), (1, .ref q)] []
  refine z_aload_n C d_H_keep_0 rfl rfl ?_
  refine z_callV (rest := []) (n := 0) (As := []) C (h_isFull E X.2.1 sz _ H) ⟨z_cb C k_H_isFull ml_H_32 ii_H rfl rfl (by decide +kernel) ⟨by decide, by decide⟩, C.2.2.2.2.1 _ im_H_isFull, C.2.2.2.2.1 _ se_H_isFull⟩ h0 rfl rfl rfl (Nat.le_of_ble_eq_true rfl) d_H_keep_1 ⟨by decide, by decide⟩ ?_
  intro v_1 s_1 M_1 hp_1
  obtain ⟨rfl, rfl, rfl⟩ := hp_1
  show Z _ _ _ _ _ _ _ _ 4 _ [.int (if fs.length = 40 then 1 else 0)]
  refine z_if_eq (tgt := 10) C d_H_keep_4 (by decide) (fun _ => ?_) (fun c_4 => absurd (if_neg (by omega)) c_4)
  refine z_aload_n C d_H_keep_10 rfl rfl ?_
  refine z_get C in_H h0 rfl 0 (by decide) fl_H_11 rfl rfl d_H_keep_11 ?_
  refine z_aload_n C d_H_keep_14 rfl rfl ?_
  refine z_get C in_H h0 rfl 3 (by decide) fl_H_24 rfl rfl d_H_keep_15 ?_
  refine z_aald C h1 3 rfl fs.length (rfl) (hfull) (by decide) (congrArg va_rf (hff _ hfull)) d_H_keep_18 ?_
  refine z_aload_n C d_H_keep_19 rfl rfl ?_
  refine z_callV (rest := []) (n := 1) (As := [.ref q]) C (f_copy E X.2.1 sz _ hz hq (by omega)) ⟨z_cb C k_F_copy ml_H_36 ii_F rfl rfl (by decide +kernel) ⟨by decide, by decide⟩, C.2.2.2.2.1 _ im_F_copy, C.2.2.2.2.1 _ se_F_copy⟩ hz.1 rfl rfl rfl (Nat.le_of_ble_eq_true rfl) d_H_keep_20 ⟨by decide, by decide⟩ ?_
  intro v_20 s_20 M1 hp_20
  obtain ⟨rfl, rfl, hz1, ho1⟩ := hp_20
  have H1 := zsf_slot H hfull ho1 hz1
  have hq1 := zf_oR ho1 hq (by omega)
  have g0 := (ho1 h (by omega)).trans h0
  have g1 := (ho1 (h + 1) (by omega)).trans h1
  have g2 := (ho1 (h + 2) (by omega)).trans h2
  have g3 := (ho1 (h + 3) (by omega)).trans h3
  show Z _ _ _ _ _ _ _ _ 23 _ []
  refine z_aload_n C d_H_keep_23 rfl rfl ?_
  refine z_get C in_H g0 rfl 1 (by decide) fl_H_17 rfl rfl d_H_keep_24 ?_
  refine z_aload_n C d_H_keep_27 rfl rfl ?_
  refine z_get C in_H g0 rfl 3 (by decide) fl_H_24 rfl rfl d_H_keep_28 ?_
  refine z_aload_n C d_H_keep_31 rfl rfl ?_
  refine z_aload_n C d_H_keep_32 rfl rfl ?_
  refine z_callV (rest := [.int (nI fs.length), .ref (h + 2)]) (n := 1) (As := [.ref q]) C (h_shapeFor E X.2.1 sz _ H1 hq1 aq) ⟨z_cb C k_H_shapeNumberFor ml_H_40 ii_H rfl rfl (by decide +kernel) ⟨by decide, by decide⟩, C.2.2.2.2.1 _ im_H_shapeNumberFor, C.2.2.2.2.1 _ se_H_shapeNumberFor⟩ g0 rfl rfl rfl (Nat.le_of_ble_eq_true rfl) d_H_keep_33 ⟨by decide, by decide⟩ ?_
  intro v_33 s_33 M2 hp_33
  obtain ⟨rfl, ⟨r, sc', rfl, hsh, hrs, k0⟩, ho2⟩ := hp_33
  have k2 := (ho2 (h + 2) (by omega)).trans g2
  have k1 := (ho2 (h + 1) (by omega)).trans g1
  have k3 := (ho2 (h + 3) (by omega)).trans g3
  have hb := shN_le hsh
  show Z _ _ _ _ _ _ _ _ 36 _ [.int (nI r), .int (nI fs.length), .ref (h + 2)]
  refine z_iast C k2 0 rfl fs.length (rfl) (hfull) (by decide) d_H_keep_36 ?_
  refine z_aload_n C d_H_keep_37 rfl rfl ?_
  refine z_dup C d_H_keep_38 rfl ?_
  refine z_get C in_H ((zU_ne (by omega)).trans k0) rfl 3 (by decide) fl_H_24 rfl rfl d_H_keep_39 ?_
  refine z_iconst (v := 1) C d_H_keep_42 (by decide) ?_
  refine z_iadd C d_H_keep_43 ?_
  refine z_top (y := nI (fs.length + 1)) (nI_1 _) ?_
  refine z_put C in_H ty_H tok_H nm_H ((zU_ne (by omega)).trans k0) rfl 3 (by decide) fl_H_24 rfl rfl rfl (rfl) (rfl) (Nat.le_of_ble_eq_true rfl) d_H_keep_44 ?_
  show Z _ _ _ _ _ _ _ (zU (zU M2 (h + 2) (.inl (E.2.1 0, 40, .inl (upd sf fs.length (nI r))))) h (.inr (6, [.ref (h + 1), .ref (h + 2), .ref (h + 3), .int (nI (fs.length + 1)), .int (nI sc')]))) _ _ _
  refine z_aload_n C d_H_keep_47 rfl rfl ?_
  refine z_get C in_H zU_eq rfl 3 (by decide) fl_H_24 rfl rfl d_H_keep_48 ?_
  refine z_iret C ⟨rfl, rfl, fun x hx => (zU_ne (by omega)).trans ((zU_ne (by omega)).trans ((ho2 x (by omega)).trans (ho1 x (by omega)))), r, sc', hsh, zsf_add H1 hfull hz1 hrs hb.1 (by omega) zU_eq ((zU_ne (by omega)).trans zU_eq) upd_eq (fun i s hs => ?_) (fun x q1 q2 => (zU_ne q1).trans ((zU_ne q2).trans (ho2 x q1)))⟩ d_H_keep_51
  have := (List.getElem?_eq_some_iff.mp hs).1
  rw [upd_ne (by omega)]
  exact (hsf i s hs).1
end
section
/-! the worker in the world: its stack of FORMs -/
def zwk (E : zE) (M : zM) (k : Nat) (xs : List (PS × PS)) : Prop :=
  ∃ ff : Nat → Option Nat, M k = some (.inr (8, [.ref (k + 1), .ref (k + 16), .int (nI xs.length)])) ∧ M (k + 16) = some (.inl (E.2.1 3, 16, .inr (.inr (.inr (.inr ff))))) ∧ xs.length ≤ 16 ∧ (∀ i, i < 16 → ff i = some (k + 17 + 5 * i)) ∧ (∃ a b A B, zsh E M (k + 1) a b A B) ∧ (∀ (i : Nat) x, xs[i]? = some x → ∃ kn kd, zf E M (k + 17 + 5 * i) kn kd x.1 x.2) ∧ ∀ i, i < 16 → ∃ kn kd N D, zf E M (k + 17 + 5 * i) kn kd N D
theorem zwk_oR {E : zE} {M M' : zM} {lo hi k : Nat} {xs : List (PS × PS)} (ho : zoutR M M' lo hi) (H : zwk E M k xs) (hne : k + 97 ≤ lo ∨ hi ≤ k) : zwk E M' k xs := by
  obtain ⟨ff, h0, h1, hl, hff, ⟨a, b, A, B, hs⟩, hfm, hal⟩ := H
  refine ⟨ff, (ho k (by omega)).trans h0, (ho (k + 16) (by omega)).trans h1, hl, hff, ⟨a, b, A, B, zsh_oR ho hs (by omega)⟩, fun i x hx => ?_, fun i hi => ?_⟩
  · obtain ⟨kn, kd, hz⟩ := hfm i x hx
    have := (List.getElem?_eq_some_iff.mp hx).1
    exact ⟨kn, kd, zf_oR ho hz (by omega)⟩
  · obtain ⟨kn, kd, N, D, hz⟩ := hal i hi
    exact ⟨kn, kd, N, D, zf_oR ho hz (by omega)⟩
/-- a new top -/
theorem zwk_mk {E : zE} {M M' : zM} {k kn kd : Nat} {N D : PS} {xs ys : List (PS × PS)} (H : zwk E M k xs) (hy : ∀ i : Nat, i < ys.length → xs[i]? = ys[i]?) (hl : ys.length < 16) (hz : zf E M' (k + 17 + 5 * ys.length) kn kd N D) (hs : ∃ a b A B, zsh E M' (k + 1) a b A B) (h0 : M' k = some (.inr (8, [.ref (k + 1), .ref (k + 16), .int (nI (ys.length + 1))]))) (ho : ∀ x, x ≠ k → (x < k + 1 ∨ k + 16 ≤ x) → (x < k + 17 + 5 * ys.length + 1 ∨ k + 17 + 5 * ys.length + 5 ≤ x) → M' x = M x) : zwk E M' k (ys ++ [(N, D)]) := by
  obtain ⟨ff, g0, g1, gl, hff, gs, hfm, hal⟩ := H
  have kf : ∀ i : Nat, i < 16 → i ≠ ys.length → ∀ {a b : Nat} {A B : PS}, zf E M (k + 17 + 5 * i) a b A B → zf E M' (k + 17 + 5 * i) a b A B := fun i hi hne a b A B q => ⟨(ho _ (by omega) (by omega) (by omega)).trans q.1, zp_kept q.2.1 (ho _ (by omega) (by omega) (by omega)) (ho _ (by omega) (by omega) (by omega)), zp_kept q.2.2 (ho _ (by omega) (by omega) (by omega)) (ho _ (by omega) (by omega) (by omega))⟩
  refine ⟨ff, by rw [List.length_append]; exact h0, (ho _ (by omega) (by omega) (by omega)).trans g1, by simp; omega, hff, hs, fun i x hx => ?_, fun i hi => ?_⟩
  · rcases ap_get hx with ⟨q1, q2⟩ | ⟨q1, q2⟩
    · obtain ⟨a1, a2, a3⟩ := hfm i x (by rw [hy i q2]; exact q1)
      exact ⟨a1, a2, kf i (by omega) (by omega) a3⟩
    · rw [q1, ← q2]; exact ⟨_, _, hz⟩
  · by_cases q : i = ys.length
    · rw [q]; exact ⟨_, _, _, _, hz⟩
    · obtain ⟨a1, a2, a3, a4, a5⟩ := hal i hi
      exact ⟨a1, a2, a3, a4, kf i hi q a5⟩
theorem zp_pos {E : zE} {M : zM} {a n k i : Nat} {P : PS} (h : zp E M a n k P) (hi : P i ≠ 0) : 1 ≤ k := by
  rcases Nat.eq_zero_or_pos k with q | q
  · exact absurd ((zp_pol h).1 i (by omega)) hi
  · exact q
theorem nI_modf {v : Nat} (h : v < 2 ^ 31) : nI v - nI v / 10007 * 10007 = fI (Fin.ofNat 10007 v) := nI_mod h
end
section
set_option maxHeartbeats 4000000 in
/-- Worker.load -/
theorem k_loadC (E : zE) (l : Launch) (sz : Nat) (M : zM) {k : Nat} {xs : List (PS × PS)} (H : zwk E M k xs) (hx : xs.length < 16) (n : Nat) (hn : n < 2 ^ 31) {h : Nat} : zMet E l y_K_load c_K_load 6 (some .int) { frames := 3, cells := 0, slots := 0, locals := 64 } 0 0 [.ref k, .int (nI 1), .int (nI n), .ref h] sz M (fun v s M' => sz = s ∧ some (.int 0) = v ∧ zoutR M M' k (k + 97) ∧ zwk E M' k (xs ++ [(ps_C (Fin.ofNat 10007 n), ps_C 1)])) := by
  obtain ⟨ff, h0, h1, hl1, hff, hs, hfm, hal⟩ := id H
  obtain ⟨b1, b2, b3, b4, hz⟩ := hal xs.length hx
  refine zMet.ofZ (by decide) (Nat.le_of_ble_eq_true rfl) ?_
  intro X hl hini C
  show Z X E 6 _ 0 0 sz M 0 [(0, .ref k), (1, .int (nI 1)), (2, .int (nI n)), (3, .ref h)] []
  refine z_aload_n C d_K_load_0 rfl rfl ?_
  refine z_get C in_K h0 rfl 2 (by decide) fl_K_24 rfl rfl d_K_load_1 ?_
  refine z_bipush (v := nI 16) C d_K_load_4 (by decide) ?_
  refine z_icmp_lt (tgt := 12) C d_K_load_6 (by decide) (fun _ => ?_) (fun c_6 => absurd ((nI_ltI (by omega) (by decide)).mpr hx) c_6)
  refine z_aload_n C d_K_load_12 rfl rfl ?_
  refine z_get C in_K h0 rfl 1 (by decide) fl_K_20 rfl rfl d_K_load_13 ?_
  refine z_aload_n C d_K_load_16 rfl rfl ?_
  refine z_get C in_K h0 rfl 2 (by decide) fl_K_24 rfl rfl d_K_load_17 ?_
  refine z_aald C h1 3 rfl xs.length (rfl) (hx) (by decide) (congrArg va_rf (hff _ hx)) d_K_load_20 ?_
  refine z_astore (L' := [(0, .ref k), (1, .int (nI 1)), (2, .int (nI n)), (3, .ref h), (4, .ref (k + 17 + 5 * xs.length))]) C d_K_load_21 (by decide) rfl ?_
  refine z_aload_n C d_K_load_23 rfl rfl ?_
  refine z_dup C d_K_load_24 rfl ?_
  refine z_get C in_K h0 rfl 2 (by decide) fl_K_24 rfl rfl d_K_load_25 ?_
  refine z_iconst (v := 1) C d_K_load_28 (by decide) ?_
  refine z_iadd C d_K_load_29 ?_
  refine z_top (y := nI (xs.length + 1)) (nI_1 _) ?_
  refine z_put C in_K ty_K tok_K nm_K h0 rfl 2 (by decide) fl_K_24 rfl rfl rfl (rfl) (rfl) (Nat.le_of_ble_eq_true rfl) d_K_load_30 ?_
  show Z _ _ _ _ _ _ _ (zU M k (.inr (8, [.ref (k + 1), .ref (k + 16), .int (nI (xs.length + 1))]))) _ _ _
  have ho0 : zoutR M (zU M k (.inr (8, [.ref (k + 1), .ref (k + 16), .int (nI (xs.length + 1))]))) k (k + 1) := fun x hq => zU_ne (by omega)
  have hz0 := zf_oR ho0 hz (by omega)
  obtain ⟨sa, sb, sA, sB, hs⟩ := hs
  have hs0 := zsh_oR ho0 hs (by omega)
  refine z_iload_n C d_K_load_33 rfl rfl ?_
  refine z_iconst (v := nI 1) C d_K_load_34 (by decide) ?_
  refine z_icmp_ne (tgt := 51) C d_K_load_35 (by decide) (fun c_35 => absurd c_35 (fun q => q rfl)) (fun _ => ?_)
  refine z_aload C d_K_load_38 rfl ?_
  refine z_iload_n C d_K_load_40 rfl rfl ?_
  refine z_sipush (v := 10007) C d_K_load_41 (by decide) ?_
  refine z_irem C d_K_load_44 (by decide) ?_
  refine z_top (y := fI (Fin.ofNat 10007 n)) (nI_modf hn) ?_
  refine z_callV (rest := []) (n := 1) (As := [.int (fI (Fin.ofNat 10007 n))]) C (f_setConstant E X.2.1 sz _ hz0 (Fin.ofNat 10007 n)) ⟨z_cb C k_F_setConstant ml_K_53 ii_F rfl rfl (by decide +kernel) ⟨by decide, by decide⟩, C.2.2.2.2.1 _ im_F_setConstant, C.2.2.2.2.1 _ se_F_setConstant⟩ hz0.1 rfl rfl rfl (Nat.le_of_ble_eq_true rfl) d_K_load_45 ⟨by decide, by decide⟩ ?_
  intro v_45 s_45 M1 hp_45
  obtain ⟨rfl, rfl, hz1, ho1⟩ := hp_45
  have hs1 := zsh_oR ho1 hs0 (by omega)
  have hk1 := (ho1 k (by omega)).trans (zU_eq (M := M))
  show Z _ _ _ _ _ _ _ _ 48 _ []
  refine z_goto (tgt := 99) C d_K_load_48 (by decide) ?_
  refine z_iconst (v := 0) C d_K_load_99 (by decide) ?_
  exact z_iret C ⟨rfl, rfl, (fun x hq => (ho1 x (by omega)).trans (ho0 x (by omega))), zwk_mk H (fun _ _ => rfl) hx hz1 ⟨_, _, _, _, hs1⟩ hk1 (fun x q1 q2 q3 => (ho1 x (by omega)).trans (ho0 x (by omega)))⟩ d_K_load_100
set_option maxHeartbeats 4000000 in
/-- Worker.load -/
theorem k_loadX (E : zE) (l : Launch) (sz : Nat) (M : zM) {k : Nat} {xs : List (PS × PS)} (H : zwk E M k xs) (hx : xs.length < 16) {y : Int32} {h : Nat} : zMet E l y_K_load c_K_load 6 (some .int) { frames := 3, cells := 0, slots := 0, locals := 64 } 0 0 [.ref k, .int (nI 2), .int (y), .ref h] sz M (fun v s M' => sz = s ∧ some (.int 0) = v ∧ zoutR M M' k (k + 97) ∧ zwk E M' k (xs ++ [(mono 1 1, ps_C 1)])) := by
  obtain ⟨ff, h0, h1, hl1, hff, hs, hfm, hal⟩ := id H
  obtain ⟨b1, b2, b3, b4, hz⟩ := hal xs.length hx
  refine zMet.ofZ (by decide) (Nat.le_of_ble_eq_true rfl) ?_
  intro X hl hini C
  show Z X E 6 _ 0 0 sz M 0 [(0, .ref k), (1, .int (nI 2)), (2, .int y), (3, .ref h)] []
  refine z_aload_n C d_K_load_0 rfl rfl ?_
  refine z_get C in_K h0 rfl 2 (by decide) fl_K_24 rfl rfl d_K_load_1 ?_
  refine z_bipush (v := nI 16) C d_K_load_4 (by decide) ?_
  refine z_icmp_lt (tgt := 12) C d_K_load_6 (by decide) (fun _ => ?_) (fun c_6 => absurd ((nI_ltI (by omega) (by decide)).mpr hx) c_6)
  refine z_aload_n C d_K_load_12 rfl rfl ?_
  refine z_get C in_K h0 rfl 1 (by decide) fl_K_20 rfl rfl d_K_load_13 ?_
  refine z_aload_n C d_K_load_16 rfl rfl ?_
  refine z_get C in_K h0 rfl 2 (by decide) fl_K_24 rfl rfl d_K_load_17 ?_
  refine z_aald C h1 3 rfl xs.length (rfl) (hx) (by decide) (congrArg va_rf (hff _ hx)) d_K_load_20 ?_
  refine z_astore (L' := [(0, .ref k), (1, .int (nI 2)), (2, .int y), (3, .ref h), (4, .ref (k + 17 + 5 * xs.length))]) C d_K_load_21 (by decide) rfl ?_
  refine z_aload_n C d_K_load_23 rfl rfl ?_
  refine z_dup C d_K_load_24 rfl ?_
  refine z_get C in_K h0 rfl 2 (by decide) fl_K_24 rfl rfl d_K_load_25 ?_
  refine z_iconst (v := 1) C d_K_load_28 (by decide) ?_
  refine z_iadd C d_K_load_29 ?_
  refine z_top (y := nI (xs.length + 1)) (nI_1 _) ?_
  refine z_put C in_K ty_K tok_K nm_K h0 rfl 2 (by decide) fl_K_24 rfl rfl rfl (rfl) (rfl) (Nat.le_of_ble_eq_true rfl) d_K_load_30 ?_
  show Z _ _ _ _ _ _ _ (zU M k (.inr (8, [.ref (k + 1), .ref (k + 16), .int (nI (xs.length + 1))]))) _ _ _
  have ho0 : zoutR M (zU M k (.inr (8, [.ref (k + 1), .ref (k + 16), .int (nI (xs.length + 1))]))) k (k + 1) := fun x hq => zU_ne (by omega)
  have hz0 := zf_oR ho0 hz (by omega)
  obtain ⟨sa, sb, sA, sB, hs⟩ := hs
  have hs0 := zsh_oR ho0 hs (by omega)
  refine z_iload_n C d_K_load_33 rfl rfl ?_
  refine z_iconst (v := nI 1) C d_K_load_34 (by decide) ?_
  refine z_icmp_ne (tgt := 51) C d_K_load_35 (by decide) (fun _ => ?_) (fun c_35 => absurd c_35 (by decide))
  refine z_iload_n C d_K_load_51 rfl rfl ?_
  refine z_iconst (v := nI 2) C d_K_load_52 (by decide) ?_
  refine z_icmp_ne (tgt := 64) C d_K_load_53 (by decide) (fun c_53 => absurd c_53 (fun q => q rfl)) (fun _ => ?_)
  refine z_aload C d_K_load_56 rfl ?_
  refine z_callV (rest := []) (n := 0) (As := []) C (f_setLetter E X.2.1 sz _ hz0) ⟨z_cb C k_F_setLetter ml_K_57 ii_F rfl rfl (by decide +kernel) ⟨by decide, by decide⟩, C.2.2.2.2.1 _ im_F_setLetter, C.2.2.2.2.1 _ se_F_setLetter⟩ hz0.1 rfl rfl rfl (Nat.le_of_ble_eq_true rfl) d_K_load_58 ⟨by decide, by decide⟩ ?_
  intro v_58 s_58 M1 hp_58
  obtain ⟨rfl, rfl, hz1, ho1⟩ := hp_58
  have hs1 := zsh_oR ho1 hs0 (by omega)
  have hk1 := (ho1 k (by omega)).trans (zU_eq (M := M))
  show Z _ _ _ _ _ _ _ _ 61 _ []
  refine z_goto (tgt := 99) C d_K_load_61 (by decide) ?_
  refine z_iconst (v := 0) C d_K_load_99 (by decide) ?_
  exact z_iret C ⟨rfl, rfl, (fun x hq => (ho1 x (by omega)).trans (ho0 x (by omega))), zwk_mk H (fun _ _ => rfl) hx hz1 ⟨_, _, _, _, hs1⟩ hk1 (fun x q1 q2 q3 => (ho1 x (by omega)).trans (ho0 x (by omega)))⟩ d_K_load_100
set_option maxHeartbeats 4000000 in
/-- Worker.load -/
theorem k_loadL (E : zE) (l : Launch) (sz : Nat) (M : zM) {k : Nat} {xs : List (PS × PS)} (H : zwk E M k xs) (hx : xs.length < 16) {h : Nat} {fs : List (PS × PS)} {ss : List Nat} {nb : Nat → Nat} {sc : Nat} (S : zsf E M h fs ss nb sc) (ah : k + 97 ≤ h ∨ h + 204 ≤ k) (y : Int32) : zMet E l y_K_load c_K_load 6 (some .int) { frames := 3, cells := 0, slots := 0, locals := 64 } 0 0 [.ref k, .int (nI 4), .int (y), .ref h] sz M (fun v s M' => sz = s ∧ zoutR M M' k (k + 97) ∧ ((∃ i : Nat, i < fs.length ∧ y = nI (i + 1) ∧ some (.int 0) = v ∧ ∃ x, fs[i]? = some x ∧ zwk E M' k (xs ++ [x])) ∨ ((¬ ∃ i : Nat, i < fs.length ∧ y = nI (i + 1)) ∧ some (.int (-4)) = v ∧ ∃ xs', zwk E M' k xs'))) := by
  obtain ⟨ff, h0, h1, hl1, hff, hs, hfm, hal⟩ := id H
  obtain ⟨b1, b2, b3, b4, hz⟩ := hal xs.length hx
  refine zMet.ofZ (by decide) (Nat.le_of_ble_eq_true rfl) ?_
  intro X hl hini C
  show Z X E 6 _ 0 0 sz M 0 [(0, .ref k), (1, .int (nI 4)), (2, .int y), (3, .ref h)] []
  refine z_aload_n C d_K_load_0 rfl rfl ?_
  refine z_get C in_K h0 rfl 2 (by decide) fl_K_24 rfl rfl d_K_load_1 ?_
  refine z_bipush (v := nI 16) C d_K_load_4 (by decide) ?_
  refine z_icmp_lt (tgt := 12) C d_K_load_6 (by decide) (fun _ => ?_) (fun c_6 => absurd ((nI_ltI (by omega) (by decide)).mpr hx) c_6)
  refine z_aload_n C d_K_load_12 rfl rfl ?_
  refine z_get C in_K h0 rfl 1 (by decide) fl_K_20 rfl rfl d_K_load_13 ?_
  refine z_aload_n C d_K_load_16 rfl rfl ?_
  refine z_get C in_K h0 rfl 2 (by decide) fl_K_24 rfl rfl d_K_load_17 ?_
  refine z_aald C h1 3 rfl xs.length (rfl) (hx) (by decide) (congrArg va_rf (hff _ hx)) d_K_load_20 ?_
  refine z_astore (L' := [(0, .ref k), (1, .int (nI 4)), (2, .int y), (3, .ref h), (4, .ref (k + 17 + 5 * xs.length))]) C d_K_load_21 (by decide) rfl ?_
  refine z_aload_n C d_K_load_23 rfl rfl ?_
  refine z_dup C d_K_load_24 rfl ?_
  refine z_get C in_K h0 rfl 2 (by decide) fl_K_24 rfl rfl d_K_load_25 ?_
  refine z_iconst (v := 1) C d_K_load_28 (by decide) ?_
  refine z_iadd C d_K_load_29 ?_
  refine z_top (y := nI (xs.length + 1)) (nI_1 _) ?_
  refine z_put C in_K ty_K tok_K nm_K h0 rfl 2 (by decide) fl_K_24 rfl rfl rfl (rfl) (rfl) (Nat.le_of_ble_eq_true rfl) d_K_load_30 ?_
  show Z _ _ _ _ _ _ _ (zU M k (.inr (8, [.ref (k + 1), .ref (k + 16), .int (nI (xs.length + 1))]))) _ _ _
  have ho0 : zoutR M (zU M k (.inr (8, [.ref (k + 1), .ref (k + 16), .int (nI (xs.length + 1))]))) k (k + 1) := fun x hq => zU_ne (by omega)
  have hz0 := zf_oR ho0 hz (by omega)
  obtain ⟨sa, sb, sA, sB, hs⟩ := hs
  have hs0 := zsh_oR ho0 hs (by omega)
  have S0 := zsf_oR ho0 S (by omega)
  obtain ⟨gff, gsf, gnf, hS, gS1, gS2, gS3, ⟨hlS, -, -⟩, -, -, -, hfmS, -⟩ := id S0
  refine z_iload_n C d_K_load_33 rfl rfl ?_
  refine z_iconst (v := nI 1) C d_K_load_34 (by decide) ?_
  refine z_icmp_ne (tgt := 51) C d_K_load_35 (by decide) (fun _ => ?_) (fun c_35 => absurd c_35 (by decide))
  refine z_iload_n C d_K_load_51 rfl rfl ?_
  refine z_iconst (v := nI 2) C d_K_load_52 (by decide) ?_
  refine z_icmp_ne (tgt := 64) C d_K_load_53 (by decide) (fun _ => ?_) (fun c_53 => absurd c_53 (by decide))
  refine z_aload_n C d_K_load_64 rfl rfl ?_
  refine z_iload_n C d_K_load_65 rfl rfl ?_
  refine z_iconst (v := nI 3) C d_K_load_66 (by decide) ?_
  refine z_icmp_ne (tgt := 78) C d_K_load_67 (by decide) (fun _ => ?_) (fun c_67 => absurd c_67 (by decide))
  refine z_iload_n C d_K_load_78 rfl rfl ?_
  refine z_callV (rest := []) (n := 1) (As := [.int y]) C (h_find E X.2.1 sz _ S0 (y)) ⟨z_cb C k_H_find ml_K_66 ii_H rfl rfl (by decide +kernel) ⟨by decide, by decide⟩, C.2.2.2.2.1 _ im_H_find, C.2.2.2.2.1 _ se_H_find⟩ hS rfl rfl rfl (Nat.le_of_ble_eq_true rfl) d_K_load_79 ⟨by decide, by decide⟩ ?_
  intro v_79 s_79 M_79 hp_79
  obtain ⟨rfl, rfl, ⟨i, hi, hlab, rfl⟩ | ⟨hno, rfl⟩⟩ := hp_79
  · show Z _ _ _ _ _ _ _ _ 82 _ [.ref (h + 4 + 5 * i)]
    have hxi : fs[i]? = some fs[i] := List.getElem?_eq_getElem hi
    obtain ⟨c1, c2, hzi⟩ := hfmS i _ hxi
    have hb40 := hlS
    refine z_astore (L' := [(0, .ref k), (1, .int (nI 4)), (2, .int y), (3, .ref h), (4, .ref (k + 17 + 5 * xs.length)), (5, .ref (h + 4 + 5 * i))]) C d_K_load_82 (by decide) rfl ?_
    refine z_aload C d_K_load_84 rfl ?_
    refine z_ifnonnull (tgt := 92) C d_K_load_86 (by decide) ?_
    refine z_aload C d_K_load_92 rfl ?_
    refine z_aload C d_K_load_94 rfl ?_
    refine z_callV (rest := []) (n := 1) (As := [.ref (h + 4 + 5 * i)]) C (f_copy E X.2.1 sz _ hz0 hzi (by omega)) ⟨z_cb C k_F_copy ml_K_70 ii_F rfl rfl (by decide +kernel) ⟨by decide, by decide⟩, C.2.2.2.2.1 _ im_F_copy, C.2.2.2.2.1 _ se_F_copy⟩ hz0.1 rfl rfl rfl (Nat.le_of_ble_eq_true rfl) d_K_load_96 ⟨by decide, by decide⟩ ?_
    intro v_96 s_96 M1 hp_96
    obtain ⟨rfl, rfl, hz1, ho1⟩ := hp_96
    have hs1 := zsh_oR ho1 hs0 (by omega)
    have hk1 := (ho1 k (by omega)).trans (zU_eq (M := M))
    show Z _ _ _ _ _ _ _ _ 99 _ []
    refine z_iconst (v := 0) C d_K_load_99 (by decide) ?_
    exact z_iret C ⟨rfl, (fun x hq => (ho1 x (by omega)).trans (ho0 x (by omega))), Or.inl ⟨i, hi, hlab, rfl, _, hxi, zwk_mk H (fun _ _ => rfl) hx hz1 ⟨_, _, _, _, hs1⟩ hk1 (fun x q1 q2 q3 => (ho1 x (by omega)).trans (ho0 x (by omega)))⟩⟩ d_K_load_100
  · show Z _ _ _ _ _ _ _ _ 82 _ [.null]
    refine z_astoreN (L' := [(0, .ref k), (1, .int (nI 4)), (2, .int y), (3, .ref h), (4, .ref (k + 17 + 5 * xs.length)), (5, .null)]) C d_K_load_82 (by decide) rfl ?_
    refine z_aloadN C d_K_load_84 rfl ?_
    refine z_ifnonnullN C d_K_load_86 ?_
    refine z_bipush (v := -4) C d_K_load_89 (by decide) ?_
    exact z_iret C ⟨rfl, fun x hq => zU_ne (by omega), Or.inr ⟨hno, rfl, _, zwk_mk H (fun _ _ => rfl) hx hz0 ⟨_, _, _, _, hs0⟩ zU_eq (fun x q1 q2 q3 => zU_ne q1)⟩⟩ d_K_load_91
set_option maxHeartbeats 4000000 in
/-- Worker.load -/
theorem k_loadN (E : zE) (l : Launch) (sz : Nat) (M : zM) {k : Nat} {xs : List (PS × PS)} (H : zwk E M k xs) (hx : xs.length < 16) {h : Nat} {fs : List (PS × PS)} {ss : List Nat} {nb : Nat → Nat} {sc : Nat} (S : zsf E M h fs ss nb sc) (ah : k + 97 ≤ h ∨ h + 204 ≤ k) (n : Nat) (hn : n < 3) : zMet E l y_K_load c_K_load 6 (some .int) { frames := 3, cells := 0, slots := 0, locals := 64 } 0 0 [.ref k, .int (nI 3), .int (nI n), .ref h] sz M (fun v s M' => sz = s ∧ zoutR M M' k (k + 97) ∧ ((∃ i : Nat, i < fs.length ∧ nI (nb n) = nI (i + 1) ∧ some (.int 0) = v ∧ ∃ x, fs[i]? = some x ∧ zwk E M' k (xs ++ [x])) ∨ ((¬ ∃ i : Nat, i < fs.length ∧ nI (nb n) = nI (i + 1)) ∧ some (.int (-4)) = v ∧ ∃ xs', zwk E M' k xs'))) := by
  obtain ⟨ff, h0, h1, hl1, hff, hs, hfm, hal⟩ := id H
  obtain ⟨b1, b2, b3, b4, hz⟩ := hal xs.length hx
  refine zMet.ofZ (by decide) (Nat.le_of_ble_eq_true rfl) ?_
  intro X hl hini C
  show Z X E 6 _ 0 0 sz M 0 [(0, .ref k), (1, .int (nI 3)), (2, .int (nI n)), (3, .ref h)] []
  refine z_aload_n C d_K_load_0 rfl rfl ?_
  refine z_get C in_K h0 rfl 2 (by decide) fl_K_24 rfl rfl d_K_load_1 ?_
  refine z_bipush (v := nI 16) C d_K_load_4 (by decide) ?_
  refine z_icmp_lt (tgt := 12) C d_K_load_6 (by decide) (fun _ => ?_) (fun c_6 => absurd ((nI_ltI (by omega) (by decide)).mpr hx) c_6)
  refine z_aload_n C d_K_load_12 rfl rfl ?_
  refine z_get C in_K h0 rfl 1 (by decide) fl_K_20 rfl rfl d_K_load_13 ?_
  refine z_aload_n C d_K_load_16 rfl rfl ?_
  refine z_get C in_K h0 rfl 2 (by decide) fl_K_24 rfl rfl d_K_load_17 ?_
  refine z_aald C h1 3 rfl xs.length (rfl) (hx) (by decide) (congrArg va_rf (hff _ hx)) d_K_load_20 ?_
  refine z_astore (L' := [(0, .ref k), (1, .int (nI 3)), (2, .int (nI n)), (3, .ref h), (4, .ref (k + 17 + 5 * xs.length))]) C d_K_load_21 (by decide) rfl ?_
  refine z_aload_n C d_K_load_23 rfl rfl ?_
  refine z_dup C d_K_load_24 rfl ?_
  refine z_get C in_K h0 rfl 2 (by decide) fl_K_24 rfl rfl d_K_load_25 ?_
  refine z_iconst (v := 1) C d_K_load_28 (by decide) ?_
  refine z_iadd C d_K_load_29 ?_
  refine z_top (y := nI (xs.length + 1)) (nI_1 _) ?_
  refine z_put C in_K ty_K tok_K nm_K h0 rfl 2 (by decide) fl_K_24 rfl rfl rfl (rfl) (rfl) (Nat.le_of_ble_eq_true rfl) d_K_load_30 ?_
  show Z _ _ _ _ _ _ _ (zU M k (.inr (8, [.ref (k + 1), .ref (k + 16), .int (nI (xs.length + 1))]))) _ _ _
  have ho0 : zoutR M (zU M k (.inr (8, [.ref (k + 1), .ref (k + 16), .int (nI (xs.length + 1))]))) k (k + 1) := fun x hq => zU_ne (by omega)
  have hz0 := zf_oR ho0 hz (by omega)
  obtain ⟨sa, sb, sA, sB, hs⟩ := hs
  have hs0 := zsh_oR ho0 hs (by omega)
  have S0 := zsf_oR ho0 S (by omega)
  obtain ⟨gff, gsf, gnf, hS, gS1, gS2, gS3, ⟨hlS, -, -⟩, -, -, -, hfmS, -⟩ := id S0
  refine z_iload_n C d_K_load_33 rfl rfl ?_
  refine z_iconst (v := nI 1) C d_K_load_34 (by decide) ?_
  refine z_icmp_ne (tgt := 51) C d_K_load_35 (by decide) (fun _ => ?_) (fun c_35 => absurd c_35 (by decide))
  refine z_iload_n C d_K_load_51 rfl rfl ?_
  refine z_iconst (v := nI 2) C d_K_load_52 (by decide) ?_
  refine z_icmp_ne (tgt := 64) C d_K_load_53 (by decide) (fun _ => ?_) (fun c_53 => absurd c_53 (by decide))
  refine z_aload_n C d_K_load_64 rfl rfl ?_
  refine z_iload_n C d_K_load_65 rfl rfl ?_
  refine z_iconst (v := nI 3) C d_K_load_66 (by decide) ?_
  refine z_icmp_ne (tgt := 78) C d_K_load_67 (by decide) (fun c_67 => absurd c_67 (fun q => q rfl)) (fun _ => ?_)
  refine z_aload_n C d_K_load_70 rfl rfl ?_
  refine z_iload_n C d_K_load_71 rfl rfl ?_
  refine z_callV (rest := [.ref h]) (n := 1) (As := [.int (nI n)]) C (h_boundTo E X.2.1 sz _ S0 n hn) ⟨z_cb C k_H_labelBoundTo ml_K_60 ii_H rfl rfl (by decide +kernel) ⟨by decide, by decide⟩, C.2.2.2.2.1 _ im_H_labelBoundTo, C.2.2.2.2.1 _ se_H_labelBoundTo⟩ hS rfl rfl rfl (Nat.le_of_ble_eq_true rfl) d_K_load_72 ⟨by decide, by decide⟩ ?_
  intro v_72 s_72 M_72 hp_72
  obtain ⟨rfl, rfl, rfl⟩ := hp_72
  show Z _ _ _ _ _ _ _ _ 75 _ [.int (nI (nb n)), .ref h]
  refine z_goto (tgt := 79) C d_K_load_75 (by decide) ?_
  refine z_callV (rest := []) (n := 1) (As := [.int (nI (nb n))]) C (h_find E X.2.1 sz _ S0 (nI (nb n))) ⟨z_cb C k_H_find ml_K_66 ii_H rfl rfl (by decide +kernel) ⟨by decide, by decide⟩, C.2.2.2.2.1 _ im_H_find, C.2.2.2.2.1 _ se_H_find⟩ hS rfl rfl rfl (Nat.le_of_ble_eq_true rfl) d_K_load_79 ⟨by decide, by decide⟩ ?_
  intro v_79 s_79 M_79 hp_79
  obtain ⟨rfl, rfl, ⟨i, hi, hlab, rfl⟩ | ⟨hno, rfl⟩⟩ := hp_79
  · show Z _ _ _ _ _ _ _ _ 82 _ [.ref (h + 4 + 5 * i)]
    have hxi : fs[i]? = some fs[i] := List.getElem?_eq_getElem hi
    obtain ⟨c1, c2, hzi⟩ := hfmS i _ hxi
    have hb40 := hlS
    refine z_astore (L' := [(0, .ref k), (1, .int (nI 3)), (2, .int (nI n)), (3, .ref h), (4, .ref (k + 17 + 5 * xs.length)), (5, .ref (h + 4 + 5 * i))]) C d_K_load_82 (by decide) rfl ?_
    refine z_aload C d_K_load_84 rfl ?_
    refine z_ifnonnull (tgt := 92) C d_K_load_86 (by decide) ?_
    refine z_aload C d_K_load_92 rfl ?_
    refine z_aload C d_K_load_94 rfl ?_
    refine z_callV (rest := []) (n := 1) (As := [.ref (h + 4 + 5 * i)]) C (f_copy E X.2.1 sz _ hz0 hzi (by omega)) ⟨z_cb C k_F_copy ml_K_70 ii_F rfl rfl (by decide +kernel) ⟨by decide, by decide⟩, C.2.2.2.2.1 _ im_F_copy, C.2.2.2.2.1 _ se_F_copy⟩ hz0.1 rfl rfl rfl (Nat.le_of_ble_eq_true rfl) d_K_load_96 ⟨by decide, by decide⟩ ?_
    intro v_96 s_96 M1 hp_96
    obtain ⟨rfl, rfl, hz1, ho1⟩ := hp_96
    have hs1 := zsh_oR ho1 hs0 (by omega)
    have hk1 := (ho1 k (by omega)).trans (zU_eq (M := M))
    show Z _ _ _ _ _ _ _ _ 99 _ []
    refine z_iconst (v := 0) C d_K_load_99 (by decide) ?_
    exact z_iret C ⟨rfl, (fun x hq => (ho1 x (by omega)).trans (ho0 x (by omega))), Or.inl ⟨i, hi, hlab, rfl, _, hxi, zwk_mk H (fun _ _ => rfl) hx hz1 ⟨_, _, _, _, hs1⟩ hk1 (fun x q1 q2 q3 => (ho1 x (by omega)).trans (ho0 x (by omega)))⟩⟩ d_K_load_100
  · show Z _ _ _ _ _ _ _ _ 82 _ [.null]
    refine z_astoreN (L' := [(0, .ref k), (1, .int (nI 3)), (2, .int (nI n)), (3, .ref h), (4, .ref (k + 17 + 5 * xs.length)), (5, .null)]) C d_K_load_82 (by decide) rfl ?_
    refine z_aloadN C d_K_load_84 rfl ?_
    refine z_ifnonnullN C d_K_load_86 ?_
    refine z_bipush (v := -4) C d_K_load_89 (by decide) ?_
    exact z_iret C ⟨rfl, fun x hq => zU_ne (by omega), Or.inr ⟨hno, rfl, _, zwk_mk H (fun _ _ => rfl) hx hz0 ⟨_, _, _, _, hs0⟩ zU_eq (fun x q1 q2 q3 => zU_ne q1)⟩⟩ d_K_load_91
set_option maxHeartbeats 4000000 in
/-- Worker.result -/
theorem k_result (E : zE) (l : Launch) (sz : Nat) (M : zM) {k : Nat} {xs : List (PS × PS)} (H : zwk E M k xs) : zMet E l y_K_result c_K_result 1 (some (FieldType.object "RationalSession$Form")) { frames := 0, cells := 0, slots := 0, locals := 0 } 0 0 [.ref k] sz M (zRet (some (.ref (k + 17))) sz M) := by
  obtain ⟨ff, h0, h1, hl1, hff, hs, hfm, hal⟩ := id H
  refine zMet.ofZ (by decide) (Nat.le_of_ble_eq_true rfl) ?_
  intro X hl hini C
  show Z X E 1 _ 0 0 sz M 0 [(0, .ref k)] []
  refine z_aload_n C d_K_result_0 rfl rfl ?_
  refine z_get C in_K h0 rfl 1 (by decide) fl_K_20 rfl rfl d_K_result_1 ?_
  refine z_iconst (v := nI 0) C d_K_result_4 (by decide) ?_
  refine z_aald C h1 3 rfl 0 (rfl) (by decide) (by decide) (congrArg va_rf (hff 0 (by decide))) d_K_result_5 ?_
  exact z_aret C (Or.inl ⟨_, rfl⟩) (Or.inr ⟨_, rfl⟩) ⟨rfl, rfl, rfl⟩ d_K_result_6
end
section
/-! what an operation of the worker comes to -/
def bigF (x : PS × PS) : Prop := (∃ i, 12 < i ∧ x.1 i ≠ 0) ∨ ∃ i, 12 < i ∧ x.2 i ≠ 0
theorem zf_small {E : zE} {M : zM} {q kn kd : Nat} {N D : PS} (h : zf E M q kn kd N D) : ¬ bigF (N, D) := by
  have h1 := zp_lt h.2.1
  have h2 := zp_lt h.2.2
  rintro (⟨i, hi, e⟩ | ⟨i, hi, e⟩)
  · exact e ((zp_pol h.2.1).1 i (by omega))
  · exact e ((zp_pol h.2.2).1 i (by omega))
theorem isf_ne {n d : PS} (h : isform n d) : ∃ i, d i ≠ 0 := by
  obtain ⟨-, -, -, i, hi, -⟩ := h
  exact ⟨i, hi.1⟩
theorem mul_ne {a b : PS} (pa : pol a) (pb : pol b) (ha : ∃ i, a i ≠ 0) (hb : ∃ i, b i ≠ 0) : ∃ i, ps_mul a b i ≠ 0 := by
  obtain ⟨i, hi⟩ := ha
  obtain ⟨j, hj⟩ := hb
  rcases pol_dg pa with z | ⟨x, hx⟩
  · exact absurd (z i) hi
  · rcases pol_dg pb with z | ⟨y, hy⟩
    · exact absurd (z j) hj
    · exact ⟨_, (dg_mul hx hy).1.1⟩
theorem pow_ne {a : PS} (pa : pol a) (ha : ∃ i, a i ≠ 0) : ∀ n, ∃ i, ps_pow a n i ≠ 0 := by
  intro n
  induction n with
  | zero => exact ⟨0, by simp [ps_pow, ps_C]⟩
  | succ n ih => exact mul_ne (pol_pow pa n) pa ih ha
/-- the FORM of N / D, unless it is BIG -/
def setlR (E : zE) (M' : zM) (k : Nat) (v : Option Value) (ys : List (PS × PS)) (N D : PS) : Prop := ∃ x : PS × PS, formof N D x.1 x.2 ∧ ((bigF x ∧ some (.int (-6)) = v ∧ ∃ xs', zwk E M' k xs') ∨ (¬ bigF x ∧ some (.int 0) = v ∧ zwk E M' k (ys ++ [x])))
/-- the height of a FORM -/
def hts (x : PS × PS) (a : Nat) : Prop := (∀ i, a < i → x.1 i = 0) ∧ (∀ i, a < i → x.2 i = 0) ∧ (x.1 a ≠ 0 ∨ x.2 a ≠ 0)
theorem zf_hts {E : zE} {M : zM} {q kn kd : Nat} {x : PS × PS} (h : zf E M q kn kd x.1 x.2) (hd : 1 ≤ kd) : hts x (max kn kd - 1) := by
  refine ⟨fun i hi => (zp_pol h.2.1).1 i (by omega), fun i hi => (zp_pol h.2.2).1 i (by omega), ?_⟩
  rcases Nat.lt_or_ge kn kd with q | q
  · exact Or.inr ((zp_pol h.2.2).2 _ (by omega))
  · exact Or.inl ((zp_pol h.2.1).2 _ (by omega))
theorem zp_zero {E : zE} {M : zM} {a n k : Nat} {P : PS} (h : zp E M a n k P) (hk : k = 0) : ∀ i, P i = 0 := fun i => (zp_pol h).1 i (by omega)
theorem zp_nz {E : zE} {M : zM} {a n k : Nat} {P : PS} (h : zp E M a n k P) (hk : k ≠ 0) : ∃ i, P i ≠ 0 := ⟨k - 1, (zp_pol h).2 _ (by omega)⟩
end
section
set_option maxHeartbeats 4000000 in
/-- Worker.operate, 8 -/
theorem k_add (E : zE) (l : Launch) (sz : Nat) (M : zM) {k : Nat} {ys : List (PS × PS)} {l1 r1 : PS × PS} (H : zwk E M k (ys ++ [l1, r1])) (il : isform l1.1 l1.2) (ir : isform r1.1 r1.2) (y : Int32) : zMet E l y_K_operate c_K_operate 7 (some .int) { frames := 4, cells := 0, slots := 0, locals := 95 } 0 0 [.ref k, .int (nI 8), .int (y)] sz M (fun v s M' => sz = s ∧ zoutR M M' k (k + 97) ∧ (setlR E M' k v ys (ps_add (ps_mul l1.1 r1.2) (ps_mul (ps_C 1) (ps_mul r1.1 l1.2))) (ps_mul l1.2 r1.2))) := by
  obtain ⟨ff, h0, h1, hl0, hff, ⟨sa, sb, sA, sB, hs⟩, hfm, hal⟩ := id H
  have e9 : (ys ++ [l1, r1]).length = ys.length + 2 := by simp
  rw [e9] at h0 hl0
  obtain ⟨c1, c2, hzl⟩ := hfm ys.length l1 (by simp)
  obtain ⟨c3, c4, hzr⟩ := hfm (ys.length + 1) r1 (by rw [List.getElem?_append_right (by omega)]; simp)
  refine zMet.ofZ (by decide) (Nat.le_of_ble_eq_true rfl) ?_
  intro X hl hini C
  show Z X E 7 _ 0 0 sz M 0 [(0, .ref k), (1, .int (nI 8)), (2, .int y)] []
  refine z_iload_n C d_K_operate_0 rfl rfl ?_
  refine z_callS (rest := []) (n := 1) (As := [.int (nI 8)]) C (g_two E X.2.1 sz _ 8 (by decide)) ⟨z_cb C k_G_hasTwoSides ml_K_74 ii_G rfl rfl (by decide +kernel) ⟨by decide, by decide⟩, C.2.2.2.2.1 _ sm_G_hasTwoSides⟩ rfl rfl (Nat.le_of_ble_eq_true rfl) d_K_operate_1 ⟨by decide, by decide⟩ ?_
  intro v_1 s_1 M_1 hp_1
  obtain ⟨rfl, rfl, rfl⟩ := hp_1
  show Z _ _ _ _ _ _ _ _ 4 _ [.int (if 8 ≤ 8 then 1 else 0)]
  refine z_if_eq (tgt := 11) C d_K_operate_4 (by decide) (fun c_4 => absurd c_4 (by decide)) (fun _ => ?_)
  refine z_iconst (v := nI 2) C d_K_operate_7 (by decide) ?_
  refine z_goto (tgt := 12) C d_K_operate_8 (by decide) ?_
  refine z_istore_n (L' := [(0, .ref k), (1, .int (nI 8)), (2, .int y), (3, .int (nI 2))]) C d_K_operate_12 rfl (by decide) rfl ?_
  refine z_aload_n C d_K_operate_13 rfl rfl ?_
  refine z_get C in_K h0 rfl 2 (by decide) fl_K_24 rfl rfl d_K_operate_14 ?_
  refine z_iload_n C d_K_operate_17 rfl rfl ?_
  refine z_icmp_ge (tgt := 24) C d_K_operate_18 (by decide) (fun _ => ?_) (fun c_18 => absurd ((nI_leI (by decide) (by omega)).mpr (by omega)) c_18)
  refine z_aload_n C d_K_operate_24 rfl rfl ?_
  refine z_get C in_K h0 rfl 1 (by decide) fl_K_20 rfl rfl d_K_operate_25 ?_
  refine z_aload_n C d_K_operate_28 rfl rfl ?_
  refine z_get C in_K h0 rfl 2 (by decide) fl_K_24 rfl rfl d_K_operate_29 ?_
  refine z_iconst (v := nI 1) C d_K_operate_32 (by decide) ?_
  refine z_isub C d_K_operate_33 ?_
  refine z_top (y := nI (ys.length + 1)) (pk_sub (a := ys.length + 2) (b := 1) (by omega)) ?_
  refine z_aald C h1 3 rfl (ys.length + 1) (rfl) (by omega) (by decide) (congrArg va_rf (hff _ (by omega))) d_K_operate_34 ?_
  refine z_astore (L' := [(0, .ref k), (1, .int (nI 8)), (2, .int y), (3, .int (nI 2)), (4, .ref (k + 17 + 5 * (ys.length + 1)))]) C d_K_operate_35 (by decide) rfl ?_
  refine z_aload_n C d_K_operate_37 rfl rfl ?_
  refine z_get C in_K h0 rfl 1 (by decide) fl_K_20 rfl rfl d_K_operate_38 ?_
  refine z_aload_n C d_K_operate_41 rfl rfl ?_
  refine z_get C in_K h0 rfl 2 (by decide) fl_K_24 rfl rfl d_K_operate_42 ?_
  refine z_iload_n C d_K_operate_45 rfl rfl ?_
  refine z_isub C d_K_operate_46 ?_
  refine z_top (y := nI ys.length) (pk_sub (a := ys.length + 2) (b := 2) (by omega)) ?_
  refine z_aald C h1 3 rfl ys.length (rfl) (by omega) (by decide) (congrArg va_rf (hff _ (by omega))) d_K_operate_47 ?_
  refine z_astore (L' := [(0, .ref k), (1, .int (nI 8)), (2, .int y), (3, .int (nI 2)), (4, .ref (k + 17 + 5 * (ys.length + 1))), (5, .ref (k + 17 + 5 * ys.length))]) C d_K_operate_48 (by decide) rfl ?_
  refine z_aload_n C d_K_operate_50 rfl rfl ?_
  refine z_aload_n C d_K_operate_51 rfl rfl ?_
  refine z_get C in_K h0 rfl 2 (by decide) fl_K_24 rfl rfl d_K_operate_52 ?_
  refine z_iload_n C d_K_operate_55 rfl rfl ?_
  refine z_isub C d_K_operate_56 ?_
  refine z_top (y := nI ys.length) (pk_sub (a := ys.length + 2) (b := 2) (by omega)) ?_
  refine z_iconst (v := 1) C d_K_operate_57 (by decide) ?_
  refine z_iadd C d_K_operate_58 ?_
  refine z_top (y := nI (ys.length + 1)) (nI_1 _) ?_
  refine z_put C in_K ty_K tok_K nm_K h0 rfl 2 (by decide) fl_K_24 rfl rfl rfl (rfl) (rfl) (Nat.le_of_ble_eq_true rfl) d_K_operate_59 ?_
  show Z _ _ _ _ _ _ _ (zU M k (.inr (8, [.ref (k + 1), .ref (k + 16), .int (nI (ys.length + 1))]))) _ _ _
  have ho0 : zoutR M (zU M k (.inr (8, [.ref (k + 1), .ref (k + 16), .int (nI (ys.length + 1))]))) k (k + 1) := fun x hq => zU_ne (by omega)
  have hk0 : (zU M k (.inr (8, [.ref (k + 1), .ref (k + 16), .int (nI (ys.length + 1))]))) k = _ := zU_eq
  have hz0 := zf_oR ho0 hzl (by omega)
  have hs0 := zsh_oR ho0 hs (by omega)
  have hr0 := zf_oR ho0 hzr (by omega)
  refine z_iconst (v := nI 0) C d_K_operate_62 (by decide) ?_
  refine z_istore (L' := [(0, .ref k), (1, .int (nI 8)), (2, .int y), (3, .int (nI 2)), (4, .ref (k + 17 + 5 * (ys.length + 1))), (5, .ref (k + 17 + 5 * ys.length)), (6, .int (nI 0))]) C d_K_operate_63 (by decide) rfl ?_
  refine z_iload_n C d_K_operate_65 rfl rfl ?_
  refine z_tableIn (off := 46) (tgt := 112) C d_K_operate_66 (by decide) (by decide) (by decide) (by decide) ?_
  refine z_aload_n C d_K_operate_112 rfl rfl ?_
  refine z_get C in_K zU_eq rfl 0 (by decide) fl_K_12 rfl rfl d_K_operate_113 ?_
  refine z_aload C d_K_operate_116 rfl ?_
  refine z_aload C d_K_operate_118 rfl ?_
  refine z_iconst (v := fI 1) C d_K_operate_120 (by decide) ?_
  refine z_callV (rest := []) (n := 3) (As := [.ref (k + 17 + 5 * ys.length), .ref (k + 17 + 5 * (ys.length + 1)), .int (fI 1)]) C (w_add E X.2.1 sz _ hs0 hz0 (by omega) hr0 (by omega) 1) ⟨z_cb C k_W_add ml_K_77 ii_W rfl rfl (by decide +kernel) ⟨by decide, by decide⟩, C.2.2.2.2.1 _ im_W_add, C.2.2.2.2.1 _ se_W_add⟩ hs0.1 rfl rfl rfl (Nat.le_of_ble_eq_true rfl) d_K_operate_121 ⟨by decide, by decide⟩ ?_
  intro v_w s_w M1 hp_w
  obtain ⟨rfl, rfl, ⟨wx, wy, hs1⟩, ho1⟩ := hp_w
  have hz1 := zf_oR ho1 hz0 (by omega)
  have hk1 := (ho1 k (by omega)).trans hk0
  show Z _ _ _ _ _ _ _ _ 124 _ []
  refine z_goto (tgt := 226) C d_K_operate_124 (by decide) ?_
  refine z_iload C d_K_operate_226 rfl ?_
  refine z_if_ne (tgt := 243) C d_K_operate_228 (by decide) (fun c_228 => absurd c_228 (fun q => q (by decide))) (fun _ => ?_)
  refine z_aload_n C d_K_operate_231 rfl rfl ?_
  refine z_get C in_K hk1 rfl 0 (by decide) fl_K_12 rfl rfl d_K_operate_232 ?_
  refine z_aload C d_K_operate_235 rfl ?_
  obtain ⟨i9, hi9⟩ := mul_ne il.2.1 ir.2.1 (isf_ne il) (isf_ne ir)
  have hkd := zp_pos hs1.2.2.1 hi9
  refine z_callV (rest := []) (n := 1) (As := [.ref (k + 17 + 5 * ys.length)]) C (w_settle E X.2.1 sz _ hs1 hkd hz1 (by omega)) ⟨z_cb C k_W_settle ml_K_102 ii_W rfl rfl (by decide +kernel) ⟨by decide, by decide⟩, C.2.2.2.2.1 _ im_W_settle, C.2.2.2.2.1 _ se_W_settle⟩ hs1.1 rfl rfl rfl (Nat.le_of_ble_eq_true rfl) d_K_operate_237 ⟨by decide, by decide⟩ ?_
  intro v_t s_t M2 hp_t
  obtain ⟨rfl, ⟨tx, ty, tA, tB, hs2⟩, hfr2, fn, fd, hfo, hcase⟩ := hp_t
  have hk2 := (hfr2 k (by omega) (by omega)).trans hk1
  have hframe : zoutR M M2 k (k + 97) := fun x hq => (hfr2 x (by omega) (by omega)).trans ((ho1 x (by omega)).trans (ho0 x (by omega)))
  have hfx : ∀ x, x ≠ k → (x < k + 1 ∨ k + 16 ≤ x) → (x < k + 17 + 5 * ys.length + 1 ∨ k + 17 + 5 * ys.length + 5 ≤ x) → M2 x = M x := fun x q1 q2 q3 => (hfr2 x (by omega) (by omega)).trans ((ho1 x (by omega)).trans (ho0 x (by omega)))
  have hyy : ∀ i : Nat, i < ys.length → (ys ++ [l1, r1])[i]? = ys[i]? := fun i hi => List.getElem?_append_left hi
  rcases hcase with ⟨rfl, hbig, ho9⟩ | ⟨rfl, ka, kb, hz2⟩
  · have hz2 := zf_oR ho9 hz1 (by omega)
    show Z _ _ _ _ _ _ _ _ 240 _ [.int (-6)]
    refine z_goto (tgt := 245) C d_K_operate_240 (by decide) ?_
    exact z_iret C ⟨rfl, hframe, ⟨(fn, fd), hfo, Or.inl ⟨hbig, rfl, _, zwk_mk H hyy (by omega) hz2 ⟨_, _, _, _, hs2⟩ hk2 hfx⟩⟩⟩ d_K_operate_245
  · show Z _ _ _ _ _ _ _ _ 240 _ [.int 0]
    refine z_goto (tgt := 245) C d_K_operate_240 (by decide) ?_
    exact z_iret C ⟨rfl, hframe, ⟨(fn, fd), hfo, Or.inr ⟨zf_small hz2, rfl, zwk_mk H hyy (by omega) hz2 ⟨_, _, _, _, hs2⟩ hk2 hfx⟩⟩⟩ d_K_operate_245
set_option maxHeartbeats 4000000 in
/-- Worker.operate, 9 -/
theorem k_sub (E : zE) (l : Launch) (sz : Nat) (M : zM) {k : Nat} {ys : List (PS × PS)} {l1 r1 : PS × PS} (H : zwk E M k (ys ++ [l1, r1])) (il : isform l1.1 l1.2) (ir : isform r1.1 r1.2) (y : Int32) : zMet E l y_K_operate c_K_operate 7 (some .int) { frames := 4, cells := 0, slots := 0, locals := 95 } 0 0 [.ref k, .int (nI 9), .int (y)] sz M (fun v s M' => sz = s ∧ zoutR M M' k (k + 97) ∧ (setlR E M' k v ys (ps_add (ps_mul l1.1 r1.2) (ps_mul (ps_C 10006) (ps_mul r1.1 l1.2))) (ps_mul l1.2 r1.2))) := by
  obtain ⟨ff, h0, h1, hl0, hff, ⟨sa, sb, sA, sB, hs⟩, hfm, hal⟩ := id H
  have e9 : (ys ++ [l1, r1]).length = ys.length + 2 := by simp
  rw [e9] at h0 hl0
  obtain ⟨c1, c2, hzl⟩ := hfm ys.length l1 (by simp)
  obtain ⟨c3, c4, hzr⟩ := hfm (ys.length + 1) r1 (by rw [List.getElem?_append_right (by omega)]; simp)
  refine zMet.ofZ (by decide) (Nat.le_of_ble_eq_true rfl) ?_
  intro X hl hini C
  show Z X E 7 _ 0 0 sz M 0 [(0, .ref k), (1, .int (nI 9)), (2, .int y)] []
  refine z_iload_n C d_K_operate_0 rfl rfl ?_
  refine z_callS (rest := []) (n := 1) (As := [.int (nI 9)]) C (g_two E X.2.1 sz _ 9 (by decide)) ⟨z_cb C k_G_hasTwoSides ml_K_74 ii_G rfl rfl (by decide +kernel) ⟨by decide, by decide⟩, C.2.2.2.2.1 _ sm_G_hasTwoSides⟩ rfl rfl (Nat.le_of_ble_eq_true rfl) d_K_operate_1 ⟨by decide, by decide⟩ ?_
  intro v_1 s_1 M_1 hp_1
  obtain ⟨rfl, rfl, rfl⟩ := hp_1
  show Z _ _ _ _ _ _ _ _ 4 _ [.int (if 8 ≤ 9 then 1 else 0)]
  refine z_if_eq (tgt := 11) C d_K_operate_4 (by decide) (fun c_4 => absurd c_4 (by decide)) (fun _ => ?_)
  refine z_iconst (v := nI 2) C d_K_operate_7 (by decide) ?_
  refine z_goto (tgt := 12) C d_K_operate_8 (by decide) ?_
  refine z_istore_n (L' := [(0, .ref k), (1, .int (nI 9)), (2, .int y), (3, .int (nI 2))]) C d_K_operate_12 rfl (by decide) rfl ?_
  refine z_aload_n C d_K_operate_13 rfl rfl ?_
  refine z_get C in_K h0 rfl 2 (by decide) fl_K_24 rfl rfl d_K_operate_14 ?_
  refine z_iload_n C d_K_operate_17 rfl rfl ?_
  refine z_icmp_ge (tgt := 24) C d_K_operate_18 (by decide) (fun _ => ?_) (fun c_18 => absurd ((nI_leI (by decide) (by omega)).mpr (by omega)) c_18)
  refine z_aload_n C d_K_operate_24 rfl rfl ?_
  refine z_get C in_K h0 rfl 1 (by decide) fl_K_20 rfl rfl d_K_operate_25 ?_
  refine z_aload_n C d_K_operate_28 rfl rfl ?_
  refine z_get C in_K h0 rfl 2 (by decide) fl_K_24 rfl rfl d_K_operate_29 ?_
  refine z_iconst (v := nI 1) C d_K_operate_32 (by decide) ?_
  refine z_isub C d_K_operate_33 ?_
  refine z_top (y := nI (ys.length + 1)) (pk_sub (a := ys.length + 2) (b := 1) (by omega)) ?_
  refine z_aald C h1 3 rfl (ys.length + 1) (rfl) (by omega) (by decide) (congrArg va_rf (hff _ (by omega))) d_K_operate_34 ?_
  refine z_astore (L' := [(0, .ref k), (1, .int (nI 9)), (2, .int y), (3, .int (nI 2)), (4, .ref (k + 17 + 5 * (ys.length + 1)))]) C d_K_operate_35 (by decide) rfl ?_
  refine z_aload_n C d_K_operate_37 rfl rfl ?_
  refine z_get C in_K h0 rfl 1 (by decide) fl_K_20 rfl rfl d_K_operate_38 ?_
  refine z_aload_n C d_K_operate_41 rfl rfl ?_
  refine z_get C in_K h0 rfl 2 (by decide) fl_K_24 rfl rfl d_K_operate_42 ?_
  refine z_iload_n C d_K_operate_45 rfl rfl ?_
  refine z_isub C d_K_operate_46 ?_
  refine z_top (y := nI ys.length) (pk_sub (a := ys.length + 2) (b := 2) (by omega)) ?_
  refine z_aald C h1 3 rfl ys.length (rfl) (by omega) (by decide) (congrArg va_rf (hff _ (by omega))) d_K_operate_47 ?_
  refine z_astore (L' := [(0, .ref k), (1, .int (nI 9)), (2, .int y), (3, .int (nI 2)), (4, .ref (k + 17 + 5 * (ys.length + 1))), (5, .ref (k + 17 + 5 * ys.length))]) C d_K_operate_48 (by decide) rfl ?_
  refine z_aload_n C d_K_operate_50 rfl rfl ?_
  refine z_aload_n C d_K_operate_51 rfl rfl ?_
  refine z_get C in_K h0 rfl 2 (by decide) fl_K_24 rfl rfl d_K_operate_52 ?_
  refine z_iload_n C d_K_operate_55 rfl rfl ?_
  refine z_isub C d_K_operate_56 ?_
  refine z_top (y := nI ys.length) (pk_sub (a := ys.length + 2) (b := 2) (by omega)) ?_
  refine z_iconst (v := 1) C d_K_operate_57 (by decide) ?_
  refine z_iadd C d_K_operate_58 ?_
  refine z_top (y := nI (ys.length + 1)) (nI_1 _) ?_
  refine z_put C in_K ty_K tok_K nm_K h0 rfl 2 (by decide) fl_K_24 rfl rfl rfl (rfl) (rfl) (Nat.le_of_ble_eq_true rfl) d_K_operate_59 ?_
  show Z _ _ _ _ _ _ _ (zU M k (.inr (8, [.ref (k + 1), .ref (k + 16), .int (nI (ys.length + 1))]))) _ _ _
  have ho0 : zoutR M (zU M k (.inr (8, [.ref (k + 1), .ref (k + 16), .int (nI (ys.length + 1))]))) k (k + 1) := fun x hq => zU_ne (by omega)
  have hk0 : (zU M k (.inr (8, [.ref (k + 1), .ref (k + 16), .int (nI (ys.length + 1))]))) k = _ := zU_eq
  have hz0 := zf_oR ho0 hzl (by omega)
  have hs0 := zsh_oR ho0 hs (by omega)
  have hr0 := zf_oR ho0 hzr (by omega)
  refine z_iconst (v := nI 0) C d_K_operate_62 (by decide) ?_
  refine z_istore (L' := [(0, .ref k), (1, .int (nI 9)), (2, .int y), (3, .int (nI 2)), (4, .ref (k + 17 + 5 * (ys.length + 1))), (5, .ref (k + 17 + 5 * ys.length)), (6, .int (nI 0))]) C d_K_operate_63 (by decide) rfl ?_
  refine z_iload_n C d_K_operate_65 rfl rfl ?_
  refine z_tableIn (off := 61) (tgt := 127) C d_K_operate_66 (by decide) (by decide) (by decide) (by decide) ?_
  refine z_aload_n C d_K_operate_127 rfl rfl ?_
  refine z_get C in_K zU_eq rfl 0 (by decide) fl_K_12 rfl rfl d_K_operate_128 ?_
  refine z_aload C d_K_operate_131 rfl ?_
  refine z_aload C d_K_operate_133 rfl ?_
  refine z_sipush (v := fI 10006) C d_K_operate_135 (by decide) ?_
  refine z_callV (rest := []) (n := 3) (As := [.ref (k + 17 + 5 * ys.length), .ref (k + 17 + 5 * (ys.length + 1)), .int (fI 10006)]) C (w_add E X.2.1 sz _ hs0 hz0 (by omega) hr0 (by omega) 10006) ⟨z_cb C k_W_add ml_K_77 ii_W rfl rfl (by decide +kernel) ⟨by decide, by decide⟩, C.2.2.2.2.1 _ im_W_add, C.2.2.2.2.1 _ se_W_add⟩ hs0.1 rfl rfl rfl (Nat.le_of_ble_eq_true rfl) d_K_operate_138 ⟨by decide, by decide⟩ ?_
  intro v_w s_w M1 hp_w
  obtain ⟨rfl, rfl, ⟨wx, wy, hs1⟩, ho1⟩ := hp_w
  have hz1 := zf_oR ho1 hz0 (by omega)
  have hk1 := (ho1 k (by omega)).trans hk0
  show Z _ _ _ _ _ _ _ _ 141 _ []
  refine z_goto (tgt := 226) C d_K_operate_141 (by decide) ?_
  refine z_iload C d_K_operate_226 rfl ?_
  refine z_if_ne (tgt := 243) C d_K_operate_228 (by decide) (fun c_228 => absurd c_228 (fun q => q (by decide))) (fun _ => ?_)
  refine z_aload_n C d_K_operate_231 rfl rfl ?_
  refine z_get C in_K hk1 rfl 0 (by decide) fl_K_12 rfl rfl d_K_operate_232 ?_
  refine z_aload C d_K_operate_235 rfl ?_
  obtain ⟨i9, hi9⟩ := mul_ne il.2.1 ir.2.1 (isf_ne il) (isf_ne ir)
  have hkd := zp_pos hs1.2.2.1 hi9
  refine z_callV (rest := []) (n := 1) (As := [.ref (k + 17 + 5 * ys.length)]) C (w_settle E X.2.1 sz _ hs1 hkd hz1 (by omega)) ⟨z_cb C k_W_settle ml_K_102 ii_W rfl rfl (by decide +kernel) ⟨by decide, by decide⟩, C.2.2.2.2.1 _ im_W_settle, C.2.2.2.2.1 _ se_W_settle⟩ hs1.1 rfl rfl rfl (Nat.le_of_ble_eq_true rfl) d_K_operate_237 ⟨by decide, by decide⟩ ?_
  intro v_t s_t M2 hp_t
  obtain ⟨rfl, ⟨tx, ty, tA, tB, hs2⟩, hfr2, fn, fd, hfo, hcase⟩ := hp_t
  have hk2 := (hfr2 k (by omega) (by omega)).trans hk1
  have hframe : zoutR M M2 k (k + 97) := fun x hq => (hfr2 x (by omega) (by omega)).trans ((ho1 x (by omega)).trans (ho0 x (by omega)))
  have hfx : ∀ x, x ≠ k → (x < k + 1 ∨ k + 16 ≤ x) → (x < k + 17 + 5 * ys.length + 1 ∨ k + 17 + 5 * ys.length + 5 ≤ x) → M2 x = M x := fun x q1 q2 q3 => (hfr2 x (by omega) (by omega)).trans ((ho1 x (by omega)).trans (ho0 x (by omega)))
  have hyy : ∀ i : Nat, i < ys.length → (ys ++ [l1, r1])[i]? = ys[i]? := fun i hi => List.getElem?_append_left hi
  rcases hcase with ⟨rfl, hbig, ho9⟩ | ⟨rfl, ka, kb, hz2⟩
  · have hz2 := zf_oR ho9 hz1 (by omega)
    show Z _ _ _ _ _ _ _ _ 240 _ [.int (-6)]
    refine z_goto (tgt := 245) C d_K_operate_240 (by decide) ?_
    exact z_iret C ⟨rfl, hframe, ⟨(fn, fd), hfo, Or.inl ⟨hbig, rfl, _, zwk_mk H hyy (by omega) hz2 ⟨_, _, _, _, hs2⟩ hk2 hfx⟩⟩⟩ d_K_operate_245
  · show Z _ _ _ _ _ _ _ _ 240 _ [.int 0]
    refine z_goto (tgt := 245) C d_K_operate_240 (by decide) ?_
    exact z_iret C ⟨rfl, hframe, ⟨(fn, fd), hfo, Or.inr ⟨zf_small hz2, rfl, zwk_mk H hyy (by omega) hz2 ⟨_, _, _, _, hs2⟩ hk2 hfx⟩⟩⟩ d_K_operate_245
set_option maxHeartbeats 4000000 in
/-- Worker.operate, 10 -/
theorem k_mul (E : zE) (l : Launch) (sz : Nat) (M : zM) {k : Nat} {ys : List (PS × PS)} {l1 r1 : PS × PS} (H : zwk E M k (ys ++ [l1, r1])) (il : isform l1.1 l1.2) (ir : isform r1.1 r1.2) (y : Int32) : zMet E l y_K_operate c_K_operate 7 (some .int) { frames := 4, cells := 0, slots := 0, locals := 95 } 0 0 [.ref k, .int (nI 10), .int (y)] sz M (fun v s M' => sz = s ∧ zoutR M M' k (k + 97) ∧ (setlR E M' k v ys (ps_mul l1.1 r1.1) (ps_mul l1.2 r1.2))) := by
  obtain ⟨ff, h0, h1, hl0, hff, ⟨sa, sb, sA, sB, hs⟩, hfm, hal⟩ := id H
  have e9 : (ys ++ [l1, r1]).length = ys.length + 2 := by simp
  rw [e9] at h0 hl0
  obtain ⟨c1, c2, hzl⟩ := hfm ys.length l1 (by simp)
  obtain ⟨c3, c4, hzr⟩ := hfm (ys.length + 1) r1 (by rw [List.getElem?_append_right (by omega)]; simp)
  refine zMet.ofZ (by decide) (Nat.le_of_ble_eq_true rfl) ?_
  intro X hl hini C
  show Z X E 7 _ 0 0 sz M 0 [(0, .ref k), (1, .int (nI 10)), (2, .int y)] []
  refine z_iload_n C d_K_operate_0 rfl rfl ?_
  refine z_callS (rest := []) (n := 1) (As := [.int (nI 10)]) C (g_two E X.2.1 sz _ 10 (by decide)) ⟨z_cb C k_G_hasTwoSides ml_K_74 ii_G rfl rfl (by decide +kernel) ⟨by decide, by decide⟩, C.2.2.2.2.1 _ sm_G_hasTwoSides⟩ rfl rfl (Nat.le_of_ble_eq_true rfl) d_K_operate_1 ⟨by decide, by decide⟩ ?_
  intro v_1 s_1 M_1 hp_1
  obtain ⟨rfl, rfl, rfl⟩ := hp_1
  show Z _ _ _ _ _ _ _ _ 4 _ [.int (if 8 ≤ 10 then 1 else 0)]
  refine z_if_eq (tgt := 11) C d_K_operate_4 (by decide) (fun c_4 => absurd c_4 (by decide)) (fun _ => ?_)
  refine z_iconst (v := nI 2) C d_K_operate_7 (by decide) ?_
  refine z_goto (tgt := 12) C d_K_operate_8 (by decide) ?_
  refine z_istore_n (L' := [(0, .ref k), (1, .int (nI 10)), (2, .int y), (3, .int (nI 2))]) C d_K_operate_12 rfl (by decide) rfl ?_
  refine z_aload_n C d_K_operate_13 rfl rfl ?_
  refine z_get C in_K h0 rfl 2 (by decide) fl_K_24 rfl rfl d_K_operate_14 ?_
  refine z_iload_n C d_K_operate_17 rfl rfl ?_
  refine z_icmp_ge (tgt := 24) C d_K_operate_18 (by decide) (fun _ => ?_) (fun c_18 => absurd ((nI_leI (by decide) (by omega)).mpr (by omega)) c_18)
  refine z_aload_n C d_K_operate_24 rfl rfl ?_
  refine z_get C in_K h0 rfl 1 (by decide) fl_K_20 rfl rfl d_K_operate_25 ?_
  refine z_aload_n C d_K_operate_28 rfl rfl ?_
  refine z_get C in_K h0 rfl 2 (by decide) fl_K_24 rfl rfl d_K_operate_29 ?_
  refine z_iconst (v := nI 1) C d_K_operate_32 (by decide) ?_
  refine z_isub C d_K_operate_33 ?_
  refine z_top (y := nI (ys.length + 1)) (pk_sub (a := ys.length + 2) (b := 1) (by omega)) ?_
  refine z_aald C h1 3 rfl (ys.length + 1) (rfl) (by omega) (by decide) (congrArg va_rf (hff _ (by omega))) d_K_operate_34 ?_
  refine z_astore (L' := [(0, .ref k), (1, .int (nI 10)), (2, .int y), (3, .int (nI 2)), (4, .ref (k + 17 + 5 * (ys.length + 1)))]) C d_K_operate_35 (by decide) rfl ?_
  refine z_aload_n C d_K_operate_37 rfl rfl ?_
  refine z_get C in_K h0 rfl 1 (by decide) fl_K_20 rfl rfl d_K_operate_38 ?_
  refine z_aload_n C d_K_operate_41 rfl rfl ?_
  refine z_get C in_K h0 rfl 2 (by decide) fl_K_24 rfl rfl d_K_operate_42 ?_
  refine z_iload_n C d_K_operate_45 rfl rfl ?_
  refine z_isub C d_K_operate_46 ?_
  refine z_top (y := nI ys.length) (pk_sub (a := ys.length + 2) (b := 2) (by omega)) ?_
  refine z_aald C h1 3 rfl ys.length (rfl) (by omega) (by decide) (congrArg va_rf (hff _ (by omega))) d_K_operate_47 ?_
  refine z_astore (L' := [(0, .ref k), (1, .int (nI 10)), (2, .int y), (3, .int (nI 2)), (4, .ref (k + 17 + 5 * (ys.length + 1))), (5, .ref (k + 17 + 5 * ys.length))]) C d_K_operate_48 (by decide) rfl ?_
  refine z_aload_n C d_K_operate_50 rfl rfl ?_
  refine z_aload_n C d_K_operate_51 rfl rfl ?_
  refine z_get C in_K h0 rfl 2 (by decide) fl_K_24 rfl rfl d_K_operate_52 ?_
  refine z_iload_n C d_K_operate_55 rfl rfl ?_
  refine z_isub C d_K_operate_56 ?_
  refine z_top (y := nI ys.length) (pk_sub (a := ys.length + 2) (b := 2) (by omega)) ?_
  refine z_iconst (v := 1) C d_K_operate_57 (by decide) ?_
  refine z_iadd C d_K_operate_58 ?_
  refine z_top (y := nI (ys.length + 1)) (nI_1 _) ?_
  refine z_put C in_K ty_K tok_K nm_K h0 rfl 2 (by decide) fl_K_24 rfl rfl rfl (rfl) (rfl) (Nat.le_of_ble_eq_true rfl) d_K_operate_59 ?_
  show Z _ _ _ _ _ _ _ (zU M k (.inr (8, [.ref (k + 1), .ref (k + 16), .int (nI (ys.length + 1))]))) _ _ _
  have ho0 : zoutR M (zU M k (.inr (8, [.ref (k + 1), .ref (k + 16), .int (nI (ys.length + 1))]))) k (k + 1) := fun x hq => zU_ne (by omega)
  have hk0 : (zU M k (.inr (8, [.ref (k + 1), .ref (k + 16), .int (nI (ys.length + 1))]))) k = _ := zU_eq
  have hz0 := zf_oR ho0 hzl (by omega)
  have hs0 := zsh_oR ho0 hs (by omega)
  have hr0 := zf_oR ho0 hzr (by omega)
  refine z_iconst (v := nI 0) C d_K_operate_62 (by decide) ?_
  refine z_istore (L' := [(0, .ref k), (1, .int (nI 10)), (2, .int y), (3, .int (nI 2)), (4, .ref (k + 17 + 5 * (ys.length + 1))), (5, .ref (k + 17 + 5 * ys.length)), (6, .int (nI 0))]) C d_K_operate_63 (by decide) rfl ?_
  refine z_iload_n C d_K_operate_65 rfl rfl ?_
  refine z_tableIn (off := 78) (tgt := 144) C d_K_operate_66 (by decide) (by decide) (by decide) (by decide) ?_
  refine z_aload_n C d_K_operate_144 rfl rfl ?_
  refine z_get C in_K zU_eq rfl 0 (by decide) fl_K_12 rfl rfl d_K_operate_145 ?_
  refine z_aload C d_K_operate_148 rfl ?_
  refine z_aload C d_K_operate_150 rfl ?_
  refine z_callV (rest := []) (n := 2) (As := [.ref (k + 17 + 5 * ys.length), .ref (k + 17 + 5 * (ys.length + 1))]) C (w_multiply E X.2.1 sz _ hs0 hz0 (by omega) hr0 (by omega)) ⟨z_cb C k_W_multiply ml_K_81 ii_W rfl rfl (by decide +kernel) ⟨by decide, by decide⟩, C.2.2.2.2.1 _ im_W_multiply, C.2.2.2.2.1 _ se_W_multiply⟩ hs0.1 rfl rfl rfl (Nat.le_of_ble_eq_true rfl) d_K_operate_152 ⟨by decide, by decide⟩ ?_
  intro v_w s_w M1 hp_w
  obtain ⟨rfl, rfl, ⟨wx, wy, hs1⟩, ho1⟩ := hp_w
  have hz1 := zf_oR ho1 hz0 (by omega)
  have hk1 := (ho1 k (by omega)).trans hk0
  show Z _ _ _ _ _ _ _ _ 155 _ []
  refine z_goto (tgt := 226) C d_K_operate_155 (by decide) ?_
  refine z_iload C d_K_operate_226 rfl ?_
  refine z_if_ne (tgt := 243) C d_K_operate_228 (by decide) (fun c_228 => absurd c_228 (fun q => q (by decide))) (fun _ => ?_)
  refine z_aload_n C d_K_operate_231 rfl rfl ?_
  refine z_get C in_K hk1 rfl 0 (by decide) fl_K_12 rfl rfl d_K_operate_232 ?_
  refine z_aload C d_K_operate_235 rfl ?_
  obtain ⟨i9, hi9⟩ := mul_ne il.2.1 ir.2.1 (isf_ne il) (isf_ne ir)
  have hkd := zp_pos hs1.2.2.1 hi9
  refine z_callV (rest := []) (n := 1) (As := [.ref (k + 17 + 5 * ys.length)]) C (w_settle E X.2.1 sz _ hs1 hkd hz1 (by omega)) ⟨z_cb C k_W_settle ml_K_102 ii_W rfl rfl (by decide +kernel) ⟨by decide, by decide⟩, C.2.2.2.2.1 _ im_W_settle, C.2.2.2.2.1 _ se_W_settle⟩ hs1.1 rfl rfl rfl (Nat.le_of_ble_eq_true rfl) d_K_operate_237 ⟨by decide, by decide⟩ ?_
  intro v_t s_t M2 hp_t
  obtain ⟨rfl, ⟨tx, ty, tA, tB, hs2⟩, hfr2, fn, fd, hfo, hcase⟩ := hp_t
  have hk2 := (hfr2 k (by omega) (by omega)).trans hk1
  have hframe : zoutR M M2 k (k + 97) := fun x hq => (hfr2 x (by omega) (by omega)).trans ((ho1 x (by omega)).trans (ho0 x (by omega)))
  have hfx : ∀ x, x ≠ k → (x < k + 1 ∨ k + 16 ≤ x) → (x < k + 17 + 5 * ys.length + 1 ∨ k + 17 + 5 * ys.length + 5 ≤ x) → M2 x = M x := fun x q1 q2 q3 => (hfr2 x (by omega) (by omega)).trans ((ho1 x (by omega)).trans (ho0 x (by omega)))
  have hyy : ∀ i : Nat, i < ys.length → (ys ++ [l1, r1])[i]? = ys[i]? := fun i hi => List.getElem?_append_left hi
  rcases hcase with ⟨rfl, hbig, ho9⟩ | ⟨rfl, ka, kb, hz2⟩
  · have hz2 := zf_oR ho9 hz1 (by omega)
    show Z _ _ _ _ _ _ _ _ 240 _ [.int (-6)]
    refine z_goto (tgt := 245) C d_K_operate_240 (by decide) ?_
    exact z_iret C ⟨rfl, hframe, ⟨(fn, fd), hfo, Or.inl ⟨hbig, rfl, _, zwk_mk H hyy (by omega) hz2 ⟨_, _, _, _, hs2⟩ hk2 hfx⟩⟩⟩ d_K_operate_245
  · show Z _ _ _ _ _ _ _ _ 240 _ [.int 0]
    refine z_goto (tgt := 245) C d_K_operate_240 (by decide) ?_
    exact z_iret C ⟨rfl, hframe, ⟨(fn, fd), hfo, Or.inr ⟨zf_small hz2, rfl, zwk_mk H hyy (by omega) hz2 ⟨_, _, _, _, hs2⟩ hk2 hfx⟩⟩⟩ d_K_operate_245
set_option maxHeartbeats 4000000 in
/-- Worker.operate, 7 -/
theorem k_der (E : zE) (l : Launch) (sz : Nat) (M : zM) {k : Nat} {ys : List (PS × PS)} {l1 : PS × PS} (H : zwk E M k (ys ++ [l1])) (il : isform l1.1 l1.2) (y : Int32) : zMet E l y_K_operate c_K_operate 7 (some .int) { frames := 4, cells := 0, slots := 0, locals := 95 } 0 0 [.ref k, .int (nI 7), .int (y)] sz M (fun v s M' => sz = s ∧ zoutR M M' k (k + 97) ∧ (setlR E M' k v ys (ps_add (ps_mul (ps_der l1.1) l1.2) (ps_mul (ps_C 10006) (ps_mul l1.1 (ps_der l1.2)))) (ps_mul l1.2 l1.2))) := by
  obtain ⟨ff, h0, h1, hl0, hff, ⟨sa, sb, sA, sB, hs⟩, hfm, hal⟩ := id H
  have e9 : (ys ++ [l1]).length = ys.length + 1 := by simp
  rw [e9] at h0 hl0
  obtain ⟨c1, c2, hzl⟩ := hfm ys.length l1 (by simp)
  refine zMet.ofZ (by decide) (Nat.le_of_ble_eq_true rfl) ?_
  intro X hl hini C
  show Z X E 7 _ 0 0 sz M 0 [(0, .ref k), (1, .int (nI 7)), (2, .int y)] []
  refine z_iload_n C d_K_operate_0 rfl rfl ?_
  refine z_callS (rest := []) (n := 1) (As := [.int (nI 7)]) C (g_two E X.2.1 sz _ 7 (by decide)) ⟨z_cb C k_G_hasTwoSides ml_K_74 ii_G rfl rfl (by decide +kernel) ⟨by decide, by decide⟩, C.2.2.2.2.1 _ sm_G_hasTwoSides⟩ rfl rfl (Nat.le_of_ble_eq_true rfl) d_K_operate_1 ⟨by decide, by decide⟩ ?_
  intro v_1 s_1 M_1 hp_1
  obtain ⟨rfl, rfl, rfl⟩ := hp_1
  show Z _ _ _ _ _ _ _ _ 4 _ [.int (if 8 ≤ 7 then 1 else 0)]
  refine z_if_eq (tgt := 11) C d_K_operate_4 (by decide) (fun _ => ?_) (fun c_4 => absurd (by decide) c_4)
  refine z_iconst (v := nI 1) C d_K_operate_11 (by decide) ?_
  refine z_istore_n (L' := [(0, .ref k), (1, .int (nI 7)), (2, .int y), (3, .int (nI 1))]) C d_K_operate_12 rfl (by decide) rfl ?_
  refine z_aload_n C d_K_operate_13 rfl rfl ?_
  refine z_get C in_K h0 rfl 2 (by decide) fl_K_24 rfl rfl d_K_operate_14 ?_
  refine z_iload_n C d_K_operate_17 rfl rfl ?_
  refine z_icmp_ge (tgt := 24) C d_K_operate_18 (by decide) (fun _ => ?_) (fun c_18 => absurd ((nI_leI (by decide) (by omega)).mpr (by omega)) c_18)
  refine z_aload_n C d_K_operate_24 rfl rfl ?_
  refine z_get C in_K h0 rfl 1 (by decide) fl_K_20 rfl rfl d_K_operate_25 ?_
  refine z_aload_n C d_K_operate_28 rfl rfl ?_
  refine z_get C in_K h0 rfl 2 (by decide) fl_K_24 rfl rfl d_K_operate_29 ?_
  refine z_iconst (v := nI 1) C d_K_operate_32 (by decide) ?_
  refine z_isub C d_K_operate_33 ?_
  refine z_top (y := nI ys.length) (pk_sub (a := ys.length + 1) (b := 1) (by omega)) ?_
  refine z_aald C h1 3 rfl ys.length (rfl) (by omega) (by decide) (congrArg va_rf (hff _ (by omega))) d_K_operate_34 ?_
  refine z_astore (L' := [(0, .ref k), (1, .int (nI 7)), (2, .int y), (3, .int (nI 1)), (4, .ref (k + 17 + 5 * ys.length))]) C d_K_operate_35 (by decide) rfl ?_
  refine z_aload_n C d_K_operate_37 rfl rfl ?_
  refine z_get C in_K h0 rfl 1 (by decide) fl_K_20 rfl rfl d_K_operate_38 ?_
  refine z_aload_n C d_K_operate_41 rfl rfl ?_
  refine z_get C in_K h0 rfl 2 (by decide) fl_K_24 rfl rfl d_K_operate_42 ?_
  refine z_iload_n C d_K_operate_45 rfl rfl ?_
  refine z_isub C d_K_operate_46 ?_
  refine z_top (y := nI ys.length) (pk_sub (a := ys.length + 1) (b := 1) (by omega)) ?_
  refine z_aald C h1 3 rfl ys.length (rfl) (by omega) (by decide) (congrArg va_rf (hff _ (by omega))) d_K_operate_47 ?_
  refine z_astore (L' := [(0, .ref k), (1, .int (nI 7)), (2, .int y), (3, .int (nI 1)), (4, .ref (k + 17 + 5 * ys.length)), (5, .ref (k + 17 + 5 * ys.length))]) C d_K_operate_48 (by decide) rfl ?_
  refine z_aload_n C d_K_operate_50 rfl rfl ?_
  refine z_aload_n C d_K_operate_51 rfl rfl ?_
  refine z_get C in_K h0 rfl 2 (by decide) fl_K_24 rfl rfl d_K_operate_52 ?_
  refine z_iload_n C d_K_operate_55 rfl rfl ?_
  refine z_isub C d_K_operate_56 ?_
  refine z_top (y := nI ys.length) (pk_sub (a := ys.length + 1) (b := 1) (by omega)) ?_
  refine z_iconst (v := 1) C d_K_operate_57 (by decide) ?_
  refine z_iadd C d_K_operate_58 ?_
  refine z_top (y := nI (ys.length + 1)) (nI_1 _) ?_
  refine z_put C in_K ty_K tok_K nm_K h0 rfl 2 (by decide) fl_K_24 rfl rfl rfl (rfl) (rfl) (Nat.le_of_ble_eq_true rfl) d_K_operate_59 ?_
  show Z _ _ _ _ _ _ _ (zU M k (.inr (8, [.ref (k + 1), .ref (k + 16), .int (nI (ys.length + 1))]))) _ _ _
  have ho0 : zoutR M (zU M k (.inr (8, [.ref (k + 1), .ref (k + 16), .int (nI (ys.length + 1))]))) k (k + 1) := fun x hq => zU_ne (by omega)
  have hk0 : (zU M k (.inr (8, [.ref (k + 1), .ref (k + 16), .int (nI (ys.length + 1))]))) k = _ := zU_eq
  have hz0 := zf_oR ho0 hzl (by omega)
  have hs0 := zsh_oR ho0 hs (by omega)
  refine z_iconst (v := nI 0) C d_K_operate_62 (by decide) ?_
  refine z_istore (L' := [(0, .ref k), (1, .int (nI 7)), (2, .int y), (3, .int (nI 1)), (4, .ref (k + 17 + 5 * ys.length)), (5, .ref (k + 17 + 5 * ys.length)), (6, .int (nI 0))]) C d_K_operate_63 (by decide) rfl ?_
  refine z_iload_n C d_K_operate_65 rfl rfl ?_
  refine z_tableIn (off := 139) (tgt := 205) C d_K_operate_66 (by decide) (by decide) (by decide) (by decide) ?_
  refine z_aload_n C d_K_operate_205 rfl rfl ?_
  refine z_get C in_K zU_eq rfl 0 (by decide) fl_K_12 rfl rfl d_K_operate_206 ?_
  refine z_aload C d_K_operate_209 rfl ?_
  refine z_callV (rest := []) (n := 1) (As := [.ref (k + 17 + 5 * ys.length)]) C (w_derive E X.2.1 sz _ hs0 hz0 (by omega)) ⟨z_cb C k_W_derive ml_K_96 ii_W rfl rfl (by decide +kernel) ⟨by decide, by decide⟩, C.2.2.2.2.1 _ im_W_derive, C.2.2.2.2.1 _ se_W_derive⟩ hs0.1 rfl rfl rfl (Nat.le_of_ble_eq_true rfl) d_K_operate_211 ⟨by decide, by decide⟩ ?_
  intro v_w s_w M1 hp_w
  obtain ⟨rfl, rfl, ⟨wx, wy, hs1⟩, ho1⟩ := hp_w
  have hz1 := zf_oR ho1 hz0 (by omega)
  have hk1 := (ho1 k (by omega)).trans hk0
  show Z _ _ _ _ _ _ _ _ 214 _ []
  refine z_goto (tgt := 226) C d_K_operate_214 (by decide) ?_
  refine z_iload C d_K_operate_226 rfl ?_
  refine z_if_ne (tgt := 243) C d_K_operate_228 (by decide) (fun c_228 => absurd c_228 (fun q => q (by decide))) (fun _ => ?_)
  refine z_aload_n C d_K_operate_231 rfl rfl ?_
  refine z_get C in_K hk1 rfl 0 (by decide) fl_K_12 rfl rfl d_K_operate_232 ?_
  refine z_aload C d_K_operate_235 rfl ?_
  obtain ⟨i9, hi9⟩ := mul_ne il.2.1 il.2.1 (isf_ne il) (isf_ne il)
  have hkd := zp_pos hs1.2.2.1 hi9
  refine z_callV (rest := []) (n := 1) (As := [.ref (k + 17 + 5 * ys.length)]) C (w_settle E X.2.1 sz _ hs1 hkd hz1 (by omega)) ⟨z_cb C k_W_settle ml_K_102 ii_W rfl rfl (by decide +kernel) ⟨by decide, by decide⟩, C.2.2.2.2.1 _ im_W_settle, C.2.2.2.2.1 _ se_W_settle⟩ hs1.1 rfl rfl rfl (Nat.le_of_ble_eq_true rfl) d_K_operate_237 ⟨by decide, by decide⟩ ?_
  intro v_t s_t M2 hp_t
  obtain ⟨rfl, ⟨tx, ty, tA, tB, hs2⟩, hfr2, fn, fd, hfo, hcase⟩ := hp_t
  have hk2 := (hfr2 k (by omega) (by omega)).trans hk1
  have hframe : zoutR M M2 k (k + 97) := fun x hq => (hfr2 x (by omega) (by omega)).trans ((ho1 x (by omega)).trans (ho0 x (by omega)))
  have hfx : ∀ x, x ≠ k → (x < k + 1 ∨ k + 16 ≤ x) → (x < k + 17 + 5 * ys.length + 1 ∨ k + 17 + 5 * ys.length + 5 ≤ x) → M2 x = M x := fun x q1 q2 q3 => (hfr2 x (by omega) (by omega)).trans ((ho1 x (by omega)).trans (ho0 x (by omega)))
  have hyy : ∀ i : Nat, i < ys.length → (ys ++ [l1])[i]? = ys[i]? := fun i hi => List.getElem?_append_left hi
  rcases hcase with ⟨rfl, hbig, ho9⟩ | ⟨rfl, ka, kb, hz2⟩
  · have hz2 := zf_oR ho9 hz1 (by omega)
    show Z _ _ _ _ _ _ _ _ 240 _ [.int (-6)]
    refine z_goto (tgt := 245) C d_K_operate_240 (by decide) ?_
    exact z_iret C ⟨rfl, hframe, ⟨(fn, fd), hfo, Or.inl ⟨hbig, rfl, _, zwk_mk H hyy (by omega) hz2 ⟨_, _, _, _, hs2⟩ hk2 hfx⟩⟩⟩ d_K_operate_245
  · show Z _ _ _ _ _ _ _ _ 240 _ [.int 0]
    refine z_goto (tgt := 245) C d_K_operate_240 (by decide) ?_
    exact z_iret C ⟨rfl, hframe, ⟨(fn, fd), hfo, Or.inr ⟨zf_small hz2, rfl, zwk_mk H hyy (by omega) hz2 ⟨_, _, _, _, hs2⟩ hk2 hfx⟩⟩⟩ d_K_operate_245
set_option maxHeartbeats 4000000 in
/-- Worker.operate, 6 -/
theorem k_neg (E : zE) (l : Launch) (sz : Nat) (M : zM) {k : Nat} {ys : List (PS × PS)} {l1 : PS × PS} (H : zwk E M k (ys ++ [l1])) (il : isform l1.1 l1.2) (y : Int32) : zMet E l y_K_operate c_K_operate 7 (some .int) { frames := 4, cells := 0, slots := 0, locals := 95 } 0 0 [.ref k, .int (nI 6), .int (y)] sz M (fun v s M' => sz = s ∧ zoutR M M' k (k + 97) ∧ (setlR E M' k v ys (ps_mul (ps_C 10006) l1.1) l1.2)) := by
  obtain ⟨ff, h0, h1, hl0, hff, ⟨sa, sb, sA, sB, hs⟩, hfm, hal⟩ := id H
  have e9 : (ys ++ [l1]).length = ys.length + 1 := by simp
  rw [e9] at h0 hl0
  obtain ⟨c1, c2, hzl⟩ := hfm ys.length l1 (by simp)
  refine zMet.ofZ (by decide) (Nat.le_of_ble_eq_true rfl) ?_
  intro X hl hini C
  show Z X E 7 _ 0 0 sz M 0 [(0, .ref k), (1, .int (nI 6)), (2, .int y)] []
  refine z_iload_n C d_K_operate_0 rfl rfl ?_
  refine z_callS (rest := []) (n := 1) (As := [.int (nI 6)]) C (g_two E X.2.1 sz _ 6 (by decide)) ⟨z_cb C k_G_hasTwoSides ml_K_74 ii_G rfl rfl (by decide +kernel) ⟨by decide, by decide⟩, C.2.2.2.2.1 _ sm_G_hasTwoSides⟩ rfl rfl (Nat.le_of_ble_eq_true rfl) d_K_operate_1 ⟨by decide, by decide⟩ ?_
  intro v_1 s_1 M_1 hp_1
  obtain ⟨rfl, rfl, rfl⟩ := hp_1
  show Z _ _ _ _ _ _ _ _ 4 _ [.int (if 8 ≤ 6 then 1 else 0)]
  refine z_if_eq (tgt := 11) C d_K_operate_4 (by decide) (fun _ => ?_) (fun c_4 => absurd (by decide) c_4)
  refine z_iconst (v := nI 1) C d_K_operate_11 (by decide) ?_
  refine z_istore_n (L' := [(0, .ref k), (1, .int (nI 6)), (2, .int y), (3, .int (nI 1))]) C d_K_operate_12 rfl (by decide) rfl ?_
  refine z_aload_n C d_K_operate_13 rfl rfl ?_
  refine z_get C in_K h0 rfl 2 (by decide) fl_K_24 rfl rfl d_K_operate_14 ?_
  refine z_iload_n C d_K_operate_17 rfl rfl ?_
  refine z_icmp_ge (tgt := 24) C d_K_operate_18 (by decide) (fun _ => ?_) (fun c_18 => absurd ((nI_leI (by decide) (by omega)).mpr (by omega)) c_18)
  refine z_aload_n C d_K_operate_24 rfl rfl ?_
  refine z_get C in_K h0 rfl 1 (by decide) fl_K_20 rfl rfl d_K_operate_25 ?_
  refine z_aload_n C d_K_operate_28 rfl rfl ?_
  refine z_get C in_K h0 rfl 2 (by decide) fl_K_24 rfl rfl d_K_operate_29 ?_
  refine z_iconst (v := nI 1) C d_K_operate_32 (by decide) ?_
  refine z_isub C d_K_operate_33 ?_
  refine z_top (y := nI ys.length) (pk_sub (a := ys.length + 1) (b := 1) (by omega)) ?_
  refine z_aald C h1 3 rfl ys.length (rfl) (by omega) (by decide) (congrArg va_rf (hff _ (by omega))) d_K_operate_34 ?_
  refine z_astore (L' := [(0, .ref k), (1, .int (nI 6)), (2, .int y), (3, .int (nI 1)), (4, .ref (k + 17 + 5 * ys.length))]) C d_K_operate_35 (by decide) rfl ?_
  refine z_aload_n C d_K_operate_37 rfl rfl ?_
  refine z_get C in_K h0 rfl 1 (by decide) fl_K_20 rfl rfl d_K_operate_38 ?_
  refine z_aload_n C d_K_operate_41 rfl rfl ?_
  refine z_get C in_K h0 rfl 2 (by decide) fl_K_24 rfl rfl d_K_operate_42 ?_
  refine z_iload_n C d_K_operate_45 rfl rfl ?_
  refine z_isub C d_K_operate_46 ?_
  refine z_top (y := nI ys.length) (pk_sub (a := ys.length + 1) (b := 1) (by omega)) ?_
  refine z_aald C h1 3 rfl ys.length (rfl) (by omega) (by decide) (congrArg va_rf (hff _ (by omega))) d_K_operate_47 ?_
  refine z_astore (L' := [(0, .ref k), (1, .int (nI 6)), (2, .int y), (3, .int (nI 1)), (4, .ref (k + 17 + 5 * ys.length)), (5, .ref (k + 17 + 5 * ys.length))]) C d_K_operate_48 (by decide) rfl ?_
  refine z_aload_n C d_K_operate_50 rfl rfl ?_
  refine z_aload_n C d_K_operate_51 rfl rfl ?_
  refine z_get C in_K h0 rfl 2 (by decide) fl_K_24 rfl rfl d_K_operate_52 ?_
  refine z_iload_n C d_K_operate_55 rfl rfl ?_
  refine z_isub C d_K_operate_56 ?_
  refine z_top (y := nI ys.length) (pk_sub (a := ys.length + 1) (b := 1) (by omega)) ?_
  refine z_iconst (v := 1) C d_K_operate_57 (by decide) ?_
  refine z_iadd C d_K_operate_58 ?_
  refine z_top (y := nI (ys.length + 1)) (nI_1 _) ?_
  refine z_put C in_K ty_K tok_K nm_K h0 rfl 2 (by decide) fl_K_24 rfl rfl rfl (rfl) (rfl) (Nat.le_of_ble_eq_true rfl) d_K_operate_59 ?_
  show Z _ _ _ _ _ _ _ (zU M k (.inr (8, [.ref (k + 1), .ref (k + 16), .int (nI (ys.length + 1))]))) _ _ _
  have ho0 : zoutR M (zU M k (.inr (8, [.ref (k + 1), .ref (k + 16), .int (nI (ys.length + 1))]))) k (k + 1) := fun x hq => zU_ne (by omega)
  have hk0 : (zU M k (.inr (8, [.ref (k + 1), .ref (k + 16), .int (nI (ys.length + 1))]))) k = _ := zU_eq
  have hz0 := zf_oR ho0 hzl (by omega)
  have hs0 := zsh_oR ho0 hs (by omega)
  refine z_iconst (v := nI 0) C d_K_operate_62 (by decide) ?_
  refine z_istore (L' := [(0, .ref k), (1, .int (nI 6)), (2, .int y), (3, .int (nI 1)), (4, .ref (k + 17 + 5 * ys.length)), (5, .ref (k + 17 + 5 * ys.length)), (6, .int (nI 0))]) C d_K_operate_63 (by decide) rfl ?_
  refine z_iload_n C d_K_operate_65 rfl rfl ?_
  refine z_tableIn (off := 151) (tgt := 217) C d_K_operate_66 (by decide) (by decide) (by decide) (by decide) ?_
  refine z_aload_n C d_K_operate_217 rfl rfl ?_
  refine z_get C in_K zU_eq rfl 0 (by decide) fl_K_12 rfl rfl d_K_operate_218 ?_
  refine z_aload C d_K_operate_221 rfl ?_
  refine z_callV (rest := []) (n := 1) (As := [.ref (k + 17 + 5 * ys.length)]) C (w_negate E X.2.1 sz _ hs0 hz0 (by omega)) ⟨z_cb C k_W_negate ml_K_99 ii_W rfl rfl (by decide +kernel) ⟨by decide, by decide⟩, C.2.2.2.2.1 _ im_W_negate, C.2.2.2.2.1 _ se_W_negate⟩ hs0.1 rfl rfl rfl (Nat.le_of_ble_eq_true rfl) d_K_operate_223 ⟨by decide, by decide⟩ ?_
  intro v_w s_w M1 hp_w
  obtain ⟨rfl, rfl, ⟨wx, wy, hs1⟩, ho1⟩ := hp_w
  have hz1 := zf_oR ho1 hz0 (by omega)
  have hk1 := (ho1 k (by omega)).trans hk0
  show Z _ _ _ _ _ _ _ _ 226 _ []
  refine z_iload C d_K_operate_226 rfl ?_
  refine z_if_ne (tgt := 243) C d_K_operate_228 (by decide) (fun c_228 => absurd c_228 (fun q => q (by decide))) (fun _ => ?_)
  refine z_aload_n C d_K_operate_231 rfl rfl ?_
  refine z_get C in_K hk1 rfl 0 (by decide) fl_K_12 rfl rfl d_K_operate_232 ?_
  refine z_aload C d_K_operate_235 rfl ?_
  obtain ⟨i9, hi9⟩ := isf_ne il
  have hkd := zp_pos hs1.2.2.1 hi9
  refine z_callV (rest := []) (n := 1) (As := [.ref (k + 17 + 5 * ys.length)]) C (w_settle E X.2.1 sz _ hs1 hkd hz1 (by omega)) ⟨z_cb C k_W_settle ml_K_102 ii_W rfl rfl (by decide +kernel) ⟨by decide, by decide⟩, C.2.2.2.2.1 _ im_W_settle, C.2.2.2.2.1 _ se_W_settle⟩ hs1.1 rfl rfl rfl (Nat.le_of_ble_eq_true rfl) d_K_operate_237 ⟨by decide, by decide⟩ ?_
  intro v_t s_t M2 hp_t
  obtain ⟨rfl, ⟨tx, ty, tA, tB, hs2⟩, hfr2, fn, fd, hfo, hcase⟩ := hp_t
  have hk2 := (hfr2 k (by omega) (by omega)).trans hk1
  have hframe : zoutR M M2 k (k + 97) := fun x hq => (hfr2 x (by omega) (by omega)).trans ((ho1 x (by omega)).trans (ho0 x (by omega)))
  have hfx : ∀ x, x ≠ k → (x < k + 1 ∨ k + 16 ≤ x) → (x < k + 17 + 5 * ys.length + 1 ∨ k + 17 + 5 * ys.length + 5 ≤ x) → M2 x = M x := fun x q1 q2 q3 => (hfr2 x (by omega) (by omega)).trans ((ho1 x (by omega)).trans (ho0 x (by omega)))
  have hyy : ∀ i : Nat, i < ys.length → (ys ++ [l1])[i]? = ys[i]? := fun i hi => List.getElem?_append_left hi
  rcases hcase with ⟨rfl, hbig, ho9⟩ | ⟨rfl, ka, kb, hz2⟩
  · have hz2 := zf_oR ho9 hz1 (by omega)
    show Z _ _ _ _ _ _ _ _ 240 _ [.int (-6)]
    refine z_goto (tgt := 245) C d_K_operate_240 (by decide) ?_
    exact z_iret C ⟨rfl, hframe, ⟨(fn, fd), hfo, Or.inl ⟨hbig, rfl, _, zwk_mk H hyy (by omega) hz2 ⟨_, _, _, _, hs2⟩ hk2 hfx⟩⟩⟩ d_K_operate_245
  · show Z _ _ _ _ _ _ _ _ 240 _ [.int 0]
    refine z_goto (tgt := 245) C d_K_operate_240 (by decide) ?_
    exact z_iret C ⟨rfl, hframe, ⟨(fn, fd), hfo, Or.inr ⟨zf_small hz2, rfl, zwk_mk H hyy (by omega) hz2 ⟨_, _, _, _, hs2⟩ hk2 hfx⟩⟩⟩ d_K_operate_245
end
section
set_option maxHeartbeats 4000000 in
/-- Worker.operate, 11 -/
theorem k_div (E : zE) (l : Launch) (sz : Nat) (M : zM) {k : Nat} {ys : List (PS × PS)} {l1 r1 : PS × PS} (H : zwk E M k (ys ++ [l1, r1])) (il : isform l1.1 l1.2) (ir : isform r1.1 r1.2) (y : Int32) : zMet E l y_K_operate c_K_operate 7 (some .int) { frames := 4, cells := 0, slots := 0, locals := 95 } 0 0 [.ref k, .int (nI 11), .int (y)] sz M (fun v s M' => sz = s ∧ zoutR M M' k (k + 97) ∧ (((∀ i, r1.1 i = 0) ∧ some (.int (-5)) = v ∧ ∃ xs', zwk E M' k xs') ∨ ((∃ i, r1.1 i ≠ 0) ∧ setlR E M' k v ys (ps_mul l1.1 r1.2) (ps_mul l1.2 r1.1)))) := by
  obtain ⟨ff, h0, h1, hl0, hff, ⟨sa, sb, sA, sB, hs⟩, hfm, hal⟩ := id H
  have e9 : (ys ++ [l1, r1]).length = ys.length + 2 := by simp
  rw [e9] at h0 hl0
  obtain ⟨c1, c2, hzl⟩ := hfm ys.length l1 (by simp)
  obtain ⟨c3, c4, hzr⟩ := hfm (ys.length + 1) r1 (by rw [List.getElem?_append_right (by omega)]; simp)
  refine zMet.ofZ (by decide) (Nat.le_of_ble_eq_true rfl) ?_
  intro X hl hini C
  show Z X E 7 _ 0 0 sz M 0 [(0, .ref k), (1, .int (nI 11)), (2, .int y)] []
  refine z_iload_n C d_K_operate_0 rfl rfl ?_
  refine z_callS (rest := []) (n := 1) (As := [.int (nI 11)]) C (g_two E X.2.1 sz _ 11 (by decide)) ⟨z_cb C k_G_hasTwoSides ml_K_74 ii_G rfl rfl (by decide +kernel) ⟨by decide, by decide⟩, C.2.2.2.2.1 _ sm_G_hasTwoSides⟩ rfl rfl (Nat.le_of_ble_eq_true rfl) d_K_operate_1 ⟨by decide, by decide⟩ ?_
  intro v_1 s_1 M_1 hp_1
  obtain ⟨rfl, rfl, rfl⟩ := hp_1
  show Z _ _ _ _ _ _ _ _ 4 _ [.int (if 8 ≤ 11 then 1 else 0)]
  refine z_if_eq (tgt := 11) C d_K_operate_4 (by decide) (fun c_4 => absurd c_4 (by decide)) (fun _ => ?_)
  refine z_iconst (v := nI 2) C d_K_operate_7 (by decide) ?_
  refine z_goto (tgt := 12) C d_K_operate_8 (by decide) ?_
  refine z_istore_n (L' := [(0, .ref k), (1, .int (nI 11)), (2, .int y), (3, .int (nI 2))]) C d_K_operate_12 rfl (by decide) rfl ?_
  refine z_aload_n C d_K_operate_13 rfl rfl ?_
  refine z_get C in_K h0 rfl 2 (by decide) fl_K_24 rfl rfl d_K_operate_14 ?_
  refine z_iload_n C d_K_operate_17 rfl rfl ?_
  refine z_icmp_ge (tgt := 24) C d_K_operate_18 (by decide) (fun _ => ?_) (fun c_18 => absurd ((nI_leI (by decide) (by omega)).mpr (by omega)) c_18)
  refine z_aload_n C d_K_operate_24 rfl rfl ?_
  refine z_get C in_K h0 rfl 1 (by decide) fl_K_20 rfl rfl d_K_operate_25 ?_
  refine z_aload_n C d_K_operate_28 rfl rfl ?_
  refine z_get C in_K h0 rfl 2 (by decide) fl_K_24 rfl rfl d_K_operate_29 ?_
  refine z_iconst (v := nI 1) C d_K_operate_32 (by decide) ?_
  refine z_isub C d_K_operate_33 ?_
  refine z_top (y := nI (ys.length + 1)) (pk_sub (a := ys.length + 2) (b := 1) (by omega)) ?_
  refine z_aald C h1 3 rfl (ys.length + 1) (rfl) (by omega) (by decide) (congrArg va_rf (hff _ (by omega))) d_K_operate_34 ?_
  refine z_astore (L' := [(0, .ref k), (1, .int (nI 11)), (2, .int y), (3, .int (nI 2)), (4, .ref (k + 17 + 5 * (ys.length + 1)))]) C d_K_operate_35 (by decide) rfl ?_
  refine z_aload_n C d_K_operate_37 rfl rfl ?_
  refine z_get C in_K h0 rfl 1 (by decide) fl_K_20 rfl rfl d_K_operate_38 ?_
  refine z_aload_n C d_K_operate_41 rfl rfl ?_
  refine z_get C in_K h0 rfl 2 (by decide) fl_K_24 rfl rfl d_K_operate_42 ?_
  refine z_iload_n C d_K_operate_45 rfl rfl ?_
  refine z_isub C d_K_operate_46 ?_
  refine z_top (y := nI ys.length) (pk_sub (a := ys.length + 2) (b := 2) (by omega)) ?_
  refine z_aald C h1 3 rfl ys.length (rfl) (by omega) (by decide) (congrArg va_rf (hff _ (by omega))) d_K_operate_47 ?_
  refine z_astore (L' := [(0, .ref k), (1, .int (nI 11)), (2, .int y), (3, .int (nI 2)), (4, .ref (k + 17 + 5 * (ys.length + 1))), (5, .ref (k + 17 + 5 * ys.length))]) C d_K_operate_48 (by decide) rfl ?_
  refine z_aload_n C d_K_operate_50 rfl rfl ?_
  refine z_aload_n C d_K_operate_51 rfl rfl ?_
  refine z_get C in_K h0 rfl 2 (by decide) fl_K_24 rfl rfl d_K_operate_52 ?_
  refine z_iload_n C d_K_operate_55 rfl rfl ?_
  refine z_isub C d_K_operate_56 ?_
  refine z_top (y := nI ys.length) (pk_sub (a := ys.length + 2) (b := 2) (by omega)) ?_
  refine z_iconst (v := 1) C d_K_operate_57 (by decide) ?_
  refine z_iadd C d_K_operate_58 ?_
  refine z_top (y := nI (ys.length + 1)) (nI_1 _) ?_
  refine z_put C in_K ty_K tok_K nm_K h0 rfl 2 (by decide) fl_K_24 rfl rfl rfl (rfl) (rfl) (Nat.le_of_ble_eq_true rfl) d_K_operate_59 ?_
  show Z _ _ _ _ _ _ _ (zU M k (.inr (8, [.ref (k + 1), .ref (k + 16), .int (nI (ys.length + 1))]))) _ _ _
  have ho0 : zoutR M (zU M k (.inr (8, [.ref (k + 1), .ref (k + 16), .int (nI (ys.length + 1))]))) k (k + 1) := fun x hq => zU_ne (by omega)
  have hk0 : (zU M k (.inr (8, [.ref (k + 1), .ref (k + 16), .int (nI (ys.length + 1))]))) k = _ := zU_eq
  have hz0 := zf_oR ho0 hzl (by omega)
  have hs0 := zsh_oR ho0 hs (by omega)
  have hr0 := zf_oR ho0 hzr (by omega)
  refine z_iconst (v := nI 0) C d_K_operate_62 (by decide) ?_
  refine z_istore (L' := [(0, .ref k), (1, .int (nI 11)), (2, .int y), (3, .int (nI 2)), (4, .ref (k + 17 + 5 * (ys.length + 1))), (5, .ref (k + 17 + 5 * ys.length)), (6, .int (nI 0))]) C d_K_operate_63 (by decide) rfl ?_
  refine z_iload_n C d_K_operate_65 rfl rfl ?_
  refine z_tableIn (off := 92) (tgt := 158) C d_K_operate_66 (by decide) (by decide) (by decide) (by decide) ?_
  refine z_aload_n C d_K_operate_158 rfl rfl ?_
  refine z_get C in_K zU_eq rfl 0 (by decide) fl_K_12 rfl rfl d_K_operate_159 ?_
  refine z_aload C d_K_operate_162 rfl ?_
  refine z_aload C d_K_operate_164 rfl ?_
  refine z_callV (rest := []) (n := 2) (As := [.ref (k + 17 + 5 * ys.length), .ref (k + 17 + 5 * (ys.length + 1))]) C (w_divide E X.2.1 sz _ hs0 hz0 (by omega) hr0 (by omega)) ⟨z_cb C k_W_divide ml_K_85 ii_W rfl rfl (by decide +kernel) ⟨by decide, by decide⟩, C.2.2.2.2.1 _ im_W_divide, C.2.2.2.2.1 _ se_W_divide⟩ hs0.1 rfl rfl rfl (Nat.le_of_ble_eq_true rfl) d_K_operate_166 ⟨by decide, by decide⟩ ?_
  intro v_w s_w M1 hp_w
  rcases hp_w with ⟨hq, rfl, rfl, rfl⟩ | ⟨hq, rfl, rfl, ⟨wx, wy, hs1⟩, ho1⟩
  · show Z _ _ _ _ _ _ _ _ 169 _ [.int (-5)]
    refine z_istore (L' := [(0, .ref k), (1, .int (nI 11)), (2, .int y), (3, .int (nI 2)), (4, .ref (k + 17 + 5 * (ys.length + 1))), (5, .ref (k + 17 + 5 * ys.length)), (6, .int (-5))]) C d_K_operate_169 (by decide) rfl ?_
    refine z_goto (tgt := 226) C d_K_operate_171 (by decide) ?_
    refine z_iload C d_K_operate_226 rfl ?_
    refine z_if_ne (tgt := 243) C d_K_operate_228 (by decide) (fun _ => ?_) (fun c_228 => absurd c_228 (by decide))
    refine z_iload C d_K_operate_243 rfl ?_
    exact z_iret C ⟨rfl, fun x hq => ho0 x (by omega), Or.inl ⟨zp_zero hr0.2.1 hq, rfl, ⟨_, zwk_mk H (fun i hi => List.getElem?_append_left hi) (by omega) hz0 ⟨_, _, _, _, hs0⟩ hk0 (fun x q1 q2 q3 => ho0 x (by omega))⟩⟩⟩ d_K_operate_245
  · show Z _ _ _ _ _ _ _ _ 169 _ [.int 0]
    have hz1 := zf_oR ho1 hz0 (by omega)
    have hk1 := (ho1 k (by omega)).trans hk0
    refine z_istore (L' := [(0, .ref k), (1, .int (nI 11)), (2, .int y), (3, .int (nI 2)), (4, .ref (k + 17 + 5 * (ys.length + 1))), (5, .ref (k + 17 + 5 * ys.length)), (6, .int (nI 0))]) C d_K_operate_169 (by decide) rfl ?_
    refine z_goto (tgt := 226) C d_K_operate_171 (by decide) ?_
    refine z_iload C d_K_operate_226 rfl ?_
    refine z_if_ne (tgt := 243) C d_K_operate_228 (by decide) (fun c_228 => absurd c_228 (fun q => q (by decide))) (fun _ => ?_)
    refine z_aload_n C d_K_operate_231 rfl rfl ?_
    refine z_get C in_K hk1 rfl 0 (by decide) fl_K_12 rfl rfl d_K_operate_232 ?_
    refine z_aload C d_K_operate_235 rfl ?_
    obtain ⟨i9, hi9⟩ := mul_ne il.2.1 ir.1 (isf_ne il) (zp_nz hr0.2.1 hq)
    have hkd := zp_pos hs1.2.2.1 hi9
    refine z_callV (rest := []) (n := 1) (As := [.ref (k + 17 + 5 * ys.length)]) C (w_settle E X.2.1 sz _ hs1 hkd hz1 (by omega)) ⟨z_cb C k_W_settle ml_K_102 ii_W rfl rfl (by decide +kernel) ⟨by decide, by decide⟩, C.2.2.2.2.1 _ im_W_settle, C.2.2.2.2.1 _ se_W_settle⟩ hs1.1 rfl rfl rfl (Nat.le_of_ble_eq_true rfl) d_K_operate_237 ⟨by decide, by decide⟩ ?_
    intro v_t s_t M2 hp_t
    obtain ⟨rfl, ⟨tx, ty, tA, tB, hs2⟩, hfr2, fn, fd, hfo, hcase⟩ := hp_t
    have hk2 := (hfr2 k (by omega) (by omega)).trans hk1
    have hframe : zoutR M M2 k (k + 97) := fun x hq => (hfr2 x (by omega) (by omega)).trans ((ho1 x (by omega)).trans (ho0 x (by omega)))
    have hfx : ∀ x, x ≠ k → (x < k + 1 ∨ k + 16 ≤ x) → (x < k + 17 + 5 * ys.length + 1 ∨ k + 17 + 5 * ys.length + 5 ≤ x) → M2 x = M x := fun x q1 q2 q3 => (hfr2 x (by omega) (by omega)).trans ((ho1 x (by omega)).trans (ho0 x (by omega)))
    have hyy : ∀ i : Nat, i < ys.length → (ys ++ [l1, r1])[i]? = ys[i]? := fun i hi => List.getElem?_append_left hi
    rcases hcase with ⟨rfl, hbig, ho9⟩ | ⟨rfl, ka, kb, hz2⟩
    · have hz2 := zf_oR ho9 hz1 (by omega)
      show Z _ _ _ _ _ _ _ _ 240 _ [.int (-6)]
      refine z_goto (tgt := 245) C d_K_operate_240 (by decide) ?_
      exact z_iret C ⟨rfl, hframe, Or.inr ⟨zp_nz hr0.2.1 hq, ⟨(fn, fd), hfo, Or.inl ⟨hbig, rfl, _, zwk_mk H hyy (by omega) hz2 ⟨_, _, _, _, hs2⟩ hk2 hfx⟩⟩⟩⟩ d_K_operate_245
    · show Z _ _ _ _ _ _ _ _ 240 _ [.int 0]
      refine z_goto (tgt := 245) C d_K_operate_240 (by decide) ?_
      exact z_iret C ⟨rfl, hframe, Or.inr ⟨zp_nz hr0.2.1 hq, ⟨(fn, fd), hfo, Or.inr ⟨zf_small hz2, rfl, zwk_mk H hyy (by omega) hz2 ⟨_, _, _, _, hs2⟩ hk2 hfx⟩⟩⟩⟩ d_K_operate_245
set_option maxHeartbeats 4000000 in
/-- Worker.operate, 12 -/
theorem k_comp (E : zE) (l : Launch) (sz : Nat) (M : zM) {k : Nat} {ys : List (PS × PS)} {l1 r1 : PS × PS} (H : zwk E M k (ys ++ [l1, r1])) (il : isform l1.1 l1.2) (ir : isform r1.1 r1.2) (y : Int32) : zMet E l y_K_operate c_K_operate 7 (some .int) { frames := 4, cells := 0, slots := 0, locals := 95 } 0 0 [.ref k, .int (nI 12), .int (y)] sz M (fun v s M' => sz = s ∧ zoutR M M' k (k + 97) ∧ (∃ a b, hts l1 a ∧ hts r1 b ∧ ((12 < a * b ∧ some (.int (-6)) = v ∧ ∃ xs', zwk E M' k xs') ∨ (a * b ≤ 12 ∧ (∀ i, hom a l1.2 r1.1 r1.2 i = 0) ∧ some (.int (-5)) = v ∧ ∃ xs', zwk E M' k xs') ∨ (a * b ≤ 12 ∧ (∃ i, hom a l1.2 r1.1 r1.2 i ≠ 0) ∧ setlR E M' k v ys (hom a l1.1 r1.1 r1.2) (hom a l1.2 r1.1 r1.2))))) := by
  obtain ⟨ff, h0, h1, hl0, hff, ⟨sa, sb, sA, sB, hs⟩, hfm, hal⟩ := id H
  have e9 : (ys ++ [l1, r1]).length = ys.length + 2 := by simp
  rw [e9] at h0 hl0
  obtain ⟨c1, c2, hzl⟩ := hfm ys.length l1 (by simp)
  obtain ⟨c3, c4, hzr⟩ := hfm (ys.length + 1) r1 (by rw [List.getElem?_append_right (by omega)]; simp)
  obtain ⟨u9, hu9⟩ := isf_ne il
  have kd1 := zp_pos hzl.2.2 hu9
  have ht1 := zf_hts hzl kd1
  obtain ⟨v9, hv9⟩ := isf_ne ir
  have kd2 := zp_pos hzr.2.2 hv9
  have ht2 := zf_hts hzr kd2
  refine zMet.ofZ (by decide) (Nat.le_of_ble_eq_true rfl) ?_
  intro X hl hini C
  show Z X E 7 _ 0 0 sz M 0 [(0, .ref k), (1, .int (nI 12)), (2, .int y)] []
  refine z_iload_n C d_K_operate_0 rfl rfl ?_
  refine z_callS (rest := []) (n := 1) (As := [.int (nI 12)]) C (g_two E X.2.1 sz _ 12 (by decide)) ⟨z_cb C k_G_hasTwoSides ml_K_74 ii_G rfl rfl (by decide +kernel) ⟨by decide, by decide⟩, C.2.2.2.2.1 _ sm_G_hasTwoSides⟩ rfl rfl (Nat.le_of_ble_eq_true rfl) d_K_operate_1 ⟨by decide, by decide⟩ ?_
  intro v_1 s_1 M_1 hp_1
  obtain ⟨rfl, rfl, rfl⟩ := hp_1
  show Z _ _ _ _ _ _ _ _ 4 _ [.int (if 8 ≤ 12 then 1 else 0)]
  refine z_if_eq (tgt := 11) C d_K_operate_4 (by decide) (fun c_4 => absurd c_4 (by decide)) (fun _ => ?_)
  refine z_iconst (v := nI 2) C d_K_operate_7 (by decide) ?_
  refine z_goto (tgt := 12) C d_K_operate_8 (by decide) ?_
  refine z_istore_n (L' := [(0, .ref k), (1, .int (nI 12)), (2, .int y), (3, .int (nI 2))]) C d_K_operate_12 rfl (by decide) rfl ?_
  refine z_aload_n C d_K_operate_13 rfl rfl ?_
  refine z_get C in_K h0 rfl 2 (by decide) fl_K_24 rfl rfl d_K_operate_14 ?_
  refine z_iload_n C d_K_operate_17 rfl rfl ?_
  refine z_icmp_ge (tgt := 24) C d_K_operate_18 (by decide) (fun _ => ?_) (fun c_18 => absurd ((nI_leI (by decide) (by omega)).mpr (by omega)) c_18)
  refine z_aload_n C d_K_operate_24 rfl rfl ?_
  refine z_get C in_K h0 rfl 1 (by decide) fl_K_20 rfl rfl d_K_operate_25 ?_
  refine z_aload_n C d_K_operate_28 rfl rfl ?_
  refine z_get C in_K h0 rfl 2 (by decide) fl_K_24 rfl rfl d_K_operate_29 ?_
  refine z_iconst (v := nI 1) C d_K_operate_32 (by decide) ?_
  refine z_isub C d_K_operate_33 ?_
  refine z_top (y := nI (ys.length + 1)) (pk_sub (a := ys.length + 2) (b := 1) (by omega)) ?_
  refine z_aald C h1 3 rfl (ys.length + 1) (rfl) (by omega) (by decide) (congrArg va_rf (hff _ (by omega))) d_K_operate_34 ?_
  refine z_astore (L' := [(0, .ref k), (1, .int (nI 12)), (2, .int y), (3, .int (nI 2)), (4, .ref (k + 17 + 5 * (ys.length + 1)))]) C d_K_operate_35 (by decide) rfl ?_
  refine z_aload_n C d_K_operate_37 rfl rfl ?_
  refine z_get C in_K h0 rfl 1 (by decide) fl_K_20 rfl rfl d_K_operate_38 ?_
  refine z_aload_n C d_K_operate_41 rfl rfl ?_
  refine z_get C in_K h0 rfl 2 (by decide) fl_K_24 rfl rfl d_K_operate_42 ?_
  refine z_iload_n C d_K_operate_45 rfl rfl ?_
  refine z_isub C d_K_operate_46 ?_
  refine z_top (y := nI ys.length) (pk_sub (a := ys.length + 2) (b := 2) (by omega)) ?_
  refine z_aald C h1 3 rfl ys.length (rfl) (by omega) (by decide) (congrArg va_rf (hff _ (by omega))) d_K_operate_47 ?_
  refine z_astore (L' := [(0, .ref k), (1, .int (nI 12)), (2, .int y), (3, .int (nI 2)), (4, .ref (k + 17 + 5 * (ys.length + 1))), (5, .ref (k + 17 + 5 * ys.length))]) C d_K_operate_48 (by decide) rfl ?_
  refine z_aload_n C d_K_operate_50 rfl rfl ?_
  refine z_aload_n C d_K_operate_51 rfl rfl ?_
  refine z_get C in_K h0 rfl 2 (by decide) fl_K_24 rfl rfl d_K_operate_52 ?_
  refine z_iload_n C d_K_operate_55 rfl rfl ?_
  refine z_isub C d_K_operate_56 ?_
  refine z_top (y := nI ys.length) (pk_sub (a := ys.length + 2) (b := 2) (by omega)) ?_
  refine z_iconst (v := 1) C d_K_operate_57 (by decide) ?_
  refine z_iadd C d_K_operate_58 ?_
  refine z_top (y := nI (ys.length + 1)) (nI_1 _) ?_
  refine z_put C in_K ty_K tok_K nm_K h0 rfl 2 (by decide) fl_K_24 rfl rfl rfl (rfl) (rfl) (Nat.le_of_ble_eq_true rfl) d_K_operate_59 ?_
  show Z _ _ _ _ _ _ _ (zU M k (.inr (8, [.ref (k + 1), .ref (k + 16), .int (nI (ys.length + 1))]))) _ _ _
  have ho0 : zoutR M (zU M k (.inr (8, [.ref (k + 1), .ref (k + 16), .int (nI (ys.length + 1))]))) k (k + 1) := fun x hq => zU_ne (by omega)
  have hk0 : (zU M k (.inr (8, [.ref (k + 1), .ref (k + 16), .int (nI (ys.length + 1))]))) k = _ := zU_eq
  have hz0 := zf_oR ho0 hzl (by omega)
  have hs0 := zsh_oR ho0 hs (by omega)
  have hr0 := zf_oR ho0 hzr (by omega)
  refine z_iconst (v := nI 0) C d_K_operate_62 (by decide) ?_
  refine z_istore (L' := [(0, .ref k), (1, .int (nI 12)), (2, .int y), (3, .int (nI 2)), (4, .ref (k + 17 + 5 * (ys.length + 1))), (5, .ref (k + 17 + 5 * ys.length)), (6, .int (nI 0))]) C d_K_operate_63 (by decide) rfl ?_
  refine z_iload_n C d_K_operate_65 rfl rfl ?_
  refine z_tableIn (off := 108) (tgt := 174) C d_K_operate_66 (by decide) (by decide) (by decide) (by decide) ?_
  refine z_aload_n C d_K_operate_174 rfl rfl ?_
  refine z_get C in_K zU_eq rfl 0 (by decide) fl_K_12 rfl rfl d_K_operate_175 ?_
  refine z_aload C d_K_operate_178 rfl ?_
  refine z_aload C d_K_operate_180 rfl ?_
  refine z_callV (rest := []) (n := 2) (As := [.ref (k + 17 + 5 * ys.length), .ref (k + 17 + 5 * (ys.length + 1))]) C (w_compose E X.2.1 sz _ hs0 hz0 (by omega) hr0 (by omega) kd1 kd2) ⟨z_cb C k_W_compose ml_K_89 ii_W rfl rfl (by decide +kernel) ⟨by decide, by decide⟩, C.2.2.2.2.1 _ im_W_compose, C.2.2.2.2.1 _ se_W_compose⟩ hs0.1 rfl rfl rfl (Nat.le_of_ble_eq_true rfl) d_K_operate_182 ⟨by decide, by decide⟩ ?_
  intro v_w s_w M1 hp_w
  rcases hp_w with ⟨hq, rfl, rfl, rfl⟩ | ⟨hq, rfl, ho1, wx, wy, hs1, ⟨hy9, rfl⟩ | ⟨hy9, rfl⟩⟩
  · show Z _ _ _ _ _ _ _ _ 185 _ [.int (-6)]
    refine z_istore (L' := [(0, .ref k), (1, .int (nI 12)), (2, .int y), (3, .int (nI 2)), (4, .ref (k + 17 + 5 * (ys.length + 1))), (5, .ref (k + 17 + 5 * ys.length)), (6, .int (-6))]) C d_K_operate_185 (by decide) rfl ?_
    refine z_goto (tgt := 226) C d_K_operate_187 (by decide) ?_
    refine z_iload C d_K_operate_226 rfl ?_
    refine z_if_ne (tgt := 243) C d_K_operate_228 (by decide) (fun _ => ?_) (fun c_228 => absurd c_228 (by decide))
    refine z_iload C d_K_operate_243 rfl ?_
    exact z_iret C ⟨rfl, fun x hq => ho0 x (by omega), ⟨_, _, ht1, ht2, Or.inl ⟨hq, rfl, ⟨_, zwk_mk H (fun i hi => List.getElem?_append_left hi) (by omega) hz0 ⟨_, _, _, _, hs0⟩ hk0 (fun x q1 q2 q3 => ho0 x (by omega))⟩⟩⟩⟩ d_K_operate_245
  · have hz1 := zf_oR ho1 hz0 (by omega)
    have hk1 := (ho1 k (by omega)).trans hk0
    show Z _ _ _ _ _ _ _ _ 185 _ [.int (-5)]
    refine z_istore (L' := [(0, .ref k), (1, .int (nI 12)), (2, .int y), (3, .int (nI 2)), (4, .ref (k + 17 + 5 * (ys.length + 1))), (5, .ref (k + 17 + 5 * ys.length)), (6, .int (-5))]) C d_K_operate_185 (by decide) rfl ?_
    refine z_goto (tgt := 226) C d_K_operate_187 (by decide) ?_
    refine z_iload C d_K_operate_226 rfl ?_
    refine z_if_ne (tgt := 243) C d_K_operate_228 (by decide) (fun _ => ?_) (fun c_228 => absurd c_228 (by decide))
    refine z_iload C d_K_operate_243 rfl ?_
    exact z_iret C ⟨rfl, fun x hq => (ho1 x (by omega)).trans (ho0 x (by omega)), ⟨_, _, ht1, ht2, Or.inr (Or.inl ⟨hq, zp_zero hs1.2.2.1 hy9, rfl, ⟨_, zwk_mk H (fun i hi => List.getElem?_append_left hi) (by omega) hz1 ⟨_, _, _, _, hs1⟩ hk1 (fun x q1 q2 q3 => (ho1 x (by omega)).trans (ho0 x (by omega)))⟩⟩)⟩⟩ d_K_operate_245
  · show Z _ _ _ _ _ _ _ _ 185 _ [.int 0]
    have hz1 := zf_oR ho1 hz0 (by omega)
    have hk1 := (ho1 k (by omega)).trans hk0
    refine z_istore (L' := [(0, .ref k), (1, .int (nI 12)), (2, .int y), (3, .int (nI 2)), (4, .ref (k + 17 + 5 * (ys.length + 1))), (5, .ref (k + 17 + 5 * ys.length)), (6, .int (nI 0))]) C d_K_operate_185 (by decide) rfl ?_
    refine z_goto (tgt := 226) C d_K_operate_187 (by decide) ?_
    refine z_iload C d_K_operate_226 rfl ?_
    refine z_if_ne (tgt := 243) C d_K_operate_228 (by decide) (fun c_228 => absurd c_228 (fun q => q (by decide))) (fun _ => ?_)
    refine z_aload_n C d_K_operate_231 rfl rfl ?_
    refine z_get C in_K hk1 rfl 0 (by decide) fl_K_12 rfl rfl d_K_operate_232 ?_
    refine z_aload C d_K_operate_235 rfl ?_
    have hkd : 1 ≤ wy := by omega
    refine z_callV (rest := []) (n := 1) (As := [.ref (k + 17 + 5 * ys.length)]) C (w_settle E X.2.1 sz _ hs1 hkd hz1 (by omega)) ⟨z_cb C k_W_settle ml_K_102 ii_W rfl rfl (by decide +kernel) ⟨by decide, by decide⟩, C.2.2.2.2.1 _ im_W_settle, C.2.2.2.2.1 _ se_W_settle⟩ hs1.1 rfl rfl rfl (Nat.le_of_ble_eq_true rfl) d_K_operate_237 ⟨by decide, by decide⟩ ?_
    intro v_t s_t M2 hp_t
    obtain ⟨rfl, ⟨tx, ty, tA, tB, hs2⟩, hfr2, fn, fd, hfo, hcase⟩ := hp_t
    have hk2 := (hfr2 k (by omega) (by omega)).trans hk1
    have hframe : zoutR M M2 k (k + 97) := fun x hq => (hfr2 x (by omega) (by omega)).trans ((ho1 x (by omega)).trans (ho0 x (by omega)))
    have hfx : ∀ x, x ≠ k → (x < k + 1 ∨ k + 16 ≤ x) → (x < k + 17 + 5 * ys.length + 1 ∨ k + 17 + 5 * ys.length + 5 ≤ x) → M2 x = M x := fun x q1 q2 q3 => (hfr2 x (by omega) (by omega)).trans ((ho1 x (by omega)).trans (ho0 x (by omega)))
    have hyy : ∀ i : Nat, i < ys.length → (ys ++ [l1, r1])[i]? = ys[i]? := fun i hi => List.getElem?_append_left hi
    rcases hcase with ⟨rfl, hbig, ho9⟩ | ⟨rfl, ka, kb, hz2⟩
    · have hz2 := zf_oR ho9 hz1 (by omega)
      show Z _ _ _ _ _ _ _ _ 240 _ [.int (-6)]
      refine z_goto (tgt := 245) C d_K_operate_240 (by decide) ?_
      exact z_iret C ⟨rfl, hframe, ⟨_, _, ht1, ht2, Or.inr (Or.inr ⟨hq, zp_nz hs1.2.2.1 hy9, ⟨(fn, fd), hfo, Or.inl ⟨hbig, rfl, _, zwk_mk H hyy (by omega) hz2 ⟨_, _, _, _, hs2⟩ hk2 hfx⟩⟩⟩)⟩⟩ d_K_operate_245
    · show Z _ _ _ _ _ _ _ _ 240 _ [.int 0]
      refine z_goto (tgt := 245) C d_K_operate_240 (by decide) ?_
      exact z_iret C ⟨rfl, hframe, ⟨_, _, ht1, ht2, Or.inr (Or.inr ⟨hq, zp_nz hs1.2.2.1 hy9, ⟨(fn, fd), hfo, Or.inr ⟨zf_small hz2, rfl, zwk_mk H hyy (by omega) hz2 ⟨_, _, _, _, hs2⟩ hk2 hfx⟩⟩⟩)⟩⟩ d_K_operate_245
set_option maxHeartbeats 4000000 in
/-- Worker.operate, 5 -/
theorem k_powP (E : zE) (l : Launch) (sz : Nat) (M : zM) {k : Nat} {ys : List (PS × PS)} {l1 : PS × PS} (H : zwk E M k (ys ++ [l1])) (il : isform l1.1 l1.2) (t : Nat) (ht : t ≤ 12) : zMet E l y_K_operate c_K_operate 7 (some .int) { frames := 4, cells := 0, slots := 0, locals := 95 } 0 0 [.ref k, .int (nI 5), .int (nI t)] sz M (fun v s M' => sz = s ∧ zoutR M M' k (k + 97) ∧ (∃ a, hts l1 a ∧ ((12 < t * a ∧ some (.int (-6)) = v ∧ ∃ xs', zwk E M' k xs') ∨ (t * a ≤ 12 ∧ setlR E M' k v ys (ps_pow l1.1 t) (ps_pow l1.2 t))))) := by
  obtain ⟨ff, h0, h1, hl0, hff, ⟨sa, sb, sA, sB, hs⟩, hfm, hal⟩ := id H
  have e9 : (ys ++ [l1]).length = ys.length + 1 := by simp
  rw [e9] at h0 hl0
  obtain ⟨c1, c2, hzl⟩ := hfm ys.length l1 (by simp)
  obtain ⟨u9, hu9⟩ := isf_ne il
  have kd1 := zp_pos hzl.2.2 hu9
  have ht1 := zf_hts hzl kd1
  refine zMet.ofZ (by decide) (Nat.le_of_ble_eq_true rfl) ?_
  intro X hl hini C
  show Z X E 7 _ 0 0 sz M 0 [(0, .ref k), (1, .int (nI 5)), (2, .int (nI t))] []
  refine z_iload_n C d_K_operate_0 rfl rfl ?_
  refine z_callS (rest := []) (n := 1) (As := [.int (nI 5)]) C (g_two E X.2.1 sz _ 5 (by decide)) ⟨z_cb C k_G_hasTwoSides ml_K_74 ii_G rfl rfl (by decide +kernel) ⟨by decide, by decide⟩, C.2.2.2.2.1 _ sm_G_hasTwoSides⟩ rfl rfl (Nat.le_of_ble_eq_true rfl) d_K_operate_1 ⟨by decide, by decide⟩ ?_
  intro v_1 s_1 M_1 hp_1
  obtain ⟨rfl, rfl, rfl⟩ := hp_1
  show Z _ _ _ _ _ _ _ _ 4 _ [.int (if 8 ≤ 5 then 1 else 0)]
  refine z_if_eq (tgt := 11) C d_K_operate_4 (by decide) (fun _ => ?_) (fun c_4 => absurd (by decide) c_4)
  refine z_iconst (v := nI 1) C d_K_operate_11 (by decide) ?_
  refine z_istore_n (L' := [(0, .ref k), (1, .int (nI 5)), (2, .int (nI t)), (3, .int (nI 1))]) C d_K_operate_12 rfl (by decide) rfl ?_
  refine z_aload_n C d_K_operate_13 rfl rfl ?_
  refine z_get C in_K h0 rfl 2 (by decide) fl_K_24 rfl rfl d_K_operate_14 ?_
  refine z_iload_n C d_K_operate_17 rfl rfl ?_
  refine z_icmp_ge (tgt := 24) C d_K_operate_18 (by decide) (fun _ => ?_) (fun c_18 => absurd ((nI_leI (by decide) (by omega)).mpr (by omega)) c_18)
  refine z_aload_n C d_K_operate_24 rfl rfl ?_
  refine z_get C in_K h0 rfl 1 (by decide) fl_K_20 rfl rfl d_K_operate_25 ?_
  refine z_aload_n C d_K_operate_28 rfl rfl ?_
  refine z_get C in_K h0 rfl 2 (by decide) fl_K_24 rfl rfl d_K_operate_29 ?_
  refine z_iconst (v := nI 1) C d_K_operate_32 (by decide) ?_
  refine z_isub C d_K_operate_33 ?_
  refine z_top (y := nI ys.length) (pk_sub (a := ys.length + 1) (b := 1) (by omega)) ?_
  refine z_aald C h1 3 rfl ys.length (rfl) (by omega) (by decide) (congrArg va_rf (hff _ (by omega))) d_K_operate_34 ?_
  refine z_astore (L' := [(0, .ref k), (1, .int (nI 5)), (2, .int (nI t)), (3, .int (nI 1)), (4, .ref (k + 17 + 5 * ys.length))]) C d_K_operate_35 (by decide) rfl ?_
  refine z_aload_n C d_K_operate_37 rfl rfl ?_
  refine z_get C in_K h0 rfl 1 (by decide) fl_K_20 rfl rfl d_K_operate_38 ?_
  refine z_aload_n C d_K_operate_41 rfl rfl ?_
  refine z_get C in_K h0 rfl 2 (by decide) fl_K_24 rfl rfl d_K_operate_42 ?_
  refine z_iload_n C d_K_operate_45 rfl rfl ?_
  refine z_isub C d_K_operate_46 ?_
  refine z_top (y := nI ys.length) (pk_sub (a := ys.length + 1) (b := 1) (by omega)) ?_
  refine z_aald C h1 3 rfl ys.length (rfl) (by omega) (by decide) (congrArg va_rf (hff _ (by omega))) d_K_operate_47 ?_
  refine z_astore (L' := [(0, .ref k), (1, .int (nI 5)), (2, .int (nI t)), (3, .int (nI 1)), (4, .ref (k + 17 + 5 * ys.length)), (5, .ref (k + 17 + 5 * ys.length))]) C d_K_operate_48 (by decide) rfl ?_
  refine z_aload_n C d_K_operate_50 rfl rfl ?_
  refine z_aload_n C d_K_operate_51 rfl rfl ?_
  refine z_get C in_K h0 rfl 2 (by decide) fl_K_24 rfl rfl d_K_operate_52 ?_
  refine z_iload_n C d_K_operate_55 rfl rfl ?_
  refine z_isub C d_K_operate_56 ?_
  refine z_top (y := nI ys.length) (pk_sub (a := ys.length + 1) (b := 1) (by omega)) ?_
  refine z_iconst (v := 1) C d_K_operate_57 (by decide) ?_
  refine z_iadd C d_K_operate_58 ?_
  refine z_top (y := nI (ys.length + 1)) (nI_1 _) ?_
  refine z_put C in_K ty_K tok_K nm_K h0 rfl 2 (by decide) fl_K_24 rfl rfl rfl (rfl) (rfl) (Nat.le_of_ble_eq_true rfl) d_K_operate_59 ?_
  show Z _ _ _ _ _ _ _ (zU M k (.inr (8, [.ref (k + 1), .ref (k + 16), .int (nI (ys.length + 1))]))) _ _ _
  have ho0 : zoutR M (zU M k (.inr (8, [.ref (k + 1), .ref (k + 16), .int (nI (ys.length + 1))]))) k (k + 1) := fun x hq => zU_ne (by omega)
  have hk0 : (zU M k (.inr (8, [.ref (k + 1), .ref (k + 16), .int (nI (ys.length + 1))]))) k = _ := zU_eq
  have hz0 := zf_oR ho0 hzl (by omega)
  have hs0 := zsh_oR ho0 hs (by omega)
  refine z_iconst (v := nI 0) C d_K_operate_62 (by decide) ?_
  refine z_istore (L' := [(0, .ref k), (1, .int (nI 5)), (2, .int (nI t)), (3, .int (nI 1)), (4, .ref (k + 17 + 5 * ys.length)), (5, .ref (k + 17 + 5 * ys.length)), (6, .int (nI 0))]) C d_K_operate_63 (by decide) rfl ?_
  refine z_iload_n C d_K_operate_65 rfl rfl ?_
  refine z_tableIn (off := 124) (tgt := 190) C d_K_operate_66 (by decide) (by decide) (by decide) (by decide) ?_
  refine z_aload_n C d_K_operate_190 rfl rfl ?_
  refine z_get C in_K zU_eq rfl 0 (by decide) fl_K_12 rfl rfl d_K_operate_191 ?_
  refine z_aload C d_K_operate_194 rfl ?_
  refine z_iload_n C d_K_operate_196 rfl rfl ?_
  refine z_callV (rest := []) (n := 2) (As := [.ref (k + 17 + 5 * ys.length), .int (nI t)]) C (w_powP E X.2.1 sz _ hs0 hz0 (by omega) t ht kd1) ⟨z_cb C k_W_power ml_K_92 ii_W rfl rfl (by decide +kernel) ⟨by decide, by decide⟩, C.2.2.2.2.1 _ im_W_power, C.2.2.2.2.1 _ se_W_power⟩ hs0.1 rfl rfl rfl (Nat.le_of_ble_eq_true rfl) d_K_operate_197 ⟨by decide, by decide⟩ ?_
  intro v_w s_w M1 hp_w
  rcases hp_w with ⟨hq, rfl, rfl, rfl⟩ | ⟨hq, rfl, rfl, ⟨wx, wy, hs1⟩, ho1⟩
  · show Z _ _ _ _ _ _ _ _ 200 _ [.int (-6)]
    refine z_istore (L' := [(0, .ref k), (1, .int (nI 5)), (2, .int (nI t)), (3, .int (nI 1)), (4, .ref (k + 17 + 5 * ys.length)), (5, .ref (k + 17 + 5 * ys.length)), (6, .int (-6))]) C d_K_operate_200 (by decide) rfl ?_
    refine z_goto (tgt := 226) C d_K_operate_202 (by decide) ?_
    refine z_iload C d_K_operate_226 rfl ?_
    refine z_if_ne (tgt := 243) C d_K_operate_228 (by decide) (fun _ => ?_) (fun c_228 => absurd c_228 (by decide))
    refine z_iload C d_K_operate_243 rfl ?_
    exact z_iret C ⟨rfl, fun x hq => ho0 x (by omega), ⟨_, ht1, Or.inl ⟨hq, rfl, ⟨_, zwk_mk H (fun i hi => List.getElem?_append_left hi) (by omega) hz0 ⟨_, _, _, _, hs0⟩ hk0 (fun x q1 q2 q3 => ho0 x (by omega))⟩⟩⟩⟩ d_K_operate_245
  · show Z _ _ _ _ _ _ _ _ 200 _ [.int 0]
    have hz1 := zf_oR ho1 hz0 (by omega)
    have hk1 := (ho1 k (by omega)).trans hk0
    refine z_istore (L' := [(0, .ref k), (1, .int (nI 5)), (2, .int (nI t)), (3, .int (nI 1)), (4, .ref (k + 17 + 5 * ys.length)), (5, .ref (k + 17 + 5 * ys.length)), (6, .int (nI 0))]) C d_K_operate_200 (by decide) rfl ?_
    refine z_goto (tgt := 226) C d_K_operate_202 (by decide) ?_
    refine z_iload C d_K_operate_226 rfl ?_
    refine z_if_ne (tgt := 243) C d_K_operate_228 (by decide) (fun c_228 => absurd c_228 (fun q => q (by decide))) (fun _ => ?_)
    refine z_aload_n C d_K_operate_231 rfl rfl ?_
    refine z_get C in_K hk1 rfl 0 (by decide) fl_K_12 rfl rfl d_K_operate_232 ?_
    refine z_aload C d_K_operate_235 rfl ?_
    obtain ⟨i9, hi9⟩ := pow_ne il.2.1 (isf_ne il) t
    have hkd := zp_pos hs1.2.2.1 hi9
    refine z_callV (rest := []) (n := 1) (As := [.ref (k + 17 + 5 * ys.length)]) C (w_settle E X.2.1 sz _ hs1 hkd hz1 (by omega)) ⟨z_cb C k_W_settle ml_K_102 ii_W rfl rfl (by decide +kernel) ⟨by decide, by decide⟩, C.2.2.2.2.1 _ im_W_settle, C.2.2.2.2.1 _ se_W_settle⟩ hs1.1 rfl rfl rfl (Nat.le_of_ble_eq_true rfl) d_K_operate_237 ⟨by decide, by decide⟩ ?_
    intro v_t s_t M2 hp_t
    obtain ⟨rfl, ⟨tx, ty, tA, tB, hs2⟩, hfr2, fn, fd, hfo, hcase⟩ := hp_t
    have hk2 := (hfr2 k (by omega) (by omega)).trans hk1
    have hframe : zoutR M M2 k (k + 97) := fun x hq => (hfr2 x (by omega) (by omega)).trans ((ho1 x (by omega)).trans (ho0 x (by omega)))
    have hfx : ∀ x, x ≠ k → (x < k + 1 ∨ k + 16 ≤ x) → (x < k + 17 + 5 * ys.length + 1 ∨ k + 17 + 5 * ys.length + 5 ≤ x) → M2 x = M x := fun x q1 q2 q3 => (hfr2 x (by omega) (by omega)).trans ((ho1 x (by omega)).trans (ho0 x (by omega)))
    have hyy : ∀ i : Nat, i < ys.length → (ys ++ [l1])[i]? = ys[i]? := fun i hi => List.getElem?_append_left hi
    rcases hcase with ⟨rfl, hbig, ho9⟩ | ⟨rfl, ka, kb, hz2⟩
    · have hz2 := zf_oR ho9 hz1 (by omega)
      show Z _ _ _ _ _ _ _ _ 240 _ [.int (-6)]
      refine z_goto (tgt := 245) C d_K_operate_240 (by decide) ?_
      exact z_iret C ⟨rfl, hframe, ⟨_, ht1, Or.inr ⟨hq, ⟨(fn, fd), hfo, Or.inl ⟨hbig, rfl, _, zwk_mk H hyy (by omega) hz2 ⟨_, _, _, _, hs2⟩ hk2 hfx⟩⟩⟩⟩⟩ d_K_operate_245
    · show Z _ _ _ _ _ _ _ _ 240 _ [.int 0]
      refine z_goto (tgt := 245) C d_K_operate_240 (by decide) ?_
      exact z_iret C ⟨rfl, hframe, ⟨_, ht1, Or.inr ⟨hq, ⟨(fn, fd), hfo, Or.inr ⟨zf_small hz2, rfl, zwk_mk H hyy (by omega) hz2 ⟨_, _, _, _, hs2⟩ hk2 hfx⟩⟩⟩⟩⟩ d_K_operate_245
set_option maxHeartbeats 4000000 in
/-- Worker.operate, 5 -/
theorem k_powN (E : zE) (l : Launch) (sz : Nat) (M : zM) {k : Nat} {ys : List (PS × PS)} {l1 : PS × PS} (H : zwk E M k (ys ++ [l1])) (il : isform l1.1 l1.2) (t : Nat) (ht : t ≤ 12) (ht0 : 0 < t) : zMet E l y_K_operate c_K_operate 7 (some .int) { frames := 4, cells := 0, slots := 0, locals := 95 } 0 0 [.ref k, .int (nI 5), .int (-nI t)] sz M (fun v s M' => sz = s ∧ zoutR M M' k (k + 97) ∧ (((∀ i, l1.1 i = 0) ∧ some (.int (-5)) = v ∧ ∃ xs', zwk E M' k xs') ∨ ((∃ i, l1.1 i ≠ 0) ∧ ∃ a, hts l1 a ∧ ((12 < t * a ∧ some (.int (-6)) = v ∧ ∃ xs', zwk E M' k xs') ∨ (t * a ≤ 12 ∧ setlR E M' k v ys (ps_pow l1.2 t) (ps_pow l1.1 t)))))) := by
  obtain ⟨ff, h0, h1, hl0, hff, ⟨sa, sb, sA, sB, hs⟩, hfm, hal⟩ := id H
  have e9 : (ys ++ [l1]).length = ys.length + 1 := by simp
  rw [e9] at h0 hl0
  obtain ⟨c1, c2, hzl⟩ := hfm ys.length l1 (by simp)
  obtain ⟨u9, hu9⟩ := isf_ne il
  have kd1 := zp_pos hzl.2.2 hu9
  have ht1 := zf_hts hzl kd1
  refine zMet.ofZ (by decide) (Nat.le_of_ble_eq_true rfl) ?_
  intro X hl hini C
  show Z X E 7 _ 0 0 sz M 0 [(0, .ref k), (1, .int (nI 5)), (2, .int (-nI t))] []
  refine z_iload_n C d_K_operate_0 rfl rfl ?_
  refine z_callS (rest := []) (n := 1) (As := [.int (nI 5)]) C (g_two E X.2.1 sz _ 5 (by decide)) ⟨z_cb C k_G_hasTwoSides ml_K_74 ii_G rfl rfl (by decide +kernel) ⟨by decide, by decide⟩, C.2.2.2.2.1 _ sm_G_hasTwoSides⟩ rfl rfl (Nat.le_of_ble_eq_true rfl) d_K_operate_1 ⟨by decide, by decide⟩ ?_
  intro v_1 s_1 M_1 hp_1
  obtain ⟨rfl, rfl, rfl⟩ := hp_1
  show Z _ _ _ _ _ _ _ _ 4 _ [.int (if 8 ≤ 5 then 1 else 0)]
  refine z_if_eq (tgt := 11) C d_K_operate_4 (by decide) (fun _ => ?_) (fun c_4 => absurd (by decide) c_4)
  refine z_iconst (v := nI 1) C d_K_operate_11 (by decide) ?_
  refine z_istore_n (L' := [(0, .ref k), (1, .int (nI 5)), (2, .int (-nI t)), (3, .int (nI 1))]) C d_K_operate_12 rfl (by decide) rfl ?_
  refine z_aload_n C d_K_operate_13 rfl rfl ?_
  refine z_get C in_K h0 rfl 2 (by decide) fl_K_24 rfl rfl d_K_operate_14 ?_
  refine z_iload_n C d_K_operate_17 rfl rfl ?_
  refine z_icmp_ge (tgt := 24) C d_K_operate_18 (by decide) (fun _ => ?_) (fun c_18 => absurd ((nI_leI (by decide) (by omega)).mpr (by omega)) c_18)
  refine z_aload_n C d_K_operate_24 rfl rfl ?_
  refine z_get C in_K h0 rfl 1 (by decide) fl_K_20 rfl rfl d_K_operate_25 ?_
  refine z_aload_n C d_K_operate_28 rfl rfl ?_
  refine z_get C in_K h0 rfl 2 (by decide) fl_K_24 rfl rfl d_K_operate_29 ?_
  refine z_iconst (v := nI 1) C d_K_operate_32 (by decide) ?_
  refine z_isub C d_K_operate_33 ?_
  refine z_top (y := nI ys.length) (pk_sub (a := ys.length + 1) (b := 1) (by omega)) ?_
  refine z_aald C h1 3 rfl ys.length (rfl) (by omega) (by decide) (congrArg va_rf (hff _ (by omega))) d_K_operate_34 ?_
  refine z_astore (L' := [(0, .ref k), (1, .int (nI 5)), (2, .int (-nI t)), (3, .int (nI 1)), (4, .ref (k + 17 + 5 * ys.length))]) C d_K_operate_35 (by decide) rfl ?_
  refine z_aload_n C d_K_operate_37 rfl rfl ?_
  refine z_get C in_K h0 rfl 1 (by decide) fl_K_20 rfl rfl d_K_operate_38 ?_
  refine z_aload_n C d_K_operate_41 rfl rfl ?_
  refine z_get C in_K h0 rfl 2 (by decide) fl_K_24 rfl rfl d_K_operate_42 ?_
  refine z_iload_n C d_K_operate_45 rfl rfl ?_
  refine z_isub C d_K_operate_46 ?_
  refine z_top (y := nI ys.length) (pk_sub (a := ys.length + 1) (b := 1) (by omega)) ?_
  refine z_aald C h1 3 rfl ys.length (rfl) (by omega) (by decide) (congrArg va_rf (hff _ (by omega))) d_K_operate_47 ?_
  refine z_astore (L' := [(0, .ref k), (1, .int (nI 5)), (2, .int (-nI t)), (3, .int (nI 1)), (4, .ref (k + 17 + 5 * ys.length)), (5, .ref (k + 17 + 5 * ys.length))]) C d_K_operate_48 (by decide) rfl ?_
  refine z_aload_n C d_K_operate_50 rfl rfl ?_
  refine z_aload_n C d_K_operate_51 rfl rfl ?_
  refine z_get C in_K h0 rfl 2 (by decide) fl_K_24 rfl rfl d_K_operate_52 ?_
  refine z_iload_n C d_K_operate_55 rfl rfl ?_
  refine z_isub C d_K_operate_56 ?_
  refine z_top (y := nI ys.length) (pk_sub (a := ys.length + 1) (b := 1) (by omega)) ?_
  refine z_iconst (v := 1) C d_K_operate_57 (by decide) ?_
  refine z_iadd C d_K_operate_58 ?_
  refine z_top (y := nI (ys.length + 1)) (nI_1 _) ?_
  refine z_put C in_K ty_K tok_K nm_K h0 rfl 2 (by decide) fl_K_24 rfl rfl rfl (rfl) (rfl) (Nat.le_of_ble_eq_true rfl) d_K_operate_59 ?_
  show Z _ _ _ _ _ _ _ (zU M k (.inr (8, [.ref (k + 1), .ref (k + 16), .int (nI (ys.length + 1))]))) _ _ _
  have ho0 : zoutR M (zU M k (.inr (8, [.ref (k + 1), .ref (k + 16), .int (nI (ys.length + 1))]))) k (k + 1) := fun x hq => zU_ne (by omega)
  have hk0 : (zU M k (.inr (8, [.ref (k + 1), .ref (k + 16), .int (nI (ys.length + 1))]))) k = _ := zU_eq
  have hz0 := zf_oR ho0 hzl (by omega)
  have hs0 := zsh_oR ho0 hs (by omega)
  refine z_iconst (v := nI 0) C d_K_operate_62 (by decide) ?_
  refine z_istore (L' := [(0, .ref k), (1, .int (nI 5)), (2, .int (-nI t)), (3, .int (nI 1)), (4, .ref (k + 17 + 5 * ys.length)), (5, .ref (k + 17 + 5 * ys.length)), (6, .int (nI 0))]) C d_K_operate_63 (by decide) rfl ?_
  refine z_iload_n C d_K_operate_65 rfl rfl ?_
  refine z_tableIn (off := 124) (tgt := 190) C d_K_operate_66 (by decide) (by decide) (by decide) (by decide) ?_
  refine z_aload_n C d_K_operate_190 rfl rfl ?_
  refine z_get C in_K zU_eq rfl 0 (by decide) fl_K_12 rfl rfl d_K_operate_191 ?_
  refine z_aload C d_K_operate_194 rfl ?_
  refine z_iload_n C d_K_operate_196 rfl rfl ?_
  refine z_callV (rest := []) (n := 2) (As := [.ref (k + 17 + 5 * ys.length), .int (-nI t)]) C (w_powN E X.2.1 sz _ hs0 hz0 (by omega) t ht ht0 kd1) ⟨z_cb C k_W_power ml_K_92 ii_W rfl rfl (by decide +kernel) ⟨by decide, by decide⟩, C.2.2.2.2.1 _ im_W_power, C.2.2.2.2.1 _ se_W_power⟩ hs0.1 rfl rfl rfl (Nat.le_of_ble_eq_true rfl) d_K_operate_197 ⟨by decide, by decide⟩ ?_
  intro v_w s_w M1 hp_w
  rcases hp_w with ⟨hq, rfl, rfl, rfl⟩ | ⟨hn9, hq, rfl, rfl, rfl⟩ | ⟨hn9, hq, rfl, rfl, ⟨wx, wy, hs1⟩, ho1⟩
  · show Z _ _ _ _ _ _ _ _ 200 _ [.int (-5)]
    refine z_istore (L' := [(0, .ref k), (1, .int (nI 5)), (2, .int (-nI t)), (3, .int (nI 1)), (4, .ref (k + 17 + 5 * ys.length)), (5, .ref (k + 17 + 5 * ys.length)), (6, .int (-5))]) C d_K_operate_200 (by decide) rfl ?_
    refine z_goto (tgt := 226) C d_K_operate_202 (by decide) ?_
    refine z_iload C d_K_operate_226 rfl ?_
    refine z_if_ne (tgt := 243) C d_K_operate_228 (by decide) (fun _ => ?_) (fun c_228 => absurd c_228 (by decide))
    refine z_iload C d_K_operate_243 rfl ?_
    exact z_iret C ⟨rfl, fun x hq => ho0 x (by omega), Or.inl ⟨zp_zero hz0.2.1 hq, rfl, ⟨_, zwk_mk H (fun i hi => List.getElem?_append_left hi) (by omega) hz0 ⟨_, _, _, _, hs0⟩ hk0 (fun x q1 q2 q3 => ho0 x (by omega))⟩⟩⟩ d_K_operate_245
  · show Z _ _ _ _ _ _ _ _ 200 _ [.int (-6)]
    refine z_istore (L' := [(0, .ref k), (1, .int (nI 5)), (2, .int (-nI t)), (3, .int (nI 1)), (4, .ref (k + 17 + 5 * ys.length)), (5, .ref (k + 17 + 5 * ys.length)), (6, .int (-6))]) C d_K_operate_200 (by decide) rfl ?_
    refine z_goto (tgt := 226) C d_K_operate_202 (by decide) ?_
    refine z_iload C d_K_operate_226 rfl ?_
    refine z_if_ne (tgt := 243) C d_K_operate_228 (by decide) (fun _ => ?_) (fun c_228 => absurd c_228 (by decide))
    refine z_iload C d_K_operate_243 rfl ?_
    exact z_iret C ⟨rfl, fun x hq => ho0 x (by omega), Or.inr ⟨zp_nz hz0.2.1 hn9, _, ht1, Or.inl ⟨hq, rfl, ⟨_, zwk_mk H (fun i hi => List.getElem?_append_left hi) (by omega) hz0 ⟨_, _, _, _, hs0⟩ hk0 (fun x q1 q2 q3 => ho0 x (by omega))⟩⟩⟩⟩ d_K_operate_245
  · show Z _ _ _ _ _ _ _ _ 200 _ [.int 0]
    have hz1 := zf_oR ho1 hz0 (by omega)
    have hk1 := (ho1 k (by omega)).trans hk0
    refine z_istore (L' := [(0, .ref k), (1, .int (nI 5)), (2, .int (-nI t)), (3, .int (nI 1)), (4, .ref (k + 17 + 5 * ys.length)), (5, .ref (k + 17 + 5 * ys.length)), (6, .int (nI 0))]) C d_K_operate_200 (by decide) rfl ?_
    refine z_goto (tgt := 226) C d_K_operate_202 (by decide) ?_
    refine z_iload C d_K_operate_226 rfl ?_
    refine z_if_ne (tgt := 243) C d_K_operate_228 (by decide) (fun c_228 => absurd c_228 (fun q => q (by decide))) (fun _ => ?_)
    refine z_aload_n C d_K_operate_231 rfl rfl ?_
    refine z_get C in_K hk1 rfl 0 (by decide) fl_K_12 rfl rfl d_K_operate_232 ?_
    refine z_aload C d_K_operate_235 rfl ?_
    obtain ⟨i9, hi9⟩ := pow_ne il.1 (zp_nz hz0.2.1 hn9) t
    have hkd := zp_pos hs1.2.2.1 hi9
    refine z_callV (rest := []) (n := 1) (As := [.ref (k + 17 + 5 * ys.length)]) C (w_settle E X.2.1 sz _ hs1 hkd hz1 (by omega)) ⟨z_cb C k_W_settle ml_K_102 ii_W rfl rfl (by decide +kernel) ⟨by decide, by decide⟩, C.2.2.2.2.1 _ im_W_settle, C.2.2.2.2.1 _ se_W_settle⟩ hs1.1 rfl rfl rfl (Nat.le_of_ble_eq_true rfl) d_K_operate_237 ⟨by decide, by decide⟩ ?_
    intro v_t s_t M2 hp_t
    obtain ⟨rfl, ⟨tx, ty, tA, tB, hs2⟩, hfr2, fn, fd, hfo, hcase⟩ := hp_t
    have hk2 := (hfr2 k (by omega) (by omega)).trans hk1
    have hframe : zoutR M M2 k (k + 97) := fun x hq => (hfr2 x (by omega) (by omega)).trans ((ho1 x (by omega)).trans (ho0 x (by omega)))
    have hfx : ∀ x, x ≠ k → (x < k + 1 ∨ k + 16 ≤ x) → (x < k + 17 + 5 * ys.length + 1 ∨ k + 17 + 5 * ys.length + 5 ≤ x) → M2 x = M x := fun x q1 q2 q3 => (hfr2 x (by omega) (by omega)).trans ((ho1 x (by omega)).trans (ho0 x (by omega)))
    have hyy : ∀ i : Nat, i < ys.length → (ys ++ [l1])[i]? = ys[i]? := fun i hi => List.getElem?_append_left hi
    rcases hcase with ⟨rfl, hbig, ho9⟩ | ⟨rfl, ka, kb, hz2⟩
    · have hz2 := zf_oR ho9 hz1 (by omega)
      show Z _ _ _ _ _ _ _ _ 240 _ [.int (-6)]
      refine z_goto (tgt := 245) C d_K_operate_240 (by decide) ?_
      exact z_iret C ⟨rfl, hframe, Or.inr ⟨zp_nz hz0.2.1 hn9, _, ht1, Or.inr ⟨hq, ⟨(fn, fd), hfo, Or.inl ⟨hbig, rfl, _, zwk_mk H hyy (by omega) hz2 ⟨_, _, _, _, hs2⟩ hk2 hfx⟩⟩⟩⟩⟩ d_K_operate_245
    · show Z _ _ _ _ _ _ _ _ 240 _ [.int 0]
      refine z_goto (tgt := 245) C d_K_operate_240 (by decide) ?_
      exact z_iret C ⟨rfl, hframe, Or.inr ⟨zp_nz hz0.2.1 hn9, _, ht1, Or.inr ⟨hq, ⟨(fn, fd), hfo, Or.inr ⟨zf_small hz2, rfl, zwk_mk H hyy (by omega) hz2 ⟨_, _, _, _, hs2⟩ hk2 hfx⟩⟩⟩⟩⟩ d_K_operate_245
end
section
/-! what is asked for, as functions: the FORM of a quotient, the operations, a program worked out -/
theorem zMet.mono {E : zE} {l : Launch} {y : MethodName} {cc : ByteArray} {maxL : Nat} {ret : Option FieldType} {rm : Room} {mc ms : Nat} {av : List Value} {sz : Nat} {M : zM} {post post' : Option Value → Nat → zM → Prop} (h : zMet E l y cc maxL ret rm mc ms av sz M post) (hp : ∀ v s M', post v s M' → post' v s M') : zMet E l y cc maxL ret rm mc ms av sz M post' := by
  intro p e ha hc hk s m args below hf happ hP hK
  obtain ⟨k, o, h1, h2, h3, ⟨⟨v, s', M', e1, e2, e3⟩, e4⟩, e5⟩ := h p e ha hc hk s m args below hf happ hP hK
  exact ⟨k, o, h1, h2, h3, ⟨⟨v, s', M', e1, hp _ _ _ e2, e3⟩, e4⟩, e5⟩
noncomputable def pif {α : Type} (c : Prop) (a b : α) : α := @ite α c (Classical.propDecidable c) a b
theorem pif_t {α : Type} {c : Prop} {a b : α} (h : c) : pif c a b = a := @if_pos c (Classical.propDecidable c) h α a b
theorem pif_f {α : Type} {c : Prop} {a b : α} (h : ¬ c) : pif c a b = b := @if_neg c (Classical.propDecidable c) h α a b
noncomputable def fOf (N D : PS) : PS × PS := @Classical.epsilon (PS × PS) ⟨(ps_0, ps_0)⟩ (fun x => formof N D x.1 x.2)
theorem fOf_eq {N D : PS} {x : PS × PS} {i : Nat} (hD : D i ≠ 0) (h : formof N D x.1 x.2) : fOf N D = x := by
  have h2 : formof N D (fOf N D).1 (fOf N D).2 := @Classical.epsilon_spec (PS × PS) (fun x => formof N D x.1 x.2) ⟨x, h⟩
  obtain ⟨e1, e2⟩ := formof_un hD h2 h
  exact Prod.ext e1 e2
/-- a trouble, or a FORM -/
abbrev Res : Type := Int32 ⊕ (PS × PS)
noncomputable def setl (N D : PS) : Res := pif (bigF (fOf N D)) (.inl (-6)) (.inr (fOf N D))
theorem setl_big {N D : PS} {x : PS × PS} {i : Nat} (hD : D i ≠ 0) (h : formof N D x.1 x.2) (hb : bigF x) : setl N D = .inl (-6) := by
  unfold setl
  rw [fOf_eq hD h, pif_t hb]
theorem setl_ok {N D : PS} {x : PS × PS} {i : Nat} (hD : D i ≠ 0) (h : formof N D x.1 x.2) (hb : ¬ bigF x) : setl N D = .inr x := by
  unfold setl
  rw [fOf_eq hD h, pif_f hb]
theorem hts_un {x : PS × PS} {a b : Nat} (h1 : hts x a) (h2 : hts x b) : a = b := by
  rcases Nat.lt_trichotomy a b with q | q | q
  · rcases h2.2.2 with e | e
    · exact absurd (h1.1 b q) e
    · exact absurd (h1.2.1 b q) e
  · exact q
  · rcases h1.2.2 with e | e
    · exact absurd (h2.1 a q) e
    · exact absurd (h2.2.1 a q) e
noncomputable def hgt (x : PS × PS) : Nat := @Classical.epsilon Nat ⟨0⟩ (hts x)
theorem hgt_eq {x : PS × PS} {a : Nat} (h : hts x a) : hgt x = a := hts_un (@Classical.epsilon_spec Nat (hts x) ⟨a, h⟩) h
noncomputable def oAdd (c : FF) (l r : PS × PS) : Res := setl (ps_add (ps_mul l.1 r.2) (ps_mul (ps_C c) (ps_mul r.1 l.2))) (ps_mul l.2 r.2)
noncomputable def oMul (l r : PS × PS) : Res := setl (ps_mul l.1 r.1) (ps_mul l.2 r.2)
noncomputable def oDiv (l r : PS × PS) : Res := pif (∀ i, r.1 i = 0) (.inl (-5)) (setl (ps_mul l.1 r.2) (ps_mul l.2 r.1))
noncomputable def oNeg (l : PS × PS) : Res := setl (ps_mul (ps_C 10006) l.1) l.2
noncomputable def oDer (l : PS × PS) : Res := setl (ps_add (ps_mul (ps_der l.1) l.2) (ps_mul (ps_C 10006) (ps_mul l.1 (ps_der l.2)))) (ps_mul l.2 l.2)
noncomputable def oPowP (t : Nat) (l : PS × PS) : Res := pif (12 < t * hgt l) (.inl (-6)) (setl (ps_pow l.1 t) (ps_pow l.2 t))
noncomputable def oPowN (t : Nat) (l : PS × PS) : Res := pif (∀ i, l.1 i = 0) (.inl (-5)) (pif (12 < t * hgt l) (.inl (-6)) (setl (ps_pow l.2 t) (ps_pow l.1 t)))
noncomputable def oComp (l r : PS × PS) : Res := pif (12 < hgt l * hgt r) (.inl (-6)) (pif (∀ i, hom (hgt l) l.2 r.1 r.2 i = 0) (.inl (-5)) (setl (hom (hgt l) l.1 r.1 r.2) (hom (hgt l) l.2 r.1 r.2)))
/-- what the worker holds behind a step -/
def resK (E : zE) (M' : zM) (k : Nat) (v : Option Value) (ys : List (PS × PS)) (r : Res) : Prop := match r with
  | .inl t => some (.int t) = v ∧ ¬ t = 0 ∧ ∃ xs', zwk E M' k xs'
  | .inr x => some (.int 0) = v ∧ isform x.1 x.2 ∧ zwk E M' k (ys ++ [x])
theorem setlR_K {E : zE} {M' : zM} {k : Nat} {v : Option Value} {ys : List (PS × PS)} {N D : PS} {i : Nat} (hD : D i ≠ 0) (h : setlR E M' k v ys N D) : resK E M' k v ys (setl N D) := by
  obtain ⟨x, hf, ⟨hb, e, hx⟩ | ⟨hb, e, hx⟩⟩ := h
  · rw [setl_big hD hf hb]; exact ⟨e, by decide, hx⟩
  · rw [setl_ok hD hf hb]; exact ⟨e, hf.1, hx⟩
def stepPost (E : zE) (M : zM) (sz k : Nat) (ys : List (PS × PS)) (r : Res) : Option Value → Nat → zM → Prop := fun v s M' => sz = s ∧ zoutR M M' k (k + 97) ∧ resK E M' k v ys r
/-- the steps of two sides -/
noncomputable def op2 (kd : Nat) (l r : PS × PS) : Res := match kd with
  | 8 => oAdd 1 l r
  | 9 => oAdd 10006 l r
  | 10 => oMul l r
  | 11 => oDiv l r
  | _ => oComp l r
/-- the steps of one side; the power's exponent -/
noncomputable def op1 (kd : Nat) (e : Int) (l : PS × PS) : Res := match kd with
  | 5 => if 0 ≤ e then oPowP e.toNat l else oPowN (-e).toNat l
  | 7 => oDer l
  | _ => oNeg l
theorem nz_of {P : PS} (h : ¬ ∀ i, P i = 0) : ∃ i, P i ≠ 0 := Classical.not_forall.mp h
end
section
theorem k_op2 (E : zE) (l : Launch) (sz : Nat) (M : zM) {k : Nat} {ys : List (PS × PS)} {l1 r1 : PS × PS} (H : zwk E M k (ys ++ [l1, r1])) (il : isform l1.1 l1.2) (ir : isform r1.1 r1.2) (kd : Nat) (h8 : 8 ≤ kd) (h12 : kd ≤ 12) (y : Int32) : zMet E l y_K_operate c_K_operate 7 (some .int) { frames := 4, cells := 0, slots := 0, locals := 95 } 0 0 [.ref k, .int (nI kd), .int y] sz M (stepPost E M sz k ys (op2 kd l1 r1)) := by
  obtain ⟨i1, h1⟩ := isf_ne il
  obtain ⟨i2, h2⟩ := isf_ne ir
  obtain ⟨i3, h3⟩ := mul_ne il.2.1 ir.2.1 ⟨i1, h1⟩ ⟨i2, h2⟩
  rcases (show kd = 8 ∨ kd = 9 ∨ kd = 10 ∨ kd = 11 ∨ kd = 12 by omega) with rfl | rfl | rfl | rfl | rfl
  · exact (k_add E l sz M H il ir y).mono (fun v s M' h => ⟨h.1, h.2.1, setlR_K h3 h.2.2⟩)
  · exact (k_sub E l sz M H il ir y).mono (fun v s M' h => ⟨h.1, h.2.1, setlR_K h3 h.2.2⟩)
  · exact (k_mul E l sz M H il ir y).mono (fun v s M' h => ⟨h.1, h.2.1, setlR_K h3 h.2.2⟩)
  · refine (k_div E l sz M H il ir y).mono (fun v s M' h => ⟨h.1, h.2.1, ?_⟩)
    show resK E M' k v ys (oDiv l1 r1)
    unfold oDiv
    rcases h.2.2 with ⟨a, b, c⟩ | ⟨a, b⟩
    · rw [pif_t a]; exact ⟨b, by decide, c⟩
    · obtain ⟨i4, h4⟩ := mul_ne il.2.1 ir.1 ⟨i1, h1⟩ a
      rw [pif_f (fun q => a.elim (fun i e => e (q i)))]; exact setlR_K h4 b
  · refine (k_comp E l sz M H il ir y).mono (fun v s M' h => ⟨h.1, h.2.1, ?_⟩)
    show resK E M' k v ys (oComp l1 r1)
    unfold oComp
    obtain ⟨a, b, ha, hb, h⟩ := h.2.2
    rw [hgt_eq ha, hgt_eq hb]
    rcases h with ⟨q, e, c⟩ | ⟨q, z, e, c⟩ | ⟨q, z, c⟩
    · rw [pif_t q]; exact ⟨e, by decide, c⟩
    · rw [pif_f (by omega), pif_t z]; exact ⟨e, by decide, c⟩
    · obtain ⟨i4, h4⟩ := z
      rw [pif_f (by omega), pif_f (fun q => h4 (q i4))]; exact setlR_K h4 c
theorem k_op1 (E : zE) (l : Launch) (sz : Nat) (M : zM) {k : Nat} {ys : List (PS × PS)} {l1 : PS × PS} (H : zwk E M k (ys ++ [l1])) (il : isform l1.1 l1.2) (kd : Nat) (h8 : 5 ≤ kd) (h12 : kd ≤ 7) (e : Int) (he : -12 ≤ e ∧ e ≤ 12) : zMet E l y_K_operate c_K_operate 7 (some .int) { frames := 4, cells := 0, slots := 0, locals := 95 } 0 0 [.ref k, .int (nI kd), .int (Int32.ofInt e)] sz M (stepPost E M sz k ys (op1 kd e l1)) := by
  obtain ⟨i1, h1⟩ := isf_ne il
  rcases (show kd = 5 ∨ kd = 6 ∨ kd = 7 by omega) with rfl | rfl | rfl
  · show zMet _ _ _ _ _ _ _ _ _ _ _ _ (stepPost E M sz k ys (if 0 ≤ e then oPowP e.toNat l1 else oPowN (-e).toNat l1))
    by_cases hp : 0 ≤ e
    · rw [if_pos hp]
      obtain ⟨t, rfl⟩ : ∃ t : Nat, e = (t : Int) := ⟨e.toNat, by omega⟩
      obtain ⟨i4, h4⟩ := pow_ne il.2.1 ⟨i1, h1⟩ t
      refine (k_powP E l sz M H il t (by omega)).mono (fun v s M' h => ⟨h.1, h.2.1, ?_⟩)
      show resK E M' k v ys (oPowP t l1)
      unfold oPowP
      obtain ⟨a, ha, ⟨q, e, c⟩ | ⟨q, c⟩⟩ := h.2.2
      · rw [hgt_eq ha, pif_t q]; exact ⟨e, by decide, c⟩
      · rw [hgt_eq ha, pif_f (by omega)]; exact setlR_K h4 c
    · rw [if_neg hp]
      obtain ⟨t, ht0, rfl⟩ : ∃ t : Nat, 0 < t ∧ e = -(t : Int) := ⟨(-e).toNat, by omega, by omega⟩
      have e1 : Int32.ofInt (-(t : Int)) = -nI t := by
        rw [Int32.ofInt_neg]; rfl
      rw [e1]
      refine (k_powN E l sz M H il t (by omega) ht0).mono (fun v s M' h => ⟨h.1, h.2.1, ?_⟩)
      rw [show (- -(t : Int)).toNat = t by omega]
      unfold oPowN
      rcases h.2.2 with ⟨z, e, c⟩ | ⟨z, a, ha, ⟨q, e, c⟩ | ⟨q, c⟩⟩
      · rw [pif_t z]; exact ⟨e, by decide, c⟩
      · rw [pif_f (fun q => z.elim (fun i e => e (q i))), hgt_eq ha, pif_t q]; exact ⟨e, by decide, c⟩
      · obtain ⟨i4, h4⟩ := pow_ne il.1 z t
        rw [pif_f (fun q => z.elim (fun i e => e (q i))), hgt_eq ha, pif_f (by omega)]; exact setlR_K h4 c
  · exact (k_neg E l sz M H il (Int32.ofInt e)).mono (fun v s M' h => ⟨h.1, h.2.1, setlR_K h1 h.2.2⟩)
  · obtain ⟨i4, h4⟩ := mul_ne il.2.1 il.2.1 ⟨i1, h1⟩ ⟨i1, h1⟩
    exact (k_der E l sz M H il (Int32.ofInt e)).mono (fun v s M' h => ⟨h.1, h.2.1, setlR_K h4 h.2.2⟩)
end
section
/-! a program worked out, as a function; the stack's top stands first -/
noncomputable def push (r : Res) (ys : List (PS × PS)) : Int32 ⊕ List (PS × PS) := match r with
  | .inl t => .inl t
  | .inr f => .inr (f :: ys)
noncomputable def labF (fs : List (PS × PS)) (n : Nat) : Res := if n = 0 then .inl (-4) else match fs[n - 1]? with
  | some f => .inr f
  | none => .inl (-4)
noncomputable def stp (fs : List (PS × PS)) (nb : Nat → Nat) (x : Nat × Int) (rs : List (PS × PS)) : Int32 ⊕ List (PS × PS) :=
  if x.1 = 1 then .inr ((ps_C (Fin.ofNat 10007 x.2.toNat), ps_C 1) :: rs)
  else if x.1 = 2 then .inr ((mono 1 1, ps_C 1) :: rs)
  else if x.1 = 3 then push (labF fs (nb x.2.toNat)) rs
  else if x.1 = 4 then push (labF fs x.2.toNat) rs
  else if x.1 ≤ 7 then match rs with
    | l :: ys => push (op1 x.1 x.2 l) ys
    | [] => .inl (-6)
  else match rs with
    | r :: l :: ys => push (op2 x.1 l r) ys
    | _ => .inl (-6)
noncomputable def evp (fs : List (PS × PS)) (nb : Nat → Nat) : List (Nat × Int) → List (PS × PS) → Int32 ⊕ List (PS × PS)
  | [], rs => .inr rs
  | x :: ps, rs => match stp fs nb x rs with
    | .inl t => .inl t
    | .inr rs' => evp fs nb ps rs'
/-- a step can be done on a stack of d FORMs -/
def vst (x : Nat × Int) (d : Nat) : Prop := (x.1 = 1 ∧ 0 ≤ x.2 ∧ x.2 ≤ 99999 ∧ d < 16) ∨ (x.1 = 2 ∧ d < 16) ∨ (x.1 = 3 ∧ 0 ≤ x.2 ∧ x.2 < 3 ∧ d < 16) ∨ (x.1 = 4 ∧ 0 ≤ x.2 ∧ x.2 ≤ 99 ∧ d < 16) ∨ (5 ≤ x.1 ∧ x.1 ≤ 7 ∧ -12 ≤ x.2 ∧ x.2 ≤ 12 ∧ 1 ≤ d) ∨ (8 ≤ x.1 ∧ x.1 ≤ 12 ∧ 2 ≤ d)
def dst (x : Nat × Int) (d : Nat) : Nat := if x.1 ≤ 4 then d + 1 else if x.1 ≤ 7 then d else d - 1
def wfp : List (Nat × Int) → Nat → Prop
  | [], _ => True
  | x :: ps, d => vst x d ∧ wfp ps (dst x d)
def stK (E : zE) (M' : zM) (k : Nat) (v : Option Value) (d : Nat) (r : Int32 ⊕ List (PS × PS)) : Prop := match r with
  | .inl t => some (.int t) = v ∧ ¬ t = 0 ∧ ∃ xs', zwk E M' k xs'
  | .inr rs' => some (.int 0) = v ∧ (∀ x ∈ rs', isform x.1 x.2) ∧ zwk E M' k rs'.reverse ∧ rs'.length = d
theorem isf_C (c : FF) : isform (ps_C c) (ps_C 1) := by
  refine ⟨pol_C c, pol_C 1, ⟨ps_C 0, ps_C 1, pol_C 0, pol_C 1, ?_⟩, 0, ⟨by decide, fun i hi => by simp [ps_C, show i ≠ 0 by omega]⟩, rfl⟩
  letI := ps_ring
  show (0 : PS) * ps_C c + 1 * 1 = 1
  grind
theorem isf_X : isform (mono 1 1) (ps_C 1) := by
  refine ⟨pol_mono 1 1, pol_C 1, ⟨ps_C 0, ps_C 1, pol_C 0, pol_C 1, ?_⟩, 0, ⟨by decide, fun i hi => by simp [ps_C, show i ≠ 0 by omega]⟩, rfl⟩
  letI := ps_ring
  show (0 : PS) * mono 1 1 + 1 * 1 = 1
  grind
theorem push_K {E : zE} {M' : zM} {k : Nat} {v : Option Value} {ys : List (PS × PS)} {r : Res} (hy : ∀ x ∈ ys, isform x.1 x.2) (h : resK E M' k v ys.reverse r) : stK E M' k v (ys.length + 1) (push r ys) := by
  cases r with
  | inl t => exact h
  | inr f =>
    obtain ⟨h1, h2, h3⟩ := h
    refine ⟨h1, fun x hx => ?_, by rw [List.reverse_cons]; exact h3, by simp⟩
    rcases List.mem_cons.mp hx with q | q
    · rw [q]; exact h2
    · exact hy x q
theorem ofI_n {n : Nat} : Int32.ofInt (n : Int) = nI n := rfl
end
section
theorem k_loadA (E : zE) (l : Launch) (sz : Nat) (M : zM) {k : Nat} {rs : List (PS × PS)} (H : zwk E M k rs.reverse) (hf : ∀ x ∈ rs, isform x.1 x.2) {h : Nat} {fs : List (PS × PS)} {ss : List Nat} {nb : Nat → Nat} {sc : Nat} (S : zsf E M h fs ss nb sc) (ah : k + 97 ≤ h ∨ h + 204 ≤ k) (hfs : ∀ x ∈ fs, isform x.1 x.2) (x : Nat × Int) (hv : vst x rs.length) (h4 : x.1 ≤ 4) : zMet E l y_K_load c_K_load 6 (some .int) { frames := 3, cells := 0, slots := 0, locals := 64 } 0 0 [.ref k, .int (nI x.1), .int (Int32.ofInt x.2), .ref h] sz M (fun v s M' => sz = s ∧ zoutR M M' k (k + 97) ∧ stK E M' k v (dst x rs.length) (stp fs nb x rs)) := by
  obtain ⟨kd, e⟩ := x
  have hb : fs.length ≤ 40 := by
    obtain ⟨_, _, _, _, _, _, _, ⟨q, _⟩, _⟩ := S
    exact q
  have hnb : ∀ i, i < 3 → nb i ≤ fs.length := by
    obtain ⟨_, _, _, _, _, _, _, _, _, _, q, _⟩ := S
    exact fun i hi => (q i hi).2
  have lk : ∀ (n : Nat), n < 200 → ∀ {v : Option Value} {M' : zM}, ((∃ i : Nat, i < fs.length ∧ nI n = nI (i + 1) ∧ some (.int 0) = v ∧ ∃ x, fs[i]? = some x ∧ zwk E M' k (rs.reverse ++ [x])) ∨ ((¬ ∃ i : Nat, i < fs.length ∧ nI n = nI (i + 1)) ∧ some (.int (-4)) = v ∧ ∃ xs', zwk E M' k xs')) → stK E M' k v (rs.length + 1) (push (labF fs n) rs) := by
    intro n hn v M' hq
    refine push_K hf ?_
    rcases hq with ⟨i, hi, e, ev, x, hx, hz⟩ | ⟨hno, ev, hz⟩
    · have e := (nI_eq (by omega) (by omega)).mp e
      have q : labF fs n = .inr x := by
        unfold labF
        rw [if_neg (by omega), show n - 1 = i by omega, hx]
      rw [q]
      exact ⟨ev, hfs x (List.mem_of_getElem? hx), hz⟩
    · have q : labF fs n = .inl (-4) := by
        unfold labF
        by_cases q0 : n = 0
        · rw [if_pos q0]
        · rw [if_neg q0]
          cases hx : fs[n - 1]? with
          | none => rfl
          | some x => exact absurd ⟨n - 1, (List.getElem?_eq_some_iff.mp hx).1, by congr 1; omega⟩ hno
      rw [q]
      exact ⟨ev, by decide, hz⟩
  have hd : dst (kd, e) rs.length = rs.length + 1 := if_pos h4
  rw [hd]
  rcases hv with ⟨rfl, e1, e2, hl⟩ | ⟨rfl, hl⟩ | ⟨rfl, e1, e2, hl⟩ | ⟨rfl, e1, e2, hl⟩ | ⟨q, -⟩ | ⟨q, -⟩
  · obtain ⟨n, rfl⟩ : ∃ n : Nat, e = (n : Int) := ⟨e.toNat, by omega⟩
    refine (k_loadC E l sz M H (by simpa using hl) n (by omega)).mono (fun v s M' q => ⟨q.1, q.2.2.1, ?_⟩)
    rw [show stp fs nb (1, (n : Int)) rs = push (.inr (ps_C (Fin.ofNat 10007 n), ps_C 1)) rs from rfl]
    exact push_K hf ⟨q.2.1, isf_C _, q.2.2.2⟩
  · refine (k_loadX E l sz M H (by simpa using hl)).mono (fun v s M' q => ⟨q.1, q.2.2.1, ?_⟩)
    rw [show stp fs nb (2, e) rs = push (.inr (mono 1 1, ps_C 1)) rs from rfl]
    exact push_K hf ⟨q.2.1, isf_X, q.2.2.2⟩
  · obtain ⟨n, rfl⟩ : ∃ n : Nat, e = (n : Int) := ⟨e.toNat, by omega⟩
    refine (k_loadN E l sz M H (by simpa using hl) S ah n (by omega)).mono (fun v s M' q => ⟨q.1, q.2.1, ?_⟩)
    rw [show stp fs nb (3, (n : Int)) rs = push (labF fs (nb n)) rs from rfl]
    exact lk (nb n) (by have := hnb n (by omega); omega) q.2.2
  · obtain ⟨n, rfl⟩ : ∃ n : Nat, e = (n : Int) := ⟨e.toNat, by omega⟩
    refine (k_loadL E l sz M H (by simpa using hl) S ah (nI n)).mono (fun v s M' q => ⟨q.1, q.2.1, ?_⟩)
    rw [show stp fs nb (4, (n : Int)) rs = push (labF fs n) rs from rfl]
    exact lk n (by omega) q.2.2
  · exact absurd q (by show ¬ 5 ≤ kd; have : kd ≤ 4 := h4; omega)
  · exact absurd q (by show ¬ 8 ≤ kd; have : kd ≤ 4 := h4; omega)
theorem k_operA (E : zE) (l : Launch) (sz : Nat) (M : zM) {k : Nat} {rs : List (PS × PS)} (H : zwk E M k rs.reverse) (hf : ∀ x ∈ rs, isform x.1 x.2) (fs : List (PS × PS)) (nb : Nat → Nat) (x : Nat × Int) (hv : vst x rs.length) (h4 : ¬ x.1 ≤ 4) : zMet E l y_K_operate c_K_operate 7 (some .int) { frames := 4, cells := 0, slots := 0, locals := 95 } 0 0 [.ref k, .int (nI x.1), .int (Int32.ofInt x.2)] sz M (fun v s M' => sz = s ∧ zoutR M M' k (k + 97) ∧ stK E M' k v (dst x rs.length) (stp fs nb x rs)) := by
  obtain ⟨kd, e⟩ := x
  have h4 : ¬ kd ≤ 4 := h4
  rcases hv with ⟨q, -⟩ | ⟨q, -⟩ | ⟨q, -⟩ | ⟨q, -⟩ | ⟨q1, q2, q3, q4, q5⟩ | ⟨q1, q2, q3⟩
  · exact absurd (show kd ≤ 4 by have : kd = 1 := q; omega) h4
  · exact absurd (show kd ≤ 4 by have : kd = 2 := q; omega) h4
  · exact absurd (show kd ≤ 4 by have : kd = 3 := q; omega) h4
  · exact absurd (show kd ≤ 4 by have : kd = 4 := q; omega) h4
  · have q1 : 5 ≤ kd := q1
    have q2 : kd ≤ 7 := q2
    cases rs with
    | nil => exact absurd q5 (by simp)
    | cons l1 ys =>
      have il := hf l1 List.mem_cons_self
      have hy : ∀ x ∈ ys, isform x.1 x.2 := fun x hx => hf x (List.mem_cons_of_mem _ hx)
      rw [List.reverse_cons] at H
      refine (k_op1 E l sz M H il kd q1 q2 e ⟨q3, q4⟩).mono (fun v s M' q => ⟨q.1, q.2.1, ?_⟩)
      have e1 : stp fs nb (kd, e) (l1 :: ys) = push (op1 kd e l1) ys := by
        unfold stp
        rw [if_neg (show ¬ kd = 1 by omega), if_neg (show ¬ kd = 2 by omega), if_neg (show ¬ kd = 3 by omega), if_neg (show ¬ kd = 4 by omega), if_pos (show kd ≤ 7 by omega)]
      have e2 : dst (kd, e) (l1 :: ys).length = ys.length + 1 := by
        unfold dst
        rw [if_neg (show ¬ kd ≤ 4 by omega), if_pos (show kd ≤ 7 by omega)]; rfl
      rw [e1, e2]
      exact push_K hy q.2.2
  · have q1 : 8 ≤ kd := q1
    have q2 : kd ≤ 12 := q2
    cases rs with
    | nil => exact absurd q3 (by simp)
    | cons r1 ys =>
      cases ys with
      | nil => exact absurd q3 (by simp)
      | cons l1 ys =>
        have ir := hf r1 List.mem_cons_self
        have il := hf l1 (List.mem_cons_of_mem _ List.mem_cons_self)
        have hy : ∀ x ∈ ys, isform x.1 x.2 := fun x hx => hf x (List.mem_cons_of_mem _ (List.mem_cons_of_mem _ hx))
        rw [List.reverse_cons, List.reverse_cons, List.append_assoc] at H
        refine (k_op2 E l sz M H il ir kd q1 q2 (Int32.ofInt e)).mono (fun v s M' q => ⟨q.1, q.2.1, ?_⟩)
        have e1 : stp fs nb (kd, e) (r1 :: l1 :: ys) = push (op2 kd l1 r1) ys := by
          unfold stp
          rw [if_neg (show ¬ kd = 1 by omega), if_neg (show ¬ kd = 2 by omega), if_neg (show ¬ kd = 3 by omega), if_neg (show ¬ kd = 4 by omega), if_neg (show ¬ kd ≤ 7 by omega)]
        have e2 : dst (kd, e) (r1 :: l1 :: ys).length = ys.length + 1 := by
          unfold dst
          rw [if_neg (show ¬ kd ≤ 4 by omega), if_neg (show ¬ kd ≤ 7 by omega)]; simp
        rw [e1, e2]
        exact push_K hy q.2.2
def img (x : Nat × Int) : Int32 × Int32 := (nI x.1, Int32.ofInt x.2)
theorem vst_lt {x : Nat × Int} {d : Nat} (h : vst x d) : x.1 < 100 := by
  rcases h with h | h | h | h | h | h <;> omega
set_option maxHeartbeats 4000000 in
/-- Worker.run -/
theorem k_run (E : zE) (l : Launch) (sz : Nat) (M : zM) {k : Nat} {xs : List (PS × PS)} (H : zwk E M k xs) {h : Nat} {fs : List (PS × PS)} {ss : List Nat} {nb : Nat → Nat} {sc : Nat} (S : zsf E M h fs ss nb sc) (ah : k + 97 ≤ h ∨ h + 204 ≤ k) (hfs : ∀ x ∈ fs, isform x.1 x.2) {g : Nat} {ps : List (Nat × Int)} {tg : Int32} (G : zpg E M g (ps.map img) tg) (ag : k + 97 ≤ g ∨ g + 3 ≤ k) (hw : wfp ps 0) : zMet E l y_K_run c_K_run 6 (some .int) { frames := 5, cells := 0, slots := 0, locals := 121 } 0 0 [.ref k, .ref g, .ref h] sz M (fun v s M' => sz = s ∧ zoutR M M' k (k + 97) ∧ (match evp fs nb ps [] with | .inl t => some (.int t) = v ∧ ¬ t = 0 ∧ ∃ xs', zwk E M' k xs' | .inr rs => some (.int 0) = v ∧ (∀ x ∈ rs, isform x.1 x.2) ∧ zwk E M' k rs.reverse)) := by
  obtain ⟨ff, h0, h1, hl1, hff, hs, hfm, hal⟩ := id H
  obtain ⟨kf, df, g0, g1, g2, gl, gf⟩ := id G
  rw [List.length_map] at g0 gl
  refine zMet.ofZ (by decide) (Nat.le_of_ble_eq_true rfl) ?_
  intro X hl hini C
  have bad : ∀ (M1 : zM) (i : Nat) (t : Int32), i ≤ ps.length → ¬ t = 0 → M1 g = some (.inr (4, [.ref (g + 1), .ref (g + 2), .int (nI ps.length), .int tg])) → zoutR M M1 k (k + 97) → (∃ xs', zwk E M1 k xs') → evp fs nb ps [] = .inl t → Z X E 6 (zQ X E 0 0 (fun v s M' => sz = s ∧ zoutR M M' k (k + 97) ∧ (match evp fs nb ps [] with | .inl t => some (.int t) = v ∧ ¬ t = 0 ∧ ∃ xs', zwk E M' k xs' | .inr rs => some (.int 0) = v ∧ (∀ x ∈ rs, isform x.1 x.2) ∧ zwk E M' k rs.reverse))) 0 0 sz M1 10 [(0, .ref k), (1, .ref g), (2, .ref h), (3, .int t), (4, .int (nI i))] [] := by
    intro M1 i t hi ht q0 hfr hz he
    refine z_iload C d_K_run_10 rfl ?_
    refine z_aload_n C d_K_run_12 rfl rfl ?_
    refine z_getN C in_G q0 rfl 2 (by decide) fl_K_29 rfl rfl d_K_run_13 ?_
    refine z_icmp_ge (tgt := 78) C d_K_run_16 (by decide) (fun c16 => ?_) (fun c16 => ?_)
    · refine z_iload_n C d_K_run_78 rfl rfl ?_
      exact z_iret C ⟨rfl, hfr, by rw [he]; exact ⟨rfl, ht, hz⟩⟩ d_K_run_79
    · refine z_iload_n C d_K_run_19 rfl rfl ?_
      refine z_if_ne (tgt := 78) C d_K_run_20 (by decide) (fun c20 => ?_) (fun c20 => ?_)
      · refine z_iload_n C d_K_run_78 rfl rfl ?_
        exact z_iret C ⟨rfl, hfr, by rw [he]; exact ⟨rfl, ht, hz⟩⟩ d_K_run_79
      · exact absurd c20 ht
  have loop : ∀ (m i : Nat) (M1 : zM) (rs : List (PS × PS)), i ≤ ps.length → ps.length + 1 ≤ i + m → zwk E M1 k rs.reverse → (∀ x ∈ rs, isform x.1 x.2) → zoutR M M1 k (k + 97) → wfp (ps.drop i) rs.length → evp fs nb ps [] = evp fs nb (ps.drop i) rs → Z X E 6 (zQ X E 0 0 (fun v s M' => sz = s ∧ zoutR M M' k (k + 97) ∧ (match evp fs nb ps [] with | .inl t => some (.int t) = v ∧ ¬ t = 0 ∧ ∃ xs', zwk E M' k xs' | .inr rs => some (.int 0) = v ∧ (∀ x ∈ rs, isform x.1 x.2) ∧ zwk E M' k rs.reverse))) 0 0 sz M1 10 [(0, .ref k), (1, .ref g), (2, .ref h), (3, .int 0), (4, .int (nI i))] [] := by
    intro m
    induction m with
    | zero => intro i M1 rs h1 h2; omega
    | succ m ih =>
      intro i M1 rs hi hm H1 hf hfr hw1 he
      have S1 := zsf_oR hfr S (by omega)
      obtain ⟨_, _, _, qh, _⟩ := id S1
      obtain ⟨_, qk, _⟩ := id H1
      have q0 := (hfr g (by omega)).trans g0
      have q1 := (hfr (g + 1) (by omega)).trans g1
      have q2 := (hfr (g + 2) (by omega)).trans g2
      refine z_iload C d_K_run_10 rfl ?_
      refine z_aload_n C d_K_run_12 rfl rfl ?_
      refine z_getN C in_G q0 rfl 2 (by decide) fl_K_29 rfl rfl d_K_run_13 ?_
      refine z_icmp_ge (tgt := 78) C d_K_run_16 (by decide) (fun c16 => ?_) (fun c16 => ?_)
      · have c16 := (nI_leI (by omega) (by omega)).mp c16
        have hd0 : ps.drop i = [] := List.drop_eq_nil_of_le (by omega)
        rw [hd0] at he
        refine z_iload_n C d_K_run_78 rfl rfl ?_
        exact z_iret C ⟨rfl, hfr, by rw [he]; exact ⟨rfl, hf, H1⟩⟩ d_K_run_79
      · have c16 : i < ps.length := Nat.not_le.mp (fun q => c16 ((nI_leI (by omega) (by omega)).mpr q))
        obtain ⟨x, hx⟩ : ∃ x, ps[i]? = some x := ⟨_, List.getElem?_eq_getElem c16⟩
        have hdr : ps.drop i = x :: ps.drop (i + 1) := by
          rw [List.drop_eq_getElem_cons c16]
          rw [List.getElem?_eq_getElem c16] at hx
          rw [Option.some.inj hx]
        rw [hdr] at hw1
        have hgf := gf i (img x) (by rw [List.getElem?_map, hx]; rfl)
        have hxl := vst_lt hw1.1
        refine z_iload_n C d_K_run_19 rfl rfl ?_
        refine z_if_ne (tgt := 78) C d_K_run_20 (by decide) (fun c_20 => absurd c_20 (fun q => q rfl)) (fun _ => ?_)
        refine z_aload_n C d_K_run_23 rfl rfl ?_
        refine z_getN C in_G q0 rfl 0 (by decide) fl_K_34 rfl rfl d_K_run_24 ?_
        refine z_iload C d_K_run_27 rfl ?_
        refine z_iald C q1 0 rfl i (rfl) (by omega) (by decide) d_K_run_29 ?_
        refine z_top (y := nI x.1) (hgf.1) ?_
        refine z_istore (L' := [(0, .ref k), (1, .ref g), (2, .ref h), (3, .int 0), (4, .int (nI i)), (5, .int (nI x.1))]) C d_K_run_30 (by decide) rfl ?_
        refine z_iload C d_K_run_32 rfl ?_
        refine z_callS (rest := []) (n := 1) (As := [.int (nI x.1)]) C (g_loads E X.2.1 sz _ x.1 hxl) ⟨z_cb C k_G_loads ml_K_38 ii_G rfl rfl (by decide +kernel) ⟨by decide, by decide⟩, C.2.2.2.2.1 _ sm_G_loads⟩ rfl rfl (Nat.le_of_ble_eq_true rfl) d_K_run_34 ⟨by decide, by decide⟩ ?_
        intro v_34 s_34 M_34 hp_34
        obtain ⟨rfl, rfl, rfl⟩ := hp_34
        show Z _ _ _ _ _ _ _ _ 37 _ [.int (if x.1 ≤ 4 then 1 else 0)]
        refine z_if_eq (tgt := 58) C d_K_run_37 (by decide) (fun c37 => ?_) (fun c37 => ?_)
        · have c37 : ¬ x.1 ≤ 4 := fun q => by rw [if_pos q] at c37; exact absurd c37 (by decide)
          refine z_aload_n C d_K_run_58 rfl rfl ?_
          refine z_iload C d_K_run_59 rfl ?_
          refine z_aload_n C d_K_run_61 rfl rfl ?_
          refine z_getN C in_G q0 rfl 1 (by decide) fl_K_42 rfl rfl d_K_run_62 ?_
          refine z_iload C d_K_run_65 rfl ?_
          refine z_iald C q2 0 rfl i (rfl) (by omega) (by decide) d_K_run_67 ?_
          refine z_top (y := Int32.ofInt x.2) (hgf.2) ?_
          refine z_callV (rest := []) (n := 2) (As := [.int (nI x.1), .int (Int32.ofInt x.2)]) C (k_operA E X.2.1 sz _ H1 hf fs nb x hw1.1 c37) ⟨z_cb C k_K_operate ml_K_49 ii_K rfl rfl (by decide +kernel) ⟨by decide, by decide⟩, C.2.2.2.2.1 _ im_K_operate, C.2.2.2.2.1 _ se_K_operate⟩ qk rfl rfl rfl (Nat.le_of_ble_eq_true rfl) d_K_run_68 ⟨by decide, by decide⟩ ?_
          intro v_s s_s M2 hp_s
          obtain ⟨rfl, ho2, hst⟩ := hp_s
          have hfr2 : zoutR M M2 k (k + 97) := zoutR_tr hfr ho2
          have q0 := (ho2 g (by omega)).trans q0
          cases hs9 : stp fs nb x rs with
          | inl t =>
            rw [hs9] at hst
            obtain ⟨rfl, ht, hz⟩ := hst
            show Z _ _ _ _ _ _ _ _ 71 _ [.int t]
            refine z_istore_n (L' := [(0, .ref k), (1, .ref g), (2, .ref h), (3, .int t), (4, .int (nI i)), (5, .int (nI x.1))]) C d_K_run_71 rfl (by decide) rfl ?_
            refine z_iinc (v := nI (i + 1)) (L' := [(0, .ref k), (1, .ref g), (2, .ref h), (3, .int t), (4, .int (nI (i + 1))), (5, .int (nI x.1))]) C d_K_run_72 rfl (nI_1 i) (by decide) rfl ?_
            refine z_goto (tgt := 10) C d_K_run_75 (by decide) ?_
            refine z_sub [0, 1, 2, 3, 4] rfl ?_
            exact bad M2 (i + 1) t (by omega) ht q0 hfr2 hz (by rw [he, hdr]; unfold evp; rw [hs9])
          | inr rs' =>
            rw [hs9] at hst
            obtain ⟨rfl, hf2, hz, hlen⟩ := hst
            show Z _ _ _ _ _ _ _ _ 71 _ [.int 0]
            refine z_istore_n (L' := [(0, .ref k), (1, .ref g), (2, .ref h), (3, .int 0), (4, .int (nI i)), (5, .int (nI x.1))]) C d_K_run_71 rfl (by decide) rfl ?_
            refine z_iinc (v := nI (i + 1)) (L' := [(0, .ref k), (1, .ref g), (2, .ref h), (3, .int 0), (4, .int (nI (i + 1))), (5, .int (nI x.1))]) C d_K_run_72 rfl (nI_1 i) (by decide) rfl ?_
            refine z_goto (tgt := 10) C d_K_run_75 (by decide) ?_
            refine z_sub [0, 1, 2, 3, 4] rfl ?_
            exact ih (i + 1) M2 rs' (by omega) (by omega) hz hf2 hfr2 (by rw [hlen]; exact hw1.2) (by rw [he, hdr]; conv => lhs; unfold evp; rw [hs9])
        · have c37 : x.1 ≤ 4 := by
            by_cases q : x.1 ≤ 4
            · exact q
            · exact absurd (if_neg q) c37
          refine z_aload_n C d_K_run_40 rfl rfl ?_
          refine z_iload C d_K_run_41 rfl ?_
          refine z_aload_n C d_K_run_43 rfl rfl ?_
          refine z_getN C in_G q0 rfl 1 (by decide) fl_K_42 rfl rfl d_K_run_44 ?_
          refine z_iload C d_K_run_47 rfl ?_
          refine z_iald C q2 0 rfl i (rfl) (by omega) (by decide) d_K_run_49 ?_
          refine z_top (y := Int32.ofInt x.2) (hgf.2) ?_
          refine z_aload_n C d_K_run_50 rfl rfl ?_
          refine z_callV (rest := []) (n := 3) (As := [.int (nI x.1), .int (Int32.ofInt x.2), .ref h]) C (k_loadA E X.2.1 sz _ H1 hf S1 ah hfs x hw1.1 c37) ⟨z_cb C k_K_load ml_K_45 ii_K rfl rfl (by decide +kernel) ⟨by decide, by decide⟩, C.2.2.2.2.1 _ im_K_load, C.2.2.2.2.1 _ se_K_load⟩ qk rfl rfl rfl (Nat.le_of_ble_eq_true rfl) d_K_run_51 ⟨by decide, by decide⟩ ?_
          intro v_s s_s M2 hp_s
          obtain ⟨rfl, ho2, hst⟩ := hp_s
          have hfr2 : zoutR M M2 k (k + 97) := zoutR_tr hfr ho2
          have q0 := (ho2 g (by omega)).trans q0
          cases hs9 : stp fs nb x rs with
          | inl t =>
            rw [hs9] at hst
            obtain ⟨rfl, ht, hz⟩ := hst
            show Z _ _ _ _ _ _ _ _ 54 _ [.int t]
            refine z_istore_n (L' := [(0, .ref k), (1, .ref g), (2, .ref h), (3, .int t), (4, .int (nI i)), (5, .int (nI x.1))]) C d_K_run_54 rfl (by decide) rfl ?_
            refine z_goto (tgt := 72) C d_K_run_55 (by decide) ?_
            refine z_iinc (v := nI (i + 1)) (L' := [(0, .ref k), (1, .ref g), (2, .ref h), (3, .int t), (4, .int (nI (i + 1))), (5, .int (nI x.1))]) C d_K_run_72 rfl (nI_1 i) (by decide) rfl ?_
            refine z_goto (tgt := 10) C d_K_run_75 (by decide) ?_
            refine z_sub [0, 1, 2, 3, 4] rfl ?_
            exact bad M2 (i + 1) t (by omega) ht q0 hfr2 hz (by rw [he, hdr]; unfold evp; rw [hs9])
          | inr rs' =>
            rw [hs9] at hst
            obtain ⟨rfl, hf2, hz, hlen⟩ := hst
            show Z _ _ _ _ _ _ _ _ 54 _ [.int 0]
            refine z_istore_n (L' := [(0, .ref k), (1, .ref g), (2, .ref h), (3, .int 0), (4, .int (nI i)), (5, .int (nI x.1))]) C d_K_run_54 rfl (by decide) rfl ?_
            refine z_goto (tgt := 72) C d_K_run_55 (by decide) ?_
            refine z_iinc (v := nI (i + 1)) (L' := [(0, .ref k), (1, .ref g), (2, .ref h), (3, .int 0), (4, .int (nI (i + 1))), (5, .int (nI x.1))]) C d_K_run_72 rfl (nI_1 i) (by decide) rfl ?_
            refine z_goto (tgt := 10) C d_K_run_75 (by decide) ?_
            refine z_sub [0, 1, 2, 3, 4] rfl ?_
            exact ih (i + 1) M2 rs' (by omega) (by omega) hz hf2 hfr2 (by rw [hlen]; exact hw1.2) (by rw [he, hdr]; conv => lhs; unfold evp; rw [hs9])
  show Z X E 6 _ 0 0 sz M 0 [(0, .ref k), (1, .ref g), (2, .ref h)] []
  refine z_iconst (v := 0) C d_K_run_0 (by decide) ?_
  refine z_istore_n (L' := [(0, .ref k), (1, .ref g), (2, .ref h), (3, .int 0)]) C d_K_run_1 rfl (by decide) rfl ?_
  refine z_aload_n C d_K_run_2 rfl rfl ?_
  refine z_iconst (v := nI 0) C d_K_run_3 (by decide) ?_
  refine z_put C in_K ty_K tok_K nm_K h0 rfl 2 (by decide) fl_K_24 rfl rfl rfl (rfl) (rfl) (Nat.le_of_ble_eq_true rfl) d_K_run_4 ?_
  show Z _ _ _ _ _ _ _ (zU M k (.inr (8, [.ref (k + 1), .ref (k + 16), .int (nI 0)]))) _ _ _
  refine z_iconst (v := nI 0) C d_K_run_7 (by decide) ?_
  refine z_istore (L' := [(0, .ref k), (1, .ref g), (2, .ref h), (3, .int 0), (4, .int (nI 0))]) C d_K_run_8 (by decide) rfl ?_
  have ho0 : zoutR M (zU M k (.inr (8, [.ref (k + 1), .ref (k + 16), .int (nI 0)]))) k (k + 1) := fun x hq => zU_ne (by omega)
  obtain ⟨sa, sb, sA, sB, hs⟩ := hs
  refine loop (ps.length + 1) 0 _ [] (by omega) (by omega) ⟨ff, zU_eq, (ho0 _ (by omega)).trans h1, by simp, hff, ⟨sa, sb, sA, sB, zsh_oR ho0 hs (by omega)⟩, fun i x hx => by simp at hx, fun i hi => ?_⟩ (fun x hx => by cases hx) (zoutR_w ho0 (by omega) (by omega)) hw rfl
  obtain ⟨a1, a2, a3, a4, a5⟩ := hal i hi
  exact ⟨a1, a2, a3, a4, zf_oR ho0 a5 (by omega)⟩
end
