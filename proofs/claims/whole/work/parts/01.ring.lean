/-! NUMBERS modulo 10007, and polynomials as functions (power series that end) -/
abbrev FF : Type := Fin 10007
abbrev PS : Type := Nat → FF
/-- the inverse as it is worked out: squares and products -/
def fi_loop : Nat → Nat → Nat → Nat → Nat
  | 0, _, r, _ => r
  | k + 1, q, r, s => bif Nat.beq q 0 then r else fi_loop k (q / 2) (bif Nat.beq (q % 2) 1 then r * s % 10007 else r) (s * s % 10007)
def fi (a : Nat) : Nat := fi_loop 14 10005 1 a
set_option maxRecDepth 100000 in
theorem fi_all : (List.range 10007).all (fun a => (Nat.beq a 0 || Nat.beq (a * fi a % 10007) 1) && Nat.blt (fi a) 10007) = true := by decide +kernel
theorem fi_mul {a : Nat} (h : a < 10007) (h0 : a ≠ 0) : a * fi a % 10007 = 1 := by
  have h1 := List.all_eq_true.mp fi_all a (List.mem_range.mpr h)
  simp only [Bool.and_eq_true, Bool.or_eq_true] at h1
  rcases h1.1 with h2 | h2
  · exact absurd (Nat.eq_of_beq_eq_true h2) h0
  · exact Nat.eq_of_beq_eq_true h2
theorem fi_lt {a : Nat} (h : a < 10007) : fi a < 10007 := by
  have h1 := List.all_eq_true.mp fi_all a (List.mem_range.mpr h)
  simp only [Bool.and_eq_true] at h1
  exact Nat.blt_eq.mp h1.2
def ff_inv (a : FF) : FF := Fin.ofNat 10007 (fi a.val)
theorem ff_inv_mul {a : FF} (h : a ≠ 0) : a * ff_inv a = 1 := by
  apply Fin.ext
  have h1 := fi_mul a.isLt (fun q => h (Fin.ext q))
  rw [Fin.val_mul]
  show a.val * (fi a.val % 10007) % 10007 = 1 % 10007
  rw [Nat.mul_mod, Nat.mod_mod, ← Nat.mul_mod]
  exact h1
theorem ff_dom {a b : FF} (h : a * b = 0) (ha : a ≠ 0) : b = 0 := by
  have h1 := ff_inv_mul ha
  grind
theorem ff_mul_ne {a b : FF} (ha : a ≠ 0) (hb : b ≠ 0) : a * b ≠ 0 := fun h => hb (ff_dom h ha)
def ps_sh (f : PS) : PS := fun n => f (n + 1)
def ps_m : Nat → PS → PS → FF
  | 0, f, g => f 0 * g 0
  | n + 1, f, g => f 0 * g (n + 1) + ps_m n (ps_sh f) g
def ps_mul (f g : PS) : PS := fun n => ps_m n f g
def ps_add (f g : PS) : PS := fun n => f n + g n
def ps_neg (f : PS) : PS := fun n => - f n
def ps_sub (f g : PS) : PS := fun n => f n - g n
def ps_C (c : FF) : PS := fun n => if n = 0 then c else 0
def ps_pow (f : PS) : Nat → PS
  | 0 => ps_C 1
  | n + 1 => ps_mul (ps_pow f n) f
theorem ps_m0 {g : PS} {n : Nat} : ∀ {f : PS}, (∀ i, f i = 0) → ps_m n f g = 0 := by
  induction n with
  | zero => intro f h; simp only [ps_m, h 0]; grind
  | succ n ih => intro f h; simp only [ps_m, h 0, ih (f := ps_sh f) (fun i => h (i + 1))]; grind
theorem ps_m0r {n : Nat} : ∀ {f g : PS}, (∀ i, i ≤ n → g i = 0) → ps_m n f g = 0 := by
  induction n with
  | zero => intro f g h; simp only [ps_m, h 0 (Nat.le_refl 0)]; grind
  | succ n ih => intro f g h; simp only [ps_m, h (n + 1) (Nat.le_refl _), ih (f := ps_sh f) (fun i hi => h i (by omega))]; grind
theorem ps_mC {n : Nat} {c : FF} {g : PS} : ps_m n (ps_C c) g = c * g n := by
  cases n with
  | zero => rfl
  | succ n =>
    simp only [ps_m]
    rw [ps_m0 (f := ps_sh (ps_C c)) (fun i => by simp [ps_sh, ps_C])]
    simp only [ps_C, if_true]
    grind
theorem ps_m_al {n : Nat} {g : PS} : ∀ {f f' : PS}, ps_m n (ps_add f f') g = ps_m n f g + ps_m n f' g := by
  induction n with
  | zero => intro f f'; simp only [ps_m, ps_add]; grind
  | succ n ih =>
    intro f f'
    simp only [ps_m]
    rw [show ps_sh (ps_add f f') = ps_add (ps_sh f) (ps_sh f') from rfl, ih]
    simp only [ps_add]
    grind
theorem ps_m_ar {n : Nat} {g g' : PS} : ∀ {f : PS}, ps_m n f (ps_add g g') = ps_m n f g + ps_m n f g' := by
  induction n with
  | zero => intro f; simp only [ps_m, ps_add]; grind
  | succ n ih =>
    intro f
    simp only [ps_m, ih]
    simp only [ps_add]
    grind
theorem ps_m_sl {n : Nat} {g : PS} {c : FF} : ∀ {f : PS}, ps_m n (fun i => c * f i) g = c * ps_m n f g := by
  induction n with
  | zero => intro f; simp only [ps_m]; grind
  | succ n ih =>
    intro f
    simp only [ps_m]
    rw [show ps_sh (fun i => c * f i) = (fun i => c * ps_sh f i) from rfl, ih]
    grind
theorem ps_m_last {n : Nat} {g : PS} : ∀ {f : PS}, ps_m (n + 1) f g = ps_m n f (ps_sh g) + f (n + 1) * g 0 := by
  induction n with
  | zero => intro f; rfl
  | succ n ih =>
    intro f
    rw [ps_m, ih (f := ps_sh f), ps_m]
    simp only [ps_sh]
    grind
theorem ps_m_cm {n : Nat} : ∀ {f g : PS}, ps_m n f g = ps_m n g f := by
  induction n with
  | zero => intro f g; simp only [ps_m]; grind
  | succ n ih =>
    intro f g
    rw [ps_m_last (f := g) (g := f), ps_m, ih (f := ps_sh f) (g := g)]
    grind
theorem ps_sh_mul {f g : PS} : ps_sh (ps_mul f g) = ps_add (fun k => f 0 * ps_sh g k) (ps_mul (ps_sh f) g) := rfl
theorem ps_m_as {n : Nat} {g h : PS} : ∀ {f : PS}, ps_m n (ps_mul f g) h = ps_m n f (ps_mul g h) := by
  induction n with
  | zero => intro f; simp only [ps_m, ps_mul]; grind
  | succ n ih =>
    intro f
    rw [ps_m, ps_sh_mul, ps_m_al, ps_m_sl, ih (f := ps_sh f), ps_m]
    rw [show ps_mul f g 0 = f 0 * g 0 from rfl, show ps_mul g h (n + 1) = g 0 * h (n + 1) + ps_m n (ps_sh g) h from rfl]
    grind
def ff_int (i : Int) : FF := if 0 ≤ i then Fin.ofNat 10007 i.toNat else - Fin.ofNat 10007 (-i).toNat
theorem ff_int_neg (i : Int) : ff_int (-i) = - ff_int i := by
  unfold ff_int
  by_cases h : 0 ≤ i
  · by_cases h2 : 0 ≤ -i
    · have : i = 0 := by omega
      subst this
      simp <;> grind
    · rw [if_neg h2, if_pos h, Int.neg_neg]
  · rw [if_pos (by omega), if_neg h]
    grind
theorem ff_nat_succ (a : Nat) : Fin.ofNat 10007 (a + 1) = Fin.ofNat 10007 a + 1 := by
  apply Fin.ext
  rw [Fin.val_add]
  show (a + 1) % 10007 = (a % 10007 + 1 % 10007) % 10007
  omega
theorem ps_C_add (a b : FF) : ps_C (a + b) = ps_add (ps_C a) (ps_C b) := by
  funext n
  by_cases h : n = 0
  · simp [ps_C, ps_add, h]
  · simp [ps_C, ps_add, h]
theorem ps_C_neg (a : FF) : ps_C (-a) = ps_neg (ps_C a) := by
  funext n
  by_cases h : n = 0
  · simp [ps_C, ps_neg, h]
  · simp [ps_C, ps_neg, h] <;> grind
def ps_ring : Lean.Grind.CommRing PS :=
  { add := ps_add
    mul := ps_mul
    natCast := ⟨fun n => ps_C (Fin.ofNat 10007 n)⟩
    ofNat := fun n => ⟨ps_C (Fin.ofNat 10007 n)⟩
    nsmul := ⟨fun n f => ps_mul (ps_C (Fin.ofNat 10007 n)) f⟩
    npow := ⟨ps_pow⟩
    neg := ps_neg
    sub := ps_sub
    intCast := ⟨fun i => ps_C (ff_int i)⟩
    zsmul := ⟨fun i f => ps_mul (ps_C (ff_int i)) f⟩
    add_zero := fun f => by funext n; show f n + ps_C (Fin.ofNat 10007 0) n = f n; by_cases h : n = 0 <;> simp [ps_C, h]
    add_comm := fun f g => by funext n; show f n + g n = g n + f n; grind
    add_assoc := fun f g h => by funext n; show f n + g n + h n = f n + (g n + h n); grind
    mul_assoc := fun f g h => by funext n; exact ps_m_as
    mul_one := fun f => by funext n; show ps_m n f (ps_C (Fin.ofNat 10007 1)) = f n; rw [ps_m_cm, ps_mC]; show (1 : FF) * f n = f n; grind
    one_mul := fun f => by funext n; show ps_m n (ps_C (Fin.ofNat 10007 1)) f = f n; rw [ps_mC]; show (1 : FF) * f n = f n; grind
    left_distrib := fun f g h => by funext n; exact ps_m_ar
    right_distrib := fun f g h => by funext n; exact ps_m_al
    zero_mul := fun f => by funext n; show ps_m n (ps_C (Fin.ofNat 10007 0)) f = ps_C (Fin.ofNat 10007 0) n; rw [ps_mC]; show (0 : FF) * f n = _; by_cases h : n = 0 <;> simp [ps_C, h] <;> grind
    mul_zero := fun f => by funext n; show ps_m n f (ps_C (Fin.ofNat 10007 0)) = ps_C (Fin.ofNat 10007 0) n; rw [ps_m_cm, ps_mC]; show (0 : FF) * f n = _; by_cases h : n = 0 <;> simp [ps_C, h] <;> grind
    pow_zero := fun f => rfl
    pow_succ := fun f n => rfl
    ofNat_succ := fun a => by show ps_C (Fin.ofNat 10007 (a + 1)) = ps_add (ps_C (Fin.ofNat 10007 a)) (ps_C (Fin.ofNat 10007 1)); rw [ff_nat_succ, ps_C_add]; rfl
    ofNat_eq_natCast := fun n => rfl
    nsmul_eq_natCast_mul := fun n f => rfl
    neg_add_cancel := fun f => by funext n; show - f n + f n = ps_C (Fin.ofNat 10007 0) n; by_cases h : n = 0 <;> simp [ps_C, h] <;> grind
    sub_eq_add_neg := fun f g => by funext n; show f n - g n = f n + - g n; grind
    neg_zsmul := fun i f => by funext n; show ps_m n (ps_C (ff_int (-i))) f = - ps_m n (ps_C (ff_int i)) f; rw [ps_mC, ps_mC, ff_int_neg]; grind
    zsmul_natCast_eq_nsmul := fun n f => by funext k; show ps_m k (ps_C (ff_int (n : Int))) f = ps_m k (ps_C (Fin.ofNat 10007 n)) f; rw [show ff_int (n : Int) = Fin.ofNat 10007 n by simp [ff_int]]
    intCast_ofNat := fun n => by show ps_C (ff_int (Int.ofNat n)) = ps_C (Fin.ofNat 10007 n); rw [show ff_int (Int.ofNat n) = Fin.ofNat 10007 n by simp [ff_int]]
    intCast_neg := fun i => by show ps_C (ff_int (-i)) = ps_neg (ps_C (ff_int i)); rw [ff_int_neg, ps_C_neg]
    mul_comm := fun f g => by funext n; exact ps_m_cm }
/-- f ends: it is a polynomial -/
def pol (f : PS) : Prop := ∃ n : Nat, ∀ i, n ≤ i → f i = 0
/-- the degree -/
def dg (f : PS) (n : Nat) : Prop := f n ≠ 0 ∧ ∀ i, n < i → f i = 0
theorem ps_top {m : Nat} {g : PS} (hg : ∀ j, m < j → g j = 0) : ∀ {n : Nat} {f : PS}, (∀ i, n < i → f i = 0) → ps_m (n + m) f g = f n * g m ∧ ∀ k, n + m < k → ps_m k f g = 0 := by
  intro n
  induction n with
  | zero =>
    intro f hf
    have e : f = ps_C (f 0) := by
      funext i
      by_cases h : i = 0
      · subst h; simp [ps_C]
      · rw [hf i (by omega)]; simp [ps_C, h]
    refine ⟨?_, fun k hk => ?_⟩
    · rw [e, ps_mC, Nat.zero_add]; simp [ps_C]
    · rw [e, ps_mC, hg k (by omega)]; grind
  | succ n ih =>
    intro f hf
    obtain ⟨h1, h2⟩ := ih (f := ps_sh f) (fun i hi => hf (i + 1) (by omega))
    refine ⟨?_, fun k hk => ?_⟩
    · rw [show n + 1 + m = (n + m) + 1 by omega, ps_m, h1, hg (n + m + 1) (by omega)]
      simp only [ps_sh]
      grind
    · obtain ⟨k, rfl⟩ : ∃ k', k = k' + 1 := ⟨k - 1, by omega⟩
      rw [ps_m, h2 k (by omega), hg (k + 1) (by omega)]
      grind
theorem dg_mul {f g : PS} {n m : Nat} (hf : dg f n) (hg : dg g m) : dg (ps_mul f g) (n + m) ∧ ps_mul f g (n + m) = f n * g m := by
  obtain ⟨h1, h2⟩ := ps_top hg.2 hf.2
  refine ⟨⟨?_, h2⟩, h1⟩
  show ps_m _ _ _ ≠ 0
  rw [h1]
  exact ff_mul_ne hf.1 hg.1
theorem dg_un {f : PS} {n m : Nat} (h1 : dg f n) (h2 : dg f m) : n = m := by
  rcases Nat.lt_trichotomy n m with h | h | h
  · exact absurd (h1.2 m h) h2.1
  · exact h
  · exact absurd (h2.2 n h) h1.1
theorem dg_pol {f : PS} {n : Nat} (h : dg f n) : pol f := ⟨n + 1, fun i hi => h.2 i hi⟩
theorem pol_dg {f : PS} (h : pol f) : (∀ i, f i = 0) ∨ ∃ n, dg f n := by
  obtain ⟨n, hn⟩ := h
  induction n with
  | zero => exact Or.inl (fun i => hn i (Nat.zero_le i))
  | succ n ih =>
    by_cases h0 : f n = 0
    · exact ih (fun i hi => by
        rcases Nat.lt_or_ge n i with q | q
        · exact hn i q
        · rw [show i = n by omega]; exact h0)
    · exact Or.inr ⟨n, h0, fun i hi => hn i hi⟩
theorem pol_C (c : FF) : pol (ps_C c) := ⟨1, fun i hi => by simp [ps_C, show i ≠ 0 by omega]⟩
theorem pol_add {f g : PS} (hf : pol f) (hg : pol g) : pol (ps_add f g) := by
  obtain ⟨n, hn⟩ := hf
  obtain ⟨m, hm⟩ := hg
  exact ⟨n + m, fun i hi => by simp only [ps_add, hn i (by omega), hm i (by omega)]; grind⟩
theorem pol_neg {f : PS} (hf : pol f) : pol (ps_neg f) := by
  obtain ⟨n, hn⟩ := hf
  exact ⟨n, fun i hi => by simp only [ps_neg, hn i hi]; grind⟩
theorem pol_sub {f g : PS} (hf : pol f) (hg : pol g) : pol (ps_sub f g) := by
  obtain ⟨n, hn⟩ := hf
  obtain ⟨m, hm⟩ := hg
  exact ⟨n + m, fun i hi => by simp only [ps_sub, hn i (by omega), hm i (by omega)]; grind⟩
theorem pol_mul {f g : PS} (hf : pol f) (hg : pol g) : pol (ps_mul f g) := by
  obtain ⟨n, hn⟩ := hf
  obtain ⟨m, hm⟩ := hg
  obtain ⟨-, h⟩ := ps_top (m := m) (g := g) (fun j hj => hm j (by omega)) (n := n) (f := f) (fun i hi => hn i (by omega))
  exact ⟨n + m + 1, fun i hi => h i hi⟩
theorem pol_pow {f : PS} (hf : pol f) (n : Nat) : pol (ps_pow f n) := by
  induction n with
  | zero => exact pol_C 1
  | succ n ih => exact pol_mul ih hf
/-- no divisors of zero -/
theorem ps_dom : ∀ (i : Nat) {a d : PS}, a i ≠ 0 → (∀ n, ps_mul a d n = 0) → ∀ n, d n = 0 := by
  intro i
  induction i with
  | zero =>
    intro a d ha h n
    induction n using Nat.strongRecOn with
    | _ n ih =>
      cases n with
      | zero => exact ff_dom (h 0) ha
      | succ n =>
        have h1 := h (n + 1)
        simp only [ps_mul, ps_m] at h1
        rw [ps_m0r (f := ps_sh a) (g := d) (n := n) (fun j hj => ih j (by omega))] at h1
        exact ff_dom (a := a 0) (by grind) ha
  | succ i ih =>
    intro a d ha h n
    by_cases h0 : a 0 = 0
    · exact ih (a := ps_sh a) (d := d) ha (fun k => by
        have h1 := h (k + 1)
        simp only [ps_mul, ps_m, h0] at h1
        show ps_m k (ps_sh a) d = 0
        grind) n
    · induction n using Nat.strongRecOn with
      | _ n ih =>
        cases n with
        | zero => exact ff_dom (h 0) h0
        | succ n =>
          have h1 := h (n + 1)
          simp only [ps_mul, ps_m] at h1
          rw [ps_m0r (f := ps_sh a) (g := d) (n := n) (fun j hj => ih j (by omega))] at h1
          exact ff_dom (a := a 0) (by grind) h0
/-- cancelling -/
theorem ps_can {a b c : PS} {i : Nat} (ha : a i ≠ 0) (h : ps_mul a b = ps_mul a c) : b = c := by
  have h1 : ∀ n, ps_mul a (ps_sub b c) n = 0 := by
    intro n
    have e : ps_mul a (ps_sub b c) = ps_sub (ps_mul a b) (ps_mul a c) := by
      letI := ps_ring
      show a * (b - c) = a * b - a * c
      grind
    rw [e, h]
    simp only [ps_sub]
    grind
  funext n
  have h2 := ps_dom i ha h1 n
  simp only [ps_sub] at h2
  grind
/-- no common divisor, by Bezout's row -/
def cop (a b : PS) : Prop := ∃ u v : PS, pol u ∧ pol v ∧ ps_add (ps_mul u a) (ps_mul v b) = ps_C 1
theorem cop_sy {a b : PS} (h : cop a b) : cop b a := by
  obtain ⟨u, v, hu, hv, e⟩ := h
  refine ⟨v, u, hv, hu, ?_⟩
  rw [← e]
  letI := ps_ring
  show v * b + u * a = u * a + v * b
  grind
theorem cop_mul {a b c : PS} (ha : pol a) (hb : pol b) (hc : pol c) (h1 : cop a b) (h2 : cop a c) : cop a (ps_mul b c) := by
  obtain ⟨u, v, hu, hv, e1⟩ := h1
  obtain ⟨u', v', hu', hv', e2⟩ := h2
  refine ⟨ps_add (ps_mul u (ps_add (ps_mul u' a) (ps_mul v' c))) (ps_mul (ps_mul v b) u'), ps_mul v v', pol_add (pol_mul hu (pol_add (pol_mul hu' ha) (pol_mul hv' hc))) (pol_mul (pol_mul hv hb) hu'), pol_mul hv hv', ?_⟩
  letI := ps_ring
  have e1' : u * a + v * b = 1 := e1
  have e2' : u' * a + v' * c = 1 := e2
  show (u * (u' * a + v' * c) + v * b * u') * a + v * v' * (b * c) = 1
  grind
theorem cop_pow {a b : PS} (ha : pol a) (hb : pol b) (h : cop a b) (n : Nat) : cop a (ps_pow b n) := by
  induction n with
  | zero =>
    refine ⟨ps_C 0, ps_C 1, pol_C 0, pol_C 1, ?_⟩
    letI := ps_ring
    show (0 : PS) * a + 1 * 1 = 1
    grind
  | succ n ih => exact cop_mul ha (pol_pow hb n) hb ih h
theorem cop_pow2 {a b : PS} (ha : pol a) (hb : pol b) (h : cop a b) (n m : Nat) : cop (ps_pow a n) (ps_pow b m) := cop_sy (cop_pow (pol_pow hb m) ha (cop_sy (cop_pow ha hb h m)) n)
/-- a FORM -/
def isform (n d : PS) : Prop := pol n ∧ pol d ∧ cop n d ∧ ∃ k, dg d k ∧ d k = 1
/-- the FORM of a quotient -/
def formof (N D n d : PS) : Prop := isform n d ∧ ps_mul N d = ps_mul n D
theorem pol_nz {d c : PS} {k : Nat} (hk : dg (ps_mul d c) k) (hc : pol c) : ∃ j, dg c j := by
  rcases pol_dg hc with z | h
  · exact absurd ((ps_m_cm (f := d) (n := k)).trans (ps_m0 z)) hk.1
  · exact h
theorem form_un {n d n' d' : PS} (h : isform n d) (h' : isform n' d') (e : ps_mul n d' = ps_mul n' d) : n = n' ∧ d = d' := by
  obtain ⟨hn, hd, ⟨u, v, hu, hv, e1⟩, k, hk, hk1⟩ := h
  obtain ⟨hn', hd', ⟨u', v', hu', hv', e2⟩, k', hk', hk1'⟩ := h'
  have a1 : d' = ps_mul d (ps_add (ps_mul u n') (ps_mul v d')) := by
    letI := ps_ring
    have e' : n * d' = n' * d := e
    have e1' : u * n + v * d = 1 := e1
    show d' = d * (u * n' + v * d')
    grind
  have a2 : d = ps_mul d' (ps_add (ps_mul u' n) (ps_mul v' d)) := by
    letI := ps_ring
    have e' : n * d' = n' * d := e
    have e2' : u' * n' + v' * d' = 1 := e2
    show d = d' * (u' * n + v' * d)
    grind
  have p1 : pol (ps_add (ps_mul u n') (ps_mul v d')) := pol_add (pol_mul hu hn') (pol_mul hv hd')
  have p2 : pol (ps_add (ps_mul u' n) (ps_mul v' d)) := pol_add (pol_mul hu' hn) (pol_mul hv' hd)
  generalize ps_add (ps_mul u n') (ps_mul v d') = c1 at a1 p1
  generalize ps_add (ps_mul u' n) (ps_mul v' d) = c2 at a2 p2
  have hdd : d = d' := by
    obtain ⟨j, hj⟩ := pol_nz (d := d) (c := c1) (k := k') (by rw [← a1]; exact hk') p1
    obtain ⟨j2, hj2⟩ := pol_nz (d := d') (c := c2) (k := k) (by rw [← a2]; exact hk) p2
    obtain ⟨g1, g2⟩ := dg_mul hk hj
    obtain ⟨g3, -⟩ := dg_mul hk' hj2
    rw [← a1] at g1 g2
    rw [← a2] at g3
    have q1 : k + j = k' := dg_un g1 hk'
    have q2 : k' + j2 = k := dg_un g3 hk
    have hj0 : j = 0 := by omega
    subst hj0
    have hc : c1 = ps_C (c1 0) := by
      funext i
      by_cases h : i = 0
      · subst h; simp [ps_C]
      · rw [hj.2 i (by omega)]; simp [ps_C, h]
    rw [q1, hk1, hk1'] at g2
    have h1 : c1 0 = 1 := by grind
    rw [h1] at hc
    rw [a1, hc]
    letI := ps_ring
    show d = d * 1
    grind
  refine ⟨?_, hdd⟩
  subst hdd
  exact ps_can hk.1 (by
    letI := ps_ring
    have e' : n * d = n' * d := e
    show d * n = d * n'
    grind)
theorem formof_un {N D n d n' d' : PS} {k : Nat} (hD : D k ≠ 0) (h : formof N D n d) (h' : formof N D n' d') : n = n' ∧ d = d' := by
  refine form_un h.1 h'.1 (ps_can hD ?_)
  have e1 := h.2
  have e2 := h'.2
  letI := ps_ring
  have e1' : N * d = n * D := e1
  have e2' : N * d' = n' * D := e2
  show D * (n * d') = D * (n' * d)
  grind
