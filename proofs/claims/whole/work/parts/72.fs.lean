/-! every quotient has its FORM; the FORM is the solution of least degree -/
theorem div_ex {B : PS} {lo : Nat} (hB : dg B lo) : ∀ (k : Nat) (A : PS), (∀ i, k + lo ≤ i → A i = 0) → ∃ Q R : PS, pol Q ∧ A = ps_add (ps_mul Q B) R ∧ ∀ j, lo ≤ j → R j = 0 := by
  intro k
  induction k with
  | zero =>
    intro A h
    refine ⟨ps_0, A, ⟨0, fun _ _ => rfl⟩, ?_, fun j hj => h j (by omega)⟩
    rw [ps_mul0l]
    funext i
    simp only [ps_add, ps_0]
    grind
  | succ k ih =>
    intro A h
    have hi := ff_inv_mul hB.1
    obtain ⟨Q, R, pQ, e, hR⟩ := ih (ps_sub A (ps_mul (mono (A (k + lo) * ff_inv (B lo)) k) B)) (fun i hi' => by
      simp only [ps_sub]
      rw [mono_mul, if_neg (by omega)]
      rcases Nat.lt_or_ge (k + lo) i with q | q
      · rw [h i (by omega), hB.2 (i - k) (by omega)]; grind
      · rw [show i = k + lo by omega, show k + lo - k = lo by omega]; grind)
    refine ⟨ps_add Q (mono (A (k + lo) * ff_inv (B lo)) k), R, pol_add pQ (pol_mono _ _), ?_, hR⟩
    revert e
    generalize mono (A (k + lo) * ff_inv (B lo)) k = x
    intro e
    letI := ps_ring
    have e' : A - x * B = Q * B + R := e
    show A = (Q + x) * B + R
    grind
theorem gcd_ex : ∀ (n : Nat) (b : PS), (∀ i, n ≤ i → b i = 0) → ∀ a, pol a → ∃ l : PS, span l ps_0 a b ∧ span a b l ps_0 := by
  intro n
  induction n with
  | zero =>
    intro b hb a pa
    have e : b = ps_0 := funext (fun i => hb i (by omega))
    rw [e]
    exact ⟨a, span_rf _ _, span_rf _ _⟩
  | succ n ih =>
    intro b hb a pa
    by_cases hn : b n = 0
    · exact ih b (fun i hi => by
        rcases Nat.lt_or_ge n i with q | q
        · exact hb i (by omega)
        · rw [show i = n by omega]; exact hn) a pa
    · obtain ⟨k, hk⟩ := pa
      obtain ⟨Q, R, pQ, e, hR⟩ := div_ex (B := b) (lo := n) ⟨hn, fun i hi => hb i (by omega)⟩ k a (fun i hi => hk i (by omega))
      obtain ⟨l, h1, h2⟩ := ih R hR b ⟨n + 1, hb⟩
      obtain ⟨m1, m2⟩ := span_md pQ e
      exact ⟨l, span_tr h1 (span_tr (span_sw b R) m1), span_tr m2 (span_tr (span_sw R b) h2)⟩
theorem form_ex {N D : PS} {i : Nat} (pN : pol N) (pD : pol D) (hD : D i ≠ 0) : ∃ n d : PS, formof N D n d := by
  obtain ⟨k, hk⟩ := id pD
  obtain ⟨l, h1, h2⟩ := gcd_ex k D hk N pN
  have hl : ∃ j, l j ≠ 0 := by
    refine Classical.byContradiction (fun hc => hD ?_)
    have hl0 : l = ps_0 := funext (fun j => Classical.byContradiction (fun q => hc ⟨j, q⟩))
    obtain ⟨u, v, u', v', -, -, -, -, -, e⟩ := h2
    rw [e, hl0, ps_mul0r, ps_mul0r, ps_add0]; rfl
  obtain ⟨j, hj⟩ := hl
  obtain ⟨o', u', po, pu, e1, e2, hc⟩ := span_gcd hj h1 h2
  obtain ⟨x, hx⟩ : ∃ x, dg u' x := by
    rcases pol_dg pu with z | h
    · refine absurd ?_ hD
      rw [e2, show u' = ps_0 from funext z, ps_mul0l]; rfl
    · exact h
  exact ⟨_, _, formof_sc (c := ff_inv (u' x)) (c' := u' x) (by rw [ff_cm]; exact ff_inv_mul hx.1) e1 e2 po pu hc hx rfl⟩
/-- D is monic of degree d, N / D is p / q -/
def fsol (p q : PS) (d e : Nat) (D N : PS) : Prop := (∀ i, d < i → D i = 0) ∧ D d = 1 ∧ (∀ i, e < i → N i = 0) ∧ ps_mul D p = ps_mul N q
theorem cop_dvd {n dd D N : PS} (hc : cop n dd) (e : ps_mul n D = ps_mul N dd) (pD : pol D) (pN : pol N) : ∃ c, pol c ∧ D = ps_mul dd c := by
  obtain ⟨u, v, pu, pv, h⟩ := hc
  refine ⟨ps_add (ps_mul u N) (ps_mul v D), pol_add (pol_mul pu pN) (pol_mul pv pD), ?_⟩
  letI := ps_ring
  have h' : u * n + v * dd = 1 := h
  have e' : n * D = N * dd := e
  show D = dd * (u * N + v * D)
  have : D = (u * n + v * dd) * D := by rw [h']; grind
  grind
theorem fs_ge {p q n dd D N : PS} {d e x k : Nat} (hf : formof p q n dd) (hx : dg dd x) (hq : q k ≠ 0) (h : fsol p q d e D N) : x ≤ d ∧ (d = x → D = dd ∧ N = n) := by
  obtain ⟨⟨pn, pd, hc, y, hy, hy1⟩, he⟩ := hf
  have hyx := dg_un hy hx
  subst hyx
  obtain ⟨h1, h2, h3, h4⟩ := h
  have dD : dg D d := ⟨by rw [h2]; decide, h1⟩
  have e1 : ps_mul n D = ps_mul N dd := by
    refine ps_can (a := q) hq ?_
    letI := ps_ring
    have a1 : D * p = N * q := h4
    have a2 : p * dd = n * q := he
    show q * (n * D) = q * (N * dd)
    grind
  obtain ⟨c, pc, ec⟩ := cop_dvd hc e1 (dg_pol dD) ⟨e + 1, h3⟩
  obtain ⟨z, hz⟩ := pol_nz (d := dd) (c := c) (k := d) (by rw [← ec]; exact dD) pc
  obtain ⟨m1, m2⟩ := dg_mul hy hz
  rw [← ec] at m1 m2
  have hd := dg_un dD m1
  refine ⟨by omega, fun hdx => ?_⟩
  have hz0 : z = 0 := by omega
  subst hz0
  have c0 : c = ps_C 1 := by
    funext i
    by_cases hi : i = 0
    · subst hi
      rw [show y + 0 = d by omega, h2, hy1] at m2
      simp only [ps_C, if_true]
      grind
    · rw [hz.2 i (by omega)]; simp [ps_C, hi]
  have eD : D = dd := by rw [ec, c0, ← ps_mul1]
  refine ⟨eD, ?_⟩
  rw [eD] at e1
  refine (ps_can (a := dd) hy.1 ?_).symm
  letI := ps_ring
  have a1 : n * dd = N * dd := e1
  show dd * n = dd * N
  grind
theorem fs_deg {p q n dd : PS} {a b x : Nat} (hf : formof p q n dd) (hp : dg p a) (hq : dg q b) (hx : dg dd x) : x ≤ b ∧ b ≤ a + x ∧ dg n (a + x - b) := by
  obtain ⟨⟨pn, pd, hc, -⟩, he⟩ := hf
  obtain ⟨c, pc, ec⟩ := cop_dvd hc (D := q) (N := p) (by rw [he]) (dg_pol hq) (dg_pol hp)
  obtain ⟨z, hz⟩ := pol_nz (d := dd) (c := c) (k := b) (by rw [← ec]; exact hq) pc
  obtain ⟨m1, -⟩ := dg_mul hx hz
  rw [← ec] at m1
  have e1 := dg_un hq m1
  obtain ⟨m2, -⟩ := dg_mul hp hx
  rw [he] at m2
  obtain ⟨y, hy⟩ : ∃ y, dg n y := by
    rcases pol_dg pn with w | h
    · refine absurd ?_ m2.1
      rw [show n = ps_0 from funext w, ps_mul0l]; rfl
    · exact h
  obtain ⟨m3, -⟩ := dg_mul hy hq
  have e2 := dg_un m2 m3
  refine ⟨by omega, by omega, ?_⟩
  rw [show a + x - b = y by omega]; exact hy
/-- the equations -/
def mat (p q : PS) (d cols t j : Nat) : FF := if j < d then (if j ≤ t then p (t - j) else 0) else if j < cols then (if j - d ≤ t then - q (t - (j - d)) else 0) else if j = cols then (if d ≤ t then - p (t - d) else 0) else 0
def Dof (d : Nat) (u : Nat → FF) : PS := fun i => if i < d then u i else if i = d then 1 else 0
def Nof (d e : Nat) (u : Nat → FF) : PS := fun i => if i ≤ e then u (d + i) else 0
theorem fsum_app {f : Nat → FF} {a : Nat} : ∀ {b : Nat}, fsum (a + b) f = fsum a f + fsum b (fun i => f (a + i)) := by
  intro b
  induction b with
  | zero => simp only [fsum, Nat.add_zero]; grind
  | succ b ih => rw [← Nat.add_assoc]; simp only [fsum]; rw [ih]; grind
theorem tr_mul {A p : PS} {t : Nat} : ∀ {n : Nat}, ps_mul (ps_tr A n) p t = fsum n (fun j => (if j ≤ t then p (t - j) else 0) * A j) := by
  intro n
  induction n with
  | zero => rw [ps_tr0, ps_mul0l]; rfl
  | succ n ih =>
    rw [ps_trs]
    have e : ps_mul (ps_add (ps_tr A n) (mono (A n) n)) p t = ps_mul (ps_tr A n) p t + ps_mul (mono (A n) n) p t := ps_m_al
    rw [e, ih, mono_mul]
    simp only [fsum]
    by_cases h : t < n
    · rw [if_pos h, if_neg (by omega)]; grind
    · rw [if_neg h, if_pos (by omega)]; grind
theorem sat_fs {p q : PS} {a b d e : Nat} (hp : ∀ i, a < i → p i = 0) (hq : ∀ i, b < i → q i = 0) (he : e + b = a + d) {u : Nat → FF} : sat (mat p q d (d + e + 1)) (a + d + 1) (d + e + 1) u ↔ fsol p q d e (Dof d u) (Nof d e u) := by
  have tD : ps_tr (Dof d u) (d + 1) = Dof d u := ps_tre (fun i hi => by simp only [Dof]; rw [if_neg (by omega), if_neg (by omega)])
  have tN : ps_tr (Nof d e u) (e + 1) = Nof d e u := ps_tre (fun i hi => by simp only [Nof]; rw [if_neg (by omega)])
  have key : ∀ t, (fsum (d + e + 1) (fun j => mat p q d (d + e + 1) t j * u j) = mat p q d (d + e + 1) t (d + e + 1)) ↔ ps_mul (Dof d u) p t = ps_mul (Nof d e u) q t := by
    intro t
    rw [← tD, ← tN, tr_mul, tr_mul, show d + e + 1 = d + (e + 1) by omega, fsum_app]
    simp only [fsum]
    have e1 : fsum d (fun j => mat p q d (d + (e + 1)) t j * u j) = fsum d (fun j => (if j ≤ t then p (t - j) else 0) * Dof d u j) := fsum_cg (fun j hj => by
      simp only [mat, Dof]
      rw [if_pos hj, if_pos hj])
    have e2 : fsum e (fun i => mat p q d (d + (e + 1)) t (d + i) * u (d + i)) = 0 - fsum e (fun j => (if j ≤ t then q (t - j) else 0) * Nof d e u j) := by
      have z : fsum e (fun _ => (0 : FF)) = 0 := fsum_0 (fun _ _ => rfl)
      have y := fsum_sub (f := fun _ => (0 : FF)) (g := fun j => (if j ≤ t then q (t - j) else 0) * Nof d e u j) (n := e)
      rw [z] at y
      rw [← y]
      exact fsum_cg (fun j hj => by
        simp only [mat, Nof]
        rw [if_neg (by omega), if_pos (by omega), if_pos (show j ≤ e by omega), show d + j - d = j by omega]
        split <;> grind)
    have e3 : mat p q d (d + (e + 1)) t (d + e) * u (d + e) = 0 - (if e ≤ t then q (t - e) else 0) * Nof d e u e := by
      simp only [mat, Nof]
      rw [if_neg (by omega), if_pos (by omega), if_pos (Nat.le_refl e), show d + e - d = e by omega]
      split <;> grind
    have e4 : mat p q d (d + (e + 1)) t (d + (e + 1)) = 0 - (if d ≤ t then p (t - d) else 0) * Dof d u d := by
      simp only [mat, Dof]
      rw [if_neg (by omega), if_neg (by omega), if_pos trivial, if_neg (show ¬ d < d by omega), if_pos trivial]
      split <;> grind
    rw [e1, e2, e3, e4]
    generalize fsum d _ = x1
    generalize fsum e _ = x2
    generalize (if e ≤ t then q (t - e) else 0) * Nof d e u e = x3
    generalize (if d ≤ t then p (t - d) else 0) * Dof d u d = x4
    constructor <;> intro h <;> grind
  constructor
  · intro h
    refine ⟨fun i hi => by simp only [Dof]; rw [if_neg (by omega), if_neg (by omega)], by simp only [Dof]; rw [if_neg (by omega), if_pos trivial], fun i hi => by simp only [Nof]; rw [if_neg (by omega)], ?_⟩
    funext t
    rcases Nat.lt_or_ge t (a + d + 1) with q' | q'
    · exact (key t).mp (h t q')
    · have h1 := (ps_top (m := a) (g := p) hp (n := d) (f := Dof d u) (fun i hi => by simp only [Dof]; rw [if_neg (by omega), if_neg (by omega)])).2 t (by omega)
      have h2 := (ps_top (m := b) (g := q) hq (n := e) (f := Nof d e u) (fun i hi => by simp only [Nof]; rw [if_neg (by omega)])).2 t (by omega)
      exact h1.trans h2.symm
  · intro h t _
    exact (key t).mpr (congrFun h.2.2.2 t)
theorem fs_u {p q D N : PS} {d e : Nat} (h : fsol p q d e D N) : ∃ u, Dof d u = D ∧ Nof d e u = N := by
  refine ⟨fun j => if j < d then D j else N (j - d), ?_, ?_⟩
  · funext i
    simp only [Dof]
    rcases Nat.lt_trichotomy i d with q | q | q
    · rw [if_pos q, if_pos q]
    · rw [if_neg (by omega), if_pos q, q]; exact h.2.1.symm
    · rw [if_neg (by omega), if_neg (by omega)]; exact (h.1 i q).symm
  · funext i
    simp only [Nof]
    split
    · rw [if_neg (by omega), show d + i - d = i by omega]
    · exact (h.2.2.1 i (by omega)).symm
