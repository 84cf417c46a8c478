/-! GAUSS AND JORDAN: a system of equations over the numbers modulo 10007 -/
def fsum : Nat → (Nat → FF) → FF
  | 0, _ => 0
  | n + 1, f => fsum n f + f n
theorem fsum_cg {f g : Nat → FF} : ∀ {n : Nat}, (∀ i, i < n → f i = g i) → fsum n f = fsum n g := by
  intro n
  induction n with
  | zero => intro _; rfl
  | succ n ih => intro h; simp only [fsum]; rw [ih (fun i hi => h i (by omega)), h n (by omega)]
theorem fsum_mul {f : Nat → FF} {c : FF} : ∀ {n : Nat}, fsum n (fun i => c * f i) = c * fsum n f := by
  intro n
  induction n with
  | zero => simp only [fsum]; grind
  | succ n ih => simp only [fsum]; rw [ih]; grind
theorem fsum_sub {f g : Nat → FF} : ∀ {n : Nat}, fsum n (fun i => f i - g i) = fsum n f - fsum n g := by
  intro n
  induction n with
  | zero => simp only [fsum]; grind
  | succ n ih => simp only [fsum]; rw [ih]; grind
theorem fsum_0 {f : Nat → FF} : ∀ {n : Nat}, (∀ i, i < n → f i = 0) → fsum n f = 0 := by
  intro n
  induction n with
  | zero => intro _; rfl
  | succ n ih => intro h; simp only [fsum]; rw [ih (fun i hi => h i (by omega)), h n (by omega)]; grind
theorem fsum_1 {f : Nat → FF} {c : Nat} : ∀ {n : Nat}, c < n → (∀ i, i < n → i ≠ c → f i = 0) → fsum n f = f c := by
  intro n
  induction n with
  | zero => intro h; omega
  | succ n ih =>
    intro h hz
    simp only [fsum]
    rcases Nat.lt_or_ge c n with q | q
    · rw [ih q (fun i hi => hz i (by omega)), hz n (by omega) (by omega)]; grind
    · rw [show c = n by omega, fsum_0 (fun i hi => hz i (by omega) (by omega))]; grind
def sat (m : Nat → Nat → FF) (rows cols : Nat) (u : Nat → FF) : Prop := ∀ r, r < rows → fsum cols (fun j => m r j * u j) = m r cols
/-- what a pivot makes of the rows -/
def isEl (m m' : Nat → Nat → FF) (rows row j : Nat) : Prop := (∀ k, k < 26 → m' row k = m row k * ff_inv (m row j)) ∧ ∀ r, r < rows → r ≠ row → ∀ k, k < 26 → m' r k = m r k - m r j * (m row k * ff_inv (m row j))
theorem sat_el {m m' : Nat → Nat → FF} {rows cols row j : Nat} {u : Nat → FF} (he : isEl m m' rows row j) (hr : row < rows) (hc : cols < 26) (hne : m row j ≠ 0) : sat m rows cols u ↔ sat m' rows cols u := by
  have hi := ff_inv_mul hne
  have e0 : fsum cols (fun k => m' row k * u k) = ff_inv (m row j) * fsum cols (fun k => m row k * u k) := by
    rw [← fsum_mul]
    exact fsum_cg (fun k hk => by rw [he.1 k (by omega)]; grind)
  have e1 : ∀ r, r < rows → r ≠ row → fsum cols (fun k => m' r k * u k) = fsum cols (fun k => m r k * u k) - m r j * fsum cols (fun k => m' row k * u k) := by
    intro r h1 h2
    rw [← fsum_mul, ← fsum_sub]
    exact fsum_cg (fun k hk => by rw [he.2 r h1 h2 k (by omega), he.1 k (by omega)]; grind)
  constructor
  · intro h r h1
    by_cases q : r = row
    · subst q
      rw [e0, h _ hr, he.1 cols hc]; grind
    · rw [e1 r h1 q, h r h1, e0, h row hr, he.2 r h1 q cols hc]; grind
  · intro h
    have e2 : fsum cols (fun k => m row k * u k) = m row cols := by
      have h3 := h row hr
      rw [e0, he.1 cols hc] at h3
      have h4 : m row j * (ff_inv (m row j) * fsum cols (fun k => m row k * u k)) = m row j * (m row cols * ff_inv (m row j)) := by rw [h3]
      grind
    intro r h1
    by_cases q : r = row
    · rw [q]; exact e2
    · have h3 := h r h1
      rw [e1 r h1 q, h row hr, he.1 cols hc, he.2 r h1 q cols hc] at h3
      grind
/-- columns below j are done: s tells the pivot's row + 1, or 0 -/
def gj (m0 m : Nat → Nat → FF) (rows cols j : Nat) (U : Nat → Bool) (s : Nat → Nat) : Prop :=
  (∀ u, sat m0 rows cols u ↔ sat m rows cols u) ∧
  (∀ c, c < j → s c = 0 → ∀ r, r < rows → U r = false → m r c = 0) ∧
  (∀ c, c < j → ∀ p, s c = p + 1 → p < rows ∧ U p = true ∧ ∀ r, r < rows → m r c = if r = p then 1 else 0) ∧
  (∀ r, r < rows → U r = true → ∃ c, c < j ∧ s c = r + 1) ∧
  ∀ c c', c < j → c' < j → s c = s c' → s c ≠ 0 → c = c'
theorem gj_0 {m : Nat → Nat → FF} {rows cols : Nat} {U : Nat → Bool} {s : Nat → Nat} (h : ∀ r, r < rows → U r = false) : gj m m rows cols 0 U s := ⟨fun _ => Iff.rfl, fun c h => by omega, fun c h => by omega, fun r hr q => (by rw [h r hr] at q; cases q), fun c c' h => by omega⟩
theorem gj_skip {m0 m : Nat → Nat → FF} {rows cols j : Nat} {U : Nat → Bool} {s s' : Nat → Nat} (H : gj m0 m rows cols j U s) (hz : ∀ r, r < rows → U r = false → m r j = 0) (hs : s' j = 0) (hk : ∀ c, c < j → s' c = s c) : gj m0 m rows cols (j + 1) U s' := by
  obtain ⟨h1, h2, h3, h4, h5⟩ := H
  refine ⟨h1, fun c hc hq => ?_, fun c hc p hp => ?_, fun r hr hu => ?_, fun c c' hc hc' he hne => ?_⟩
  · rcases Nat.lt_or_ge c j with q | q
    · exact h2 c q (by rw [← hk c q]; exact hq)
    · rw [show c = j by omega]; exact hz
  · rcases Nat.lt_or_ge c j with q | q
    · exact h3 c q p (by rw [← hk c q]; exact hp)
    · rw [show c = j by omega, hs] at hp; omega
  · obtain ⟨c, hc, e⟩ := h4 r hr hu
    exact ⟨c, by omega, by rw [hk c hc]; exact e⟩
  · have a1 : c < j := by
      rcases Nat.lt_or_ge c j with q | q
      · exact q
      · rw [show c = j by omega] at hne; exact absurd hs hne
    have a2 : c' < j := by
      rcases Nat.lt_or_ge c' j with q | q
      · exact q
      · rw [he, show c' = j by omega] at hne; exact absurd hs hne
    exact h5 c c' a1 a2 (by rw [← hk c a1, ← hk c' a2]; exact he) (by rw [← hk c a1]; exact hne)
theorem gj_piv {m0 m m' : Nat → Nat → FF} {rows cols j row : Nat} {U U' : Nat → Bool} {s s' : Nat → Nat} (H : gj m0 m rows cols j U s) (hr : row < rows) (hu : U row = false) (hne : m row j ≠ 0) (hj : j < cols) (hc : cols < 26) (he : isEl m m' rows row j) (hs : s' j = row + 1) (hk : ∀ c, c < j → s' c = s c) (hU : U' row = true) (hU' : ∀ r, r ≠ row → U' r = U r) : gj m0 m' rows cols (j + 1) U' s' := by
  obtain ⟨h1, h2, h3, h4, h5⟩ := H
  have hz : ∀ c, c < j → m row c = 0 := by
    intro c hc
    rcases hsc : s c with _ | p
    · exact h2 c hc hsc row hr hu
    · obtain ⟨g1, g2, g3⟩ := h3 c hc p hsc
      rw [g3 row hr, if_neg (fun q => by rw [← q, hu] at g2; cases g2)]
  have hkc : ∀ c, c < j → ∀ r, r < rows → m' r c = m r c := by
    intro c hc' r hr'
    by_cases q : r = row
    · rw [q, he.1 c (by omega), hz c hc']; grind
    · rw [he.2 r hr' q c (by omega), hz c hc']; grind
  refine ⟨fun u => (h1 u).trans (sat_el he hr hc hne), fun c hc hq => ?_, fun c hc p hp => ?_, fun r hr' hu' => ?_, fun c c' hc hc' he' hne' => ?_⟩
  · rcases Nat.lt_or_ge c j with q | q
    · intro r hr' hur
      rw [hkc c q r hr']
      refine h2 c q (by rw [← hk c q]; exact hq) r hr' ?_
      rw [← hU' r (fun e => by rw [e, hU] at hur; cases hur)]; exact hur
    · rw [show c = j by omega, hs] at hq; omega
  · rcases Nat.lt_or_ge c j with q | q
    · obtain ⟨g1, g2, g3⟩ := h3 c q p (by rw [← hk c q]; exact hp)
      refine ⟨g1, ?_, fun r hr' => by rw [hkc c q r hr']; exact g3 r hr'⟩
      rw [hU' p (fun e => by rw [e, hu] at g2; cases g2)]; exact g2
    · have ec : c = j := by omega
      subst ec
      have ep : p = row := by omega
      subst ep
      refine ⟨hr, hU, fun r hr' => ?_⟩
      have hi := ff_inv_mul hne
      by_cases e : r = p
      · rw [if_pos e, e, he.1 c (by omega)]; exact hi
      · rw [if_neg e, he.2 r hr' e c (by omega)]; grind
  · by_cases e : r = row
    · exact ⟨j, by omega, by rw [e]; exact hs⟩
    · obtain ⟨c, hc', e'⟩ := h4 r hr' (by rw [← hU' r e]; exact hu')
      exact ⟨c, by omega, by rw [hk c hc']; exact e'⟩
  · have key : ∀ x, x < j → s' x = row + 1 → False := by
      intro x hx ex
      obtain ⟨g1, g2, g3⟩ := h3 x hx row (by rw [← hk x hx]; exact ex)
      rw [hu] at g2; cases g2
    rcases Nat.lt_or_ge c j with q | q
    · rcases Nat.lt_or_ge c' j with q' | q'
      · exact h5 c c' q q' (by rw [← hk c q, ← hk c' q']; exact he') (by rw [← hk c q]; exact hne')
      · exact absurd (by rw [he', show c' = j by omega]; exact hs) (key c q)
    · rcases Nat.lt_or_ge c' j with q' | q'
      · exact absurd (by rw [← he', show c = j by omega]; exact hs) (key c' q')
      · omega
/-- behind the last column -/
theorem gj_row {m0 m : Nat → Nat → FF} {rows cols : Nat} {U : Nat → Bool} {s : Nat → Nat} (H : gj m0 m rows cols cols U s) {r : Nat} (hr : r < rows) (hu : U r = false) : ∀ c, c < cols → m r c = 0 := by
  obtain ⟨h1, h2, h3, h4, h5⟩ := H
  intro c hc
  rcases hsc : s c with _ | p
  · exact h2 c hc hsc r hr hu
  · obtain ⟨g1, g2, g3⟩ := h3 c hc p hsc
    rw [g3 r hr, if_neg (fun q => by rw [← q, hu] at g2; cases g2)]
theorem gj_no {m0 m : Nat → Nat → FF} {rows cols r : Nat} {U : Nat → Bool} {s : Nat → Nat} (H : gj m0 m rows cols cols U s) (hr : r < rows) (hu : U r = false) (hne : m r cols ≠ 0) : ∀ u, ¬ sat m0 rows cols u := by
  intro u hs
  have h := (H.1 u).mp hs r hr
  rw [fsum_0 (fun c hc => by rw [gj_row H hr hu c hc]; grind)] at h
  exact hne h.symm
theorem gj_yes {m0 m : Nat → Nat → FF} {rows cols : Nat} {U : Nat → Bool} {s : Nat → Nat} (H : gj m0 m rows cols cols U s) (hz : ∀ r, r < rows → U r = false → m r cols = 0) : sat m0 rows cols (fun j => if s j = 0 then 0 else m (s j - 1) cols) := by
  rw [H.1]
  intro r hr
  by_cases hu : U r = true
  · obtain ⟨c, hc, e⟩ := H.2.2.2.1 r hr hu
    obtain ⟨-, -, g3⟩ := H.2.2.1 c hc r e
    rw [fsum_1 hc (fun i hi hne => ?_)]
    · show m r c * (if s c = 0 then 0 else m (s c - 1) cols) = _
      rw [if_neg (by omega), g3 r hr, if_pos rfl, e, Nat.add_sub_cancel]; grind
    · show m r i * (if s i = 0 then 0 else m (s i - 1) cols) = 0
      rcases hsi : s i with _ | p
      · rw [if_pos rfl]; grind
      · obtain ⟨-, -, g4⟩ := H.2.2.1 i hi p hsi
        rw [g4 r hr, if_neg (fun q => hne (H.2.2.2.2 i c hi hc (by rw [hsi, e, q]) (by omega)))]; grind
  · have hu' : U r = false := by cases h : U r <;> simp_all
    rw [hz r hr hu']
    exact fsum_0 (fun c hc => by rw [gj_row H hr hu' c hc]; grind)
