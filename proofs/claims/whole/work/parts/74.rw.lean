/-! the reader's program can be worked out -/
def dps : List (Nat × Int) → Nat → Nat
  | [], d => d
  | x :: ps, d => dps ps (dst x d)
theorem dps_ap (x : Nat × Int) : ∀ (ps : List (Nat × Int)) (d : Nat), dps (ps ++ [x]) d = dst x (dps ps d) := by
  intro ps
  induction ps with
  | nil => intro d; rfl
  | cons y ps ih => intro d; exact ih (dst y d)
theorem wfp_ap {x : Nat × Int} : ∀ {ps : List (Nat × Int)} {d : Nat}, wfp ps d → vst x (dps ps d) → wfp (ps ++ [x]) d := by
  intro ps
  induction ps with
  | nil => intro d _ h; exact ⟨h, trivial⟩
  | cons y ps ih => intro d h1 h2; exact ⟨h1.1, ih h1.2 h2⟩
def SB (f : Nat → Nat) : Nat → Nat
  | 0 => 0
  | n + 1 => SB f n + f n
theorem SB_cg {f g : Nat → Nat} : ∀ {n : Nat}, (∀ l, l < n → f l = g l) → SB f n = SB g n := by
  intro n
  induction n with
  | zero => intro _; rfl
  | succ n ih => intro h; simp only [SB]; rw [ih (fun l hl => h l (by omega)), h n (by omega)]
def cst (o a b : Nat → Nat) (l : Nat) : Nat := (if a l = 0 then 0 else 1) + (if b l = 0 then 0 else 1) + (if 1 ≤ l ∧ (o l = 100 ∨ o l = 44) then 1 else 0)
def dpt (o a b : Nat → Nat) (l : Nat) : Nat := (if 8 ≤ a l then 1 else 0) + (if b l = 0 then 0 else 1) + (if 1 ≤ l ∧ o l = 44 then 1 else 0)
theorem cst_cg {o a b o' a' b' : Nat → Nat} {n : Nat} (h : ∀ l, l < n → o' l = o l ∧ a' l = a l ∧ b' l = b l) : SB (cst o' a' b') n = SB (cst o a b) n ∧ SB (dpt o' a' b') n = SB (dpt o a b) n := by
  refine ⟨SB_cg (fun l hl => ?_), SB_cg (fun l hl => ?_)⟩
  · simp only [cst, (h l hl).1, (h l hl).2.1, (h l hl).2.2]
  · simp only [dpt, (h l hl).1, (h l hl).2.1, (h l hl).2.2]
theorem rnum_val {cs : List Nat} {x : Nat} : ∀ {d w i : Nat}, w ≤ x → (rnum cs x d w i).1 ≤ x ∧ i ≤ (rnum cs x d w i).2 ∧ ((rnum cs x d w i).2 ≠ i → (rnum cs x d w i).2 ≤ cs.length) := by
  intro d
  induction d with
  | zero => intro w i h; exact ⟨h, Nat.le_refl _, fun q => absurd rfl q⟩
  | succ d ih =>
    intro w i h
    simp only [rnum]
    split
    · next q =>
      obtain ⟨h1, h2, h3⟩ := ih (w := w * 10 + (cs.getD i 0 - 48)) (i := i + 1) q.2
      have hl : i < cs.length := by
        rcases Nat.lt_or_ge i cs.length with g | g
        · exact g
        · have : cs.getD i 0 = 0 := by rw [List.getD_eq_getElem?_getD, List.getElem?_eq_none g]; rfl
          rw [this] at q; omega
      refine ⟨h1, by omega, fun _ => ?_⟩
      by_cases g : (rnum cs x d (w * 10 + (cs.getD i 0 - 48)) (i + 1)).2 = i + 1
      · omega
      · exact h3 g
    · exact ⟨h, Nat.le_refl _, fun q => absurd rfl q⟩
/-- what the reader keeps -/
def J2 (cs : List Nat) : RS → Prop
  | (o, a, b, n, i, _, w, y, _, ps, _) => ps.length + (SB (cst o a b) n + cst o a b n) ≤ i ∧ wfp ps 0 ∧ dps ps 0 = SB (dpt o a b) n + dpt o a b n + (1 - w) ∧ 2 * (SB (dpt o a b) n + dpt o a b n) + (1 - w) ≤ i ∧ (∀ l, l ≤ n → (a l = 0 ∨ a l = 6 ∨ a l = 8 ∨ a l = 9) ∧ (b l = 0 ∨ b l = 10 ∨ b l = 11)) ∧ (∀ l, 1 ≤ l → l ≤ n → o l = 40 ∨ o l = 100 ∨ o l = 115 ∨ o l = 44) ∧ (y = 1 → w = 1 → a n = 0 ∧ b n = 0) ∧ i ≤ cs.length ∧ w ≤ 1 ∧ n ≤ 8
def rdK (s : RS) : Nat := s.2.2.2.2.2.1
/-- an atom is read -/
theorem J2_end {cs : List Nat} {o a b : Nat → Nat} {n i j k y h : Nat} {ps : List (Nat × Int)} {t : Int32} {x : Nat × Int} (hc : cs.length ≤ 32) (H : J2 cs (o, a, b, n, i, k, 1, y, h, ps, t)) (hij : i < j) (hj : j ≤ cs.length) (h4 : x.1 ≤ 4) (hx : ∀ d, d < 16 → vst x d) {k' : Nat} : J2 cs (r_end x (o, a, b, n, j, k', 1, y, h, ps, t)) ∧ rdP (r_end x (o, a, b, n, j, k', 1, y, h, ps, t)) = ps ++ [x] := by
  obtain ⟨h1, h2, h3, h5, h6, h7, h8, h9, -, h10⟩ := H
  have e : addp ps x = ps ++ [x] := addp_lt (by omega)
  refine ⟨⟨?_, ?_, ?_, ?_, h6, h7, fun _ q => absurd q (by decide), hj, by decide, h10⟩, e⟩
  · rw [e, List.length_append, List.length_singleton]; omega
  · rw [e]; exact wfp_ap h2 (hx _ (by omega))
  · rw [e, dps_ap, dst, if_pos h4]; omega
  · omega
/-- the waiting product is put down -/
theorem J2_fp {cs : List Nat} {o a b : Nat → Nat} {n i k y h : Nat} {ps : List (Nat × Int)} {t : Int32} (hc : cs.length ≤ 32) (H : J2 cs (o, a, b, n, i, k, 0, y, h, ps, t)) : ∃ b' ps', (∀ i', r_fp (o, a, b, n, i', k, 0, y, h, ps, t) = (o, a, b', n, i', k, 0, y, h, ps', t)) ∧ J2 cs (o, a, b', n, i, k, 0, y, h, ps', t) ∧ b' n = 0 ∧ (∀ l, l ≠ n → b' l = b l) ∧ ps' = ps ++ (if b n = 0 then [] else [(b n, 0)]) := by
  by_cases q : b n = 0
  · exact ⟨b, ps, fun _ => if_pos q, H, q, fun _ _ => rfl, by rw [if_pos q, List.append_nil]⟩
  · obtain ⟨h1, h2, h3, h5, h6, h7, h8, h9, -, h10⟩ := H
    have hb : b n = 10 ∨ b n = 11 := ((h6 n (Nat.le_refl n)).2).resolve_left q
    obtain ⟨c1, c2⟩ := cst_cg (o := o) (a := a) (b := b) (o' := o) (a' := a) (b' := updN b n 0) (n := n) (fun l hl => ⟨rfl, rfl, updN_ne (by omega)⟩)
    have e1 : cst o a (updN b n 0) n + 1 = cst o a b n := by
      simp only [cst, updN_eq, if_neg q, if_true]; omega
    have e2 : dpt o a (updN b n 0) n + 1 = dpt o a b n := by
      simp only [dpt, updN_eq, if_neg q, if_true]; omega
    have e : addp ps (b n, 0) = ps ++ [(b n, 0)] := addp_lt (by omega)
    refine ⟨updN b n 0, ps ++ [(b n, 0)], fun _ => by rw [r_fp, if_neg q, e], ⟨?_, ?_, ?_, ?_, ?_, h7, fun _ z => absurd z (by decide), h9, by decide, h10⟩, updN_eq, fun l hl => updN_ne hl, by rw [if_neg q]⟩
    · rw [c1, List.length_append, List.length_singleton]; omega
    · exact wfp_ap h2 (Or.inr (Or.inr (Or.inr (Or.inr (Or.inr ⟨by show 8 ≤ b n; omega, by show b n ≤ 12; omega, by omega⟩)))))
    · rw [dps_ap, c2, dst]
      simp only
      rw [if_neg (by omega), if_neg (by omega)]; omega
    · rw [c2]; omega
    · intro l hl
      by_cases g : l = n
      · rw [g, updN_eq]; exact ⟨(h6 n (Nat.le_refl n)).1, Or.inl rfl⟩
      · rw [updN_ne g]; exact h6 l hl
theorem J2_fs {cs : List Nat} {o a b : Nat → Nat} {n i k y h : Nat} {ps : List (Nat × Int)} {t : Int32} (hc : cs.length ≤ 32) (H : J2 cs (o, a, b, n, i, k, 0, y, h, ps, t)) : ∃ a' ps', (∀ i', r_fs (o, a, b, n, i', k, 0, y, h, ps, t) = (o, a', b, n, i', k, 0, y, h, ps', t)) ∧ J2 cs (o, a', b, n, i, k, 0, y, h, ps', t) ∧ a' n = 0 ∧ (∀ l, l ≠ n → a' l = a l) ∧ ps' = ps ++ (if a n = 0 then [] else [(a n, 0)]) := by
  by_cases q : a n = 0
  · exact ⟨a, ps, fun _ => if_pos q, H, q, fun _ _ => rfl, by rw [if_pos q, List.append_nil]⟩
  · obtain ⟨h1, h2, h3, h5, h6, h7, h8, h9, -, h10⟩ := H
    have ha : a n = 6 ∨ a n = 8 ∨ a n = 9 := ((h6 n (Nat.le_refl n)).1).resolve_left q
    obtain ⟨c1, c2⟩ := cst_cg (o := o) (a := a) (b := b) (o' := o) (a' := updN a n 0) (b' := b) (n := n) (fun l hl => ⟨rfl, updN_ne (by omega), rfl⟩)
    have e1 : cst o (updN a n 0) b n + 1 = cst o a b n := by
      simp only [cst, updN_eq, if_neg q, if_true]; omega
    have e2 : dpt o (updN a n 0) b n + (if 8 ≤ a n then 1 else 0) = dpt o a b n := by
      simp only [dpt, updN_eq]
      rw [if_neg (show ¬ 8 ≤ 0 by omega)]; omega
    have e : addp ps (a n, 0) = ps ++ [(a n, 0)] := addp_lt (by omega)
    refine ⟨updN a n 0, ps ++ [(a n, 0)], fun _ => by rw [r_fs, if_neg q, e], ⟨?_, ?_, ?_, ?_, ?_, h7, fun _ z => absurd z (by decide), h9, by decide, h10⟩, updN_eq, fun l hl => updN_ne hl, by rw [if_neg q]⟩
    · rw [c1, List.length_append, List.length_singleton]; omega
    · by_cases g : 8 ≤ a n
      · rw [if_pos g] at e2
        exact wfp_ap h2 (Or.inr (Or.inr (Or.inr (Or.inr (Or.inr ⟨g, by show a n ≤ 12; omega, by omega⟩)))))
      · exact wfp_ap h2 (Or.inr (Or.inr (Or.inr (Or.inr (Or.inl ⟨by show 5 ≤ a n; omega, by show a n ≤ 7; omega, by show (-12 : Int) ≤ 0; decide, by show (0 : Int) ≤ 12; decide, by omega⟩)))))
    · rw [dps_ap, c2, dst]
      simp only
      rw [if_neg (by omega)]
      by_cases g : 8 ≤ a n
      · rw [if_neg (by omega)]; rw [if_pos g] at e2; omega
      · rw [if_pos (by omega)]; rw [if_neg g] at e2; omega
    · rw [c2]; omega
    · intro l hl
      by_cases g : l = n
      · rw [g, updN_eq]; exact ⟨Or.inl rfl, (h6 n (Nat.le_refl n)).2⟩
      · rw [updN_ne g]; exact h6 l hl
/-- what waits at the level -/
def pendB (b : Nat → Nat) (n : Nat) : List (Nat × Int) := if b n = 0 then [] else [(b n, 0)]
theorem J2_ft {cs : List Nat} {o a b : Nat → Nat} {n i k y h : Nat} {ps : List (Nat × Int)} {t : Int32} (hc : cs.length ≤ 32) (H : J2 cs (o, a, b, n, i, k, 0, y, h, ps, t)) : ∃ a' b' ps', (∀ i', r_ft (o, a, b, n, i', k, 0, y, h, ps, t) = (o, a', b', n, i', k, 0, y, h, ps', t)) ∧ J2 cs (o, a', b', n, i, k, 0, y, h, ps', t) ∧ a' n = 0 ∧ b' n = 0 ∧ (∀ l, l ≠ n → a' l = a l) ∧ (∀ l, l ≠ n → b' l = b l) ∧ ps' = ps ++ pendB b n ++ pendB a n := by
  obtain ⟨b', ps1, e1, H1, z1, k1, f1⟩ := J2_fp hc H
  obtain ⟨a', ps2, e2, H2, z2, k2, f2⟩ := J2_fs hc H1
  exact ⟨a', b', ps2, fun _ => by unfold r_ft; rw [e1, e2], H2, z2, z1, k2, k1, by rw [f2, f1]; rfl⟩
theorem getD_in {cs : List Nat} {i : Nat} (h : cs.getD i 0 ≠ 0) : i < cs.length := by
  rcases Nat.lt_or_ge i cs.length with g | g
  · exact g
  · exact absurd (by rw [List.getD_eq_getElem?_getD, List.getElem?_eq_none g]; rfl) h
theorem rnum_pos {cs : List Nat} {x d w i : Nat} (h : isD (cs.getD i 0)) (hx : w * 10 + (cs.getD i 0 - 48) ≤ x) : i < (rnum cs x (d + 1) w i).2 := by
  have := (rnum_val (cs := cs) (x := x) (d := d) (w := w * 10 + (cs.getD i 0 - 48)) (i := i + 1) hx).2.1
  rw [rnum, if_pos ⟨h, hx⟩]; omega
def rdI (s : RS) : Nat := s.2.2.2.2.1
/-- what a good step does -/
def J2S (cs : List Nat) (s s' : RS) : Prop := rdK s' = 1 ∨ (J2 cs s' ∧ rdK s' = 0 ∧ (∃ qs, rdP s' = rdP s ++ qs) ∧ rdT s' = rdT s ∧ rdI s < rdI s')
theorem J2_op {cs : List Nat} {o a b : Nat → Nat} {n i y h c : Nat} {ps : List (Nat × Int)} {t : Int32} (H : J2 cs (o, a, b, n, i, 0, 1, y, h, ps, t)) (hi : i < cs.length) (hcc : c = 40 ∨ c = 100 ∨ c = 115) : J2S cs (o, a, b, n, i, 0, 1, y, h, ps, t) (r_op cs c (o, a, b, n, i, 0, 1, y, h, ps, t)) := by
  obtain ⟨h1, h2, h3, h5, h6, h7, h8, h9, -, h10⟩ := H
  simp only [r_op]
  split
  · exact Or.inl rfl
  · next hn =>
    have key : ∀ j, i < j → j ≤ cs.length → (c = 40 ∨ i + 2 ≤ j) → J2S cs (o, a, b, n, i, 0, 1, y, h, ps, t) (r_sum (updN o (n + 1) c, a, b, n + 1, j, 0, 1, y, h, ps, t)) := by
      intro j hj hl hj2
      refine Or.inr ⟨?_, rfl, ⟨[], (List.append_nil _).symm⟩, rfl, hj⟩
      obtain ⟨c1, c2⟩ := cst_cg (o := o) (a := a) (b := b) (o' := updN o (n + 1) c) (a' := updN a (n + 1) 0) (b' := updN b (n + 1) 0) (n := n + 1) (fun l hl => ⟨updN_ne (by omega), updN_ne (by omega), updN_ne (by omega)⟩)
      have e1 : cst (updN o (n + 1) c) (updN a (n + 1) 0) (updN b (n + 1) 0) (n + 1) = if c = 100 then 1 else 0 := by
        simp only [cst, updN_eq, if_true]
        rcases hcc with q | q | q <;> subst q <;> simp
      have e2 : dpt (updN o (n + 1) c) (updN a (n + 1) 0) (updN b (n + 1) 0) (n + 1) = 0 := by
        simp only [dpt, updN_eq, if_true]
        rcases hcc with q | q | q <;> subst q <;> simp
      have e3 : (if c = 100 then 1 else 0) + i + 1 ≤ j := by
        split
        · omega
        · omega
      refine ⟨?_, h2, ?_, ?_, ?_, ?_, fun _ _ => ⟨updN_eq, updN_eq⟩, hl, by decide, by omega⟩
      · rw [c1, e1]; simp only [SB]; omega
      · rw [c2, e2, h3]; simp only [SB]
      · rw [c2, e2]; simp only [SB]; omega
      · intro l hl
        by_cases g : l = n + 1
        · rw [g, updN_eq, updN_eq]; exact ⟨Or.inl rfl, Or.inl rfl⟩
        · rw [updN_ne g, updN_ne g]; exact h6 l (by omega)
      · intro l hl1 hl2
        by_cases g : l = n + 1
        · rw [g, updN_eq]; omega
        · rw [updN_ne g]; exact h7 l hl1 (by omega)
    by_cases hc : c = 40
    · simp only [if_pos hc]
      split
      · exact key (i + 1) (by omega) (by omega) (Or.inl hc)
      · exact Or.inl rfl
    · simp only [if_neg hc]
      split
      · next hp =>
        have hj := getD_in (cs := cs) (i := i + 1) (fun q => by rw [hp] at q; cases q)
        exact key (i + 1 + 1) (by omega) (by omega) (Or.inr (by omega))
      · exact Or.inl rfl
theorem J2_bef {cs : List Nat} {o a b : Nat → Nat} {n i y h : Nat} {ps : List (Nat × Int)} {t : Int32} (hc : cs.length ≤ 32) (H : J2 cs (o, a, b, n, i, 0, 1, y, h, ps, t)) (hi : i < cs.length) : J2S cs (o, a, b, n, i, 0, 1, y, h, ps, t) (r_bef cs (cs.getD i 0) (o, a, b, n, i, 0, 1, y, h, ps, t)) := by
  simp only [r_bef]
  split
  · next q =>
    obtain ⟨h1, h2, h3, h5, h6, h7, h8, h9, -, h10⟩ := H
    obtain ⟨a0, b0⟩ := h8 q.1 rfl
    refine Or.inr ⟨?_, rfl, ⟨[], (List.append_nil _).symm⟩, rfl, Nat.lt_succ_self i⟩
    generalize hv : (if cs.getD i 0 = 45 then 6 else 0) = v
    have hv' : v = 0 ∨ v = 6 := by
      rw [← hv]; split
      · exact Or.inr rfl
      · exact Or.inl rfl
    obtain ⟨c1, c2⟩ := cst_cg (o := o) (a := a) (b := b) (o' := o) (a' := updN a n v) (b' := b) (n := n) (fun l hl => ⟨rfl, updN_ne (by omega), rfl⟩)
    have e1 : cst o (updN a n v) b n ≤ cst o a b n + 1 := by
      simp only [cst, updN_eq, if_pos a0]
      have : (if v = 0 then 0 else 1) ≤ 1 := by split <;> omega
      omega
    have e2 : dpt o (updN a n v) b n = dpt o a b n := by
      simp only [dpt, updN_eq]
      rw [if_neg (show ¬ 8 ≤ v by omega), if_neg (show ¬ 8 ≤ a n by omega)]
    refine ⟨?_, h2, ?_, ?_, ?_, h7, fun q => absurd q (by decide), by omega, by decide, h10⟩
    · rw [c1]; omega
    · rw [c2, e2]; exact h3
    · rw [c2, e2]; omega
    · intro l hl
      by_cases g : l = n
      · rw [g, updN_eq]; exact ⟨by omega, (h6 n (Nat.le_refl n)).2⟩
      · rw [updN_ne g]; exact h6 l hl
  split
  · next q =>
    have hp : i < (rnum cs 99999 5 0 i).2 := rnum_pos q (by omega)
    obtain ⟨v1, v2, v3⟩ := rnum_val (cs := cs) (x := 99999) (d := 5) (w := 0) (i := i) (by omega)
    have v3 := v3 (by omega)
    obtain ⟨g1, g2⟩ := J2_end (x := (1, ((rnum cs 99999 5 0 i).1 : Int))) (k' := 0) hc H hp v3 (by show 1 ≤ 4; decide) (fun d hd => Or.inl ⟨rfl, by show (0 : Int) ≤ ((rnum cs 99999 5 0 i).1 : Int); omega, by show ((rnum cs 99999 5 0 i).1 : Int) ≤ 99999; omega, hd⟩)
    have e : r_num cs 5 99999 (o, a, b, n, i, 0, 1, y, h, ps, t) = (o, a, b, n, (rnum cs 99999 5 0 i).2, 0, 1, y, h, ps, t) := by
      simp only [r_num]; rw [if_neg (by omega)]
    rw [e]
    exact Or.inr ⟨g1, rfl, ⟨_, g2⟩, rfl, hp⟩
  split
  · by_cases z : (rnum cs 99 2 0 (i + 1)).2 = i + 1
    · refine Or.inl ?_
      show (if (rnum cs 99 2 0 (i + 1)).2 = i + 1 then 1 else 0) = 1
      exact if_pos z
    · obtain ⟨v1, v2, v3⟩ := rnum_val (cs := cs) (x := 99) (d := 2) (w := 0) (i := i + 1) (by omega)
      have v3 := v3 z
      obtain ⟨g1, g2⟩ := J2_end (x := (4, ((rnum cs 99 2 0 (i + 1)).1 : Int))) (k' := 0) hc H (show i < (rnum cs 99 2 0 (i + 1)).2 by omega) v3 (by show 4 ≤ 4; decide) (fun d hd => Or.inr (Or.inr (Or.inr (Or.inl ⟨rfl, by show (0 : Int) ≤ ((rnum cs 99 2 0 (i + 1)).1 : Int); omega, by show ((rnum cs 99 2 0 (i + 1)).1 : Int) ≤ 99; omega, hd⟩))))
      have e : r_num cs 2 99 (o, a, b, n, i + 1, 0, 1, y, h, ps, t) = (o, a, b, n, (rnum cs 99 2 0 (i + 1)).2, 0, 1, y, h, ps, t) := by
        simp only [r_num]; rw [if_neg z]
      rw [e]
      exact Or.inr ⟨g1, rfl, ⟨_, g2⟩, rfl, by show i < (rnum cs 99 2 0 (i + 1)).2; omega⟩
  split
  · obtain ⟨g1, g2⟩ := J2_end (x := (2, 0)) (k' := 0) hc H (Nat.lt_succ_self i) hi (by decide) (fun d hd => Or.inr (Or.inl ⟨rfl, hd⟩))
    exact Or.inr ⟨g1, rfl, ⟨_, g2⟩, rfl, Nat.lt_succ_self i⟩
  split
  · next q =>
    obtain ⟨g1, g2⟩ := J2_end (x := (3, ((cs.getD i 0 - 97 : Nat) : Int))) (k' := 0) hc H (Nat.lt_succ_self i) hi (by show 3 ≤ 4; decide) (fun d hd => Or.inr (Or.inr (Or.inl ⟨rfl, by show (0 : Int) ≤ ((cs.getD i 0 - 97 : Nat) : Int); omega, by show ((cs.getD i 0 - 97 : Nat) : Int) < 3; omega, hd⟩)))
    exact Or.inr ⟨g1, rfl, ⟨_, g2⟩, rfl, Nat.lt_succ_self i⟩
  split
  · next q => exact J2_op H hi q
  · exact Or.inl rfl
theorem J2_aft {cs : List Nat} {o a b : Nat → Nat} {n i y h : Nat} {ps : List (Nat × Int)} {t : Int32} (hc : cs.length ≤ 32) (H : J2 cs (o, a, b, n, i, 0, 0, y, h, ps, t)) (hi : i < cs.length) : J2S cs (o, a, b, n, i, 0, 0, y, h, ps, t) (r_aft cs (cs.getD i 0) (o, a, b, n, i, 0, 0, y, h, ps, t)) := by
  simp only [r_aft]
  split
  · obtain ⟨h1, h2, h3, h5, h6, h7, h8, h9, -, h10⟩ := H
    have key : ∀ j v (z : Int), i < j → j ≤ cs.length → -12 ≤ z → z ≤ 12 → v = z → J2S cs (o, a, b, n, i, 0, 0, y, h, ps, t) (o, a, b, n, j, 0, 0, y, 0, addp ps (5, v), t) := by
      intro j v z hj hl z1 z2 hv
      subst hv
      have e : addp ps (5, v) = ps ++ [(5, v)] := addp_lt (by omega)
      rw [e]
      refine Or.inr ⟨⟨?_, wfp_ap h2 (Or.inr (Or.inr (Or.inr (Or.inr (Or.inl ⟨by show 5 ≤ 5; decide, by show 5 ≤ 7; decide, z1, z2, by omega⟩))))), ?_, by omega, h6, h7, fun _ q => absurd q (by decide), hl, by decide, h10⟩, rfl, ⟨_, rfl⟩, rfl, hj⟩
      · rw [List.length_append, List.length_singleton]; omega
      · rw [dps_ap]; simp only [dst]; rw [if_neg (by omega), if_pos (by omega)]; exact h3
    simp only [r_ex]
    split
    · by_cases z : (rnum cs 12 2 0 (i + 1 + 1)).2 = i + 1 + 1
      · refine Or.inl ?_
        show (if (rnum cs 12 2 0 (i + 1 + 1)).2 = i + 1 + 1 then 1 else 0) = 1
        exact if_pos z
      · obtain ⟨v1, v2, v3⟩ := rnum_val (cs := cs) (x := 12) (d := 2) (w := 0) (i := i + 1 + 1) (by omega)
        have v3 := v3 z
        simp only [r_num, r_ex2, if_neg z]
        exact key _ _ _ (by omega) v3 (by omega) (by omega) (if_pos trivial)
    · by_cases z : (rnum cs 12 2 0 (i + 1)).2 = i + 1
      · refine Or.inl ?_
        show (if (rnum cs 12 2 0 (i + 1)).2 = i + 1 then 1 else 0) = 1
        exact if_pos z
      · obtain ⟨v1, v2, v3⟩ := rnum_val (cs := cs) (x := 12) (d := 2) (w := 0) (i := i + 1) (by omega)
        have v3 := v3 z
        simp only [r_num, r_ex2, if_neg z]
        exact key _ _ _ (by omega) v3 (by omega) (by omega) (if_neg (fun q => q))
  split
  · obtain ⟨b', ps', e, H', z, kb, f⟩ := J2_fp hc H
    rw [e]
    obtain ⟨h1, h2, h3, h5, h6, h7, h8, h9, -, h10⟩ := H'
    generalize hv : (if cs.getD i 0 = 42 then 10 else 11) = v
    have hv' : v = 10 ∨ v = 11 := by
      rw [← hv]; split
      · exact Or.inl rfl
      · exact Or.inr rfl
    refine Or.inr ⟨?_, rfl, ⟨_, f⟩, rfl, Nat.lt_succ_self i⟩
    obtain ⟨c1, c2⟩ := cst_cg (o := o) (a := a) (b := b') (o' := o) (a' := a) (b' := updN b' n v) (n := n) (fun l hl => ⟨rfl, rfl, updN_ne (by omega)⟩)
    have e1 : cst o a (updN b' n v) n = cst o a b' n + 1 := by
      simp only [cst, updN_eq, if_pos z]; rw [if_neg (show ¬ v = 0 by omega)]; omega
    have e2 : dpt o a (updN b' n v) n = dpt o a b' n + 1 := by
      simp only [dpt, updN_eq, if_pos z]; rw [if_neg (show ¬ v = 0 by omega)]; omega
    refine ⟨?_, h2, ?_, ?_, ?_, h7, fun q => absurd q (by decide), by omega, by decide, h10⟩
    · rw [c1, e1]; omega
    · rw [c2, e2, h3]; omega
    · rw [c2, e2]; omega
    · intro l hl
      by_cases g : l = n
      · rw [g, updN_eq]; exact ⟨(h6 n (Nat.le_refl n)).1, by omega⟩
      · rw [updN_ne g]; exact h6 l hl
  split
  · obtain ⟨a', b', ps', e, H', z, zb, ka, kb, f⟩ := J2_ft hc H
    rw [e]
    obtain ⟨h1, h2, h3, h5, h6, h7, h8, h9, -, h10⟩ := H'
    generalize hv : (if cs.getD i 0 = 43 then 8 else 9) = v
    have hv' : v = 8 ∨ v = 9 := by
      rw [← hv]; split
      · exact Or.inl rfl
      · exact Or.inr rfl
    refine Or.inr ⟨?_, rfl, ⟨pendB b n ++ pendB a n, by rw [← List.append_assoc]; exact f⟩, rfl, Nat.lt_succ_self i⟩
    obtain ⟨c1, c2⟩ := cst_cg (o := o) (a := a') (b := b') (o' := o) (a' := updN a' n v) (b' := b') (n := n) (fun l hl => ⟨rfl, updN_ne (by omega), rfl⟩)
    have e1 : cst o (updN a' n v) b' n = cst o a' b' n + 1 := by
      simp only [cst, updN_eq, if_pos z]; rw [if_neg (show ¬ v = 0 by omega)]; omega
    have e2 : dpt o (updN a' n v) b' n = dpt o a' b' n + 1 := by
      simp only [dpt, updN_eq]; rw [if_pos (show 8 ≤ v by omega), if_neg (show ¬ 8 ≤ a' n by omega)]; omega
    refine ⟨?_, h2, ?_, ?_, ?_, h7, fun q => absurd q (by decide), by omega, by decide, h10⟩
    · rw [c1, e1]; omega
    · rw [c2, e2, h3]; omega
    · rw [c2, e2]; omega
    · intro l hl
      by_cases g : l = n
      · rw [g, updN_eq]; exact ⟨by omega, (h6 n (Nat.le_refl n)).2⟩
      · rw [updN_ne g]; exact h6 l hl
  split
  · next q =>
    obtain ⟨a', b', ps', e, H', z, zb, ka, kb, f⟩ := J2_ft hc H
    rw [e]
    obtain ⟨h1, h2, h3, h5, h6, h7, h8, h9, -, h10⟩ := H'
    refine Or.inr ⟨?_, rfl, ⟨pendB b n ++ pendB a n, by rw [← List.append_assoc]; exact f⟩, rfl, Nat.lt_succ_self i⟩
    obtain ⟨c1, c2⟩ := cst_cg (o := o) (a := a') (b := b') (o' := updN o n 44) (a' := updN a' n 0) (b' := updN b' n 0) (n := n) (fun l hl => ⟨updN_ne (by omega), updN_ne (by omega), updN_ne (by omega)⟩)
    have e1 : cst (updN o n 44) (updN a' n 0) (updN b' n 0) n = cst o a' b' n + 1 := by
      simp only [cst, updN_eq, if_pos z, if_pos zb]
      rw [if_neg (show ¬ (1 ≤ n ∧ (o n = 100 ∨ o n = 44)) by omega), if_pos (show 1 ≤ n ∧ (44 = 100 ∨ True) from ⟨by omega, Or.inr trivial⟩)]; rfl
    have e2 : dpt (updN o n 44) (updN a' n 0) (updN b' n 0) n = dpt o a' b' n + 1 := by
      simp only [dpt, updN_eq, if_pos zb]
      rw [if_neg (show ¬ (1 ≤ n ∧ o n = 44) by omega), if_neg (show ¬ 8 ≤ a' n by omega), if_pos (show 1 ≤ n ∧ True from ⟨by omega, trivial⟩)]; rfl
    refine ⟨?_, h2, ?_, ?_, ?_, ?_, fun _ _ => ⟨updN_eq, updN_eq⟩, by omega, by decide, h10⟩
    · rw [c1, e1]; omega
    · rw [c2, e2, h3]; omega
    · rw [c2, e2]; omega
    · intro l hl
      by_cases g : l = n
      · rw [g, updN_eq, updN_eq]; exact ⟨Or.inl rfl, Or.inl rfl⟩
      · rw [updN_ne g, updN_ne g]; exact h6 l hl
    · intro l hl1 hl2
      by_cases g : l = n
      · rw [g, updN_eq]; omega
      · rw [updN_ne g]; exact h7 l hl1 hl2
  split
  · next q =>
    obtain ⟨a', b', ps', e, H', z, zb, ka, kb, f⟩ := J2_ft hc H
    unfold r_cl
    rw [e]
    obtain ⟨h1, h2, h3, h5, h6, h7, h8, h9, -, h10⟩ := H'
    obtain ⟨m, rfl⟩ : ∃ m, n = m + 1 := ⟨n - 1, by omega⟩
    have e1 : cst o a' b' (m + 1) = if o (m + 1) = 100 ∨ o (m + 1) = 44 then 1 else 0 := by
      simp only [cst, if_pos z, if_pos zb]
      by_cases g : o (m + 1) = 100 ∨ o (m + 1) = 44
      · rw [if_pos g, if_pos ⟨by omega, g⟩]
      · rw [if_neg g, if_neg (fun q => g q.2)]
    have e2 : dpt o a' b' (m + 1) = if o (m + 1) = 44 then 1 else 0 := by
      simp only [dpt, if_pos zb]
      rw [if_neg (show ¬ 8 ≤ a' (m + 1) by omega)]
      by_cases g : o (m + 1) = 44
      · rw [if_pos g, if_pos ⟨by omega, g⟩]
      · rw [if_neg g, if_neg (fun q => g q.2)]
    have key : ∀ qs ps'', ps'' = ps' ++ qs → ps''.length ≤ ps'.length + cst o a' b' (m + 1) → wfp ps'' 0 → dps ps'' 0 = dps ps' 0 - dpt o a' b' (m + 1) → J2S cs (o, a, b, m + 1, i, 0, 0, y, h, ps, t) (o, a', b', m, i + 1, 0, 0, y, 1, ps'', t) := by
      intro qs ps'' f2 g1 g2 g3
      refine Or.inr ⟨⟨?_, g2, ?_, ?_, fun l hl => h6 l (by omega), fun l hl1 hl2 => h7 l hl1 (by omega), fun _ q => absurd q (by decide), by omega, by decide, by omega⟩, rfl, ⟨pendB b (m + 1) ++ pendB a (m + 1) ++ qs, ?_⟩, rfl, Nat.lt_succ_self i⟩
      · simp only [SB] at h1; omega
      · rw [g3, h3]; simp only [SB]; omega
      · simp only [SB] at h5; omega
      · show ps'' = ps ++ (pendB b (m + 1) ++ pendB a (m + 1) ++ qs)
        rw [f2, f, List.append_assoc, List.append_assoc, List.append_assoc]
    simp only [r_cl2, Nat.add_sub_cancel]
    split
    · next g =>
      rw [if_pos (Or.inl g)] at e1
      rw [if_neg (by omega)] at e2
      rw [addp_lt (by omega)]
      refine key _ _ rfl (by rw [List.length_append, List.length_singleton]; omega) (wfp_ap h2 (Or.inr (Or.inr (Or.inr (Or.inr (Or.inl ⟨by show 5 ≤ 7; decide, by show 7 ≤ 7; decide, by show (-12 : Int) ≤ 0; decide, by show (0 : Int) ≤ 12; decide, by omega⟩)))))) ?_
      rw [dps_ap, e2]; rfl
    · split
      · next g =>
        rw [if_pos (Or.inr g)] at e1
        rw [if_pos g] at e2
        rw [addp_lt (by omega)]
        refine key _ _ rfl (by rw [List.length_append, List.length_singleton]; omega) (wfp_ap h2 (Or.inr (Or.inr (Or.inr (Or.inr (Or.inr ⟨by show 8 ≤ 12; decide, by show 12 ≤ 12; decide, by omega⟩)))))) ?_
        rw [dps_ap, e2]; rfl
      · next g1 g2 =>
        rw [if_neg g2] at e2
        exact key [] _ (List.append_nil _).symm (by omega) h2 (by rw [e2]; rfl)
  · exact Or.inl rfl
theorem J2_step {cs : List Nat} (hc : cs.length ≤ 32) {s : RS} (H : J2 cs s) (hk : rdK s = 0) (hi : rdI s < cs.length) : J2S cs s (r_step cs s) := by
  obtain ⟨o, a, b, n, i, k, w, y, h, ps, t⟩ := s
  have hk' : k = 0 := hk
  subst hk'
  obtain ⟨-, -, -, -, -, -, -, -, hw, -⟩ := id H
  rcases (by omega : w = 0 ∨ w = 1) with q | q <;> subst q
  · exact J2_aft hc H hi
  · exact J2_bef hc H hi
theorem r_loop_k {cs : List Nat} {m : Nat} {s : RS} (q : rdK s = 1) : r_loop cs m s = s := by
  obtain ⟨o, a, b, n, i, k, w, y, h, ps, t⟩ := s
  have q' : k = 1 := q
  cases m with
  | zero => rfl
  | succ m => simp only [r_loop]; exact if_neg (by omega)
theorem J2_loop {cs : List Nat} (hc : cs.length ≤ 32) : ∀ (m : Nat) (s : RS), J2 cs s → rdK s = 0 → cs.length ≤ rdI s + m → (rdK (r_loop cs m s) = 1 ∧ rdI (r_loop cs m s) ≤ cs.length + 10) ∨ (J2 cs (r_loop cs m s) ∧ rdK (r_loop cs m s) = 0 ∧ (∃ qs, rdP (r_loop cs m s) = rdP s ++ qs) ∧ rdT (r_loop cs m s) = rdT s ∧ rdI (r_loop cs m s) = cs.length) := by
  intro m
  induction m with
  | zero =>
    intro s H hk hm
    refine Or.inr ⟨H, hk, ⟨[], (List.append_nil _).symm⟩, rfl, ?_⟩
    obtain ⟨o, a, b, n, i, k, w, y, h, ps, t⟩ := s
    have : i ≤ cs.length := H.2.2.2.2.2.2.2.1
    have h2 : cs.length ≤ i + 0 := hm
    show i = cs.length
    omega
  | succ m ih =>
    intro s H hk hm
    by_cases hi : rdI s < cs.length
    · have e : r_loop cs (m + 1) s = r_loop cs m (r_step cs s) := by
        obtain ⟨o, a, b, n, i, k, w, y, h, ps, t⟩ := s
        simp only [r_loop]
        exact if_pos ⟨hi, hk⟩
      rw [e]
      rcases J2_step hc H hk hi with q | ⟨H', hk', ⟨qs, f⟩, ht, hlt⟩
      · left
        rw [r_loop_k q]
        have h10 : rdI (r_step cs s) ≤ rdI s + 10 := r_step_i cs s
        exact ⟨q, by omega⟩
      · rcases ih (r_step cs s) H' hk' (by omega) with g | ⟨g1, g2, ⟨qs', g3⟩, g4, g5⟩
        · exact Or.inl g
        · exact Or.inr ⟨g1, g2, ⟨qs ++ qs', by rw [g3, f, List.append_assoc]⟩, g4.trans ht, g5⟩
    · have e : r_loop cs (m + 1) s = s := by
        obtain ⟨o, a, b, n, i, k, w, y, h, ps, t⟩ := s
        simp only [r_loop]
        exact if_neg (fun q => hi q.1)
      rw [e]
      refine Or.inr ⟨H, hk, ⟨[], (List.append_nil _).symm⟩, rfl, ?_⟩
      obtain ⟨o, a, b, n, i, k, w, y, h, ps, t⟩ := s
      have : i ≤ cs.length := H.2.2.2.2.2.2.2.1
      have h2 : ¬ i < cs.length := hi
      show i = cs.length
      omega
theorem J2_start {cs : List Nat} (o a b : Nat → Nat) (y w h : Nat) : J2 cs (r_start cs o a b y w h) ∧ rdK (r_start cs o a b y w h) = 0 ∧ rdP (r_start cs o a b y w h) = [] ∧ (rdT (r_start cs o a b y w h) = -1 ∨ ∃ j, j < 3 ∧ rdT (r_start cs o a b y w h) = nI j) := by
  have key : ∀ i t, i ≤ cs.length → J2 cs (o, updN a 0 0, updN b 0 0, 0, i, 0, 1, 1, h, [], t) := by
    intro i t hi
    have e1 : cst o (updN a 0 0) (updN b 0 0) 0 = 0 := by
      simp only [cst, updN_eq, if_true]; rfl
    have e2 : dpt o (updN a 0 0) (updN b 0 0) 0 = 0 := by
      simp only [dpt, updN_eq, if_true]; rfl
    refine ⟨?_, trivial, ?_, ?_, ?_, fun l h1 h2 => by omega, fun _ _ => ⟨updN_eq, updN_eq⟩, hi, by decide, by decide⟩
    · rw [e1]; exact Nat.zero_le _
    · rw [e2]; rfl
    · rw [e2]; exact Nat.zero_le _
    · intro l hl
      have : l = 0 := by omega
      subst this
      rw [updN_eq, updN_eq]; exact ⟨Or.inl rfl, Or.inl rfl⟩
  simp only [r_start, r_sum, r_tg]
  split
  · next q =>
    have h1 := getD_in (cs := cs) (i := 1) (fun z => by rw [q.2] at z; cases z)
    exact ⟨key 2 _ h1, rfl, rfl, Or.inr ⟨cs.getD 0 0 - 97, by omega, rfl⟩⟩
  · exact ⟨key 0 _ (Nat.zero_le _), rfl, rfl, Or.inl rfl⟩
theorem evp_len {fs : List (PS × PS)} {nb : Nat → Nat} : ∀ {ps : List (Nat × Int)} {rs rs' : List (PS × PS)}, wfp ps rs.length → evp fs nb ps rs = .inr rs' → rs'.length = dps ps rs.length := by
  intro ps
  induction ps with
  | nil => intro rs rs' _ h; rw [evp] at h; rw [← Sum.inr.inj h]; rfl
  | cons x ps ih =>
    intro rs rs' hw h
    simp only [evp] at h
    rcases e : stp fs nb x rs with t | r2
    · rw [e] at h; cases h
    · rw [e] at h
      have hl : r2.length = dst x rs.length := by
        have pu : ∀ {r : Res} {ys : List (PS × PS)}, push r ys = .inr r2 → r2.length = ys.length + 1 := by
          intro r ys hp
          cases r with
          | inl t => cases hp
          | inr f => rw [← Sum.inr.inj hp]; rfl
        simp only [stp] at e
        unfold dst
        split at e
        · rw [← Sum.inr.inj e, if_pos (by omega)]; rfl
        split at e
        · rw [← Sum.inr.inj e, if_pos (by omega)]; rfl
        split at e
        · rw [pu e, if_pos (by omega)]
        split at e
        · rw [pu e, if_pos (by omega)]
        split at e
        · rcases hw.1 with w | w | w | w | w | w
          · omega
          · omega
          · omega
          · omega
          · rw [if_neg (by omega), if_pos (by omega)]
            cases rs with
            | nil => cases e
            | cons l ys => exact pu e
          · omega
        · rcases hw.1 with w | w | w | w | w | w
          · omega
          · omega
          · omega
          · omega
          · omega
          · rw [if_neg (by omega), if_neg (by omega)]
            rcases rs with _ | ⟨r, _ | ⟨l, ys⟩⟩
            · cases e
            · cases e
            · exact pu e
      have := ih (rs := r2) (rs' := rs') (by rw [hl]; exact hw.2) h
      rw [this, hl]; rfl
/-- A GOOD LINE'S PROGRAM CAN BE WORKED OUT -/
theorem goodL_all {fs : List (PS × PS)} {nb : Nat → Nat} {cs : List Nat} (hc : cs.length ≤ 32) : goodL fs nb cs := by
  rintro ⟨o, a, b, y, w, h⟩ hg
  have hg' : (r_fin (r_loop cs 32 (r_start cs o a b y w h))).1 = -1 := hg
  show wfp (rdP (r_fin (r_loop cs 32 (r_start cs o a b y w h))).2) 0 ∧ (∀ rs, evp fs nb (rdP (r_fin (r_loop cs 32 (r_start cs o a b y w h))).2) [] = .inr rs → rs.length = 1) ∧ (rdT (r_fin (r_loop cs 32 (r_start cs o a b y w h))).2 = -1 ∨ ∃ j, j < 3 ∧ rdT (r_fin (r_loop cs 32 (r_start cs o a b y w h))).2 = nI j)
  obtain ⟨s1, s2, s3, s4⟩ := J2_start (cs := cs) o a b y w h
  have hl := J2_loop hc 32 _ s1 s2 (by omega)
  revert hg' hl
  generalize r_loop cs 32 (r_start cs o a b y w h) = s
  intro hg' hl
  obtain ⟨o, a, b, n, i, k, w, y, h, ps, t⟩ := s
  have ni : ∀ j : Nat, j ≤ 42 → nI j ≠ -1 := by
    intro j hj q
    have : ∀ j, j < 43 → Int32.ofNat j ≠ -1 := by decide
    exact this j (by omega) q
  rcases hl with ⟨q, qi⟩ | ⟨H, hk, -, ht, hi⟩
  · exfalso
    have q' : k = 1 := q
    simp only [r_fin] at hg'
    rw [if_pos (Or.inl q')] at hg'
    have qi' : i ≤ cs.length + 10 := qi
    exact ni i (by omega) hg'
  · have hi' : i = cs.length := hi
    by_cases g : k = 1 ∨ w = 1 ∨ 0 < n
    · exfalso
      simp only [r_fin] at hg'
      rw [if_pos g] at hg'
      exact ni i (by omega) hg'
    · have e : (r_fin (o, a, b, n, i, k, w, y, h, ps, t)).2 = r_ft (o, a, b, n, i, k, w, y, h, ps, t) := by
        simp only [r_fin]; rw [if_neg g]
      have hw : w = 0 := by
        have : w ≤ 1 := H.2.2.2.2.2.2.2.2.1
        omega
      have hn : n = 0 := by omega
      subst hw hn
      obtain ⟨a', b', ps', e2, ⟨h1, h2, h3, h5, h6, -⟩, za, zb, -, -, f⟩ := J2_ft hc H
      rw [e, e2]
      refine ⟨h2, fun rs hr => ?_, ?_⟩
      · have := evp_len (rs := []) h2 hr
        have h3' : dps ps' 0 = SB (dpt o a' b') 0 + dpt o a' b' 0 + (1 - 0) := h3
        have e3 : dpt o a' b' 0 = 0 := by
          simp only [dpt, if_pos zb]
          rw [if_neg (show ¬ 8 ≤ a' 0 by omega)]; rfl
        rw [this]
        show dps ps' 0 = 1
        rw [h3', e3]; rfl
      · have ht' : t = rdT (r_start cs _ _ _ _ _ _) := ht
        show t = -1 ∨ ∃ j, j < 3 ∧ t = nI j
        rw [ht']; exact s4
