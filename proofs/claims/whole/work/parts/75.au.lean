/-! the reference's automaton; the reader stops where it stops -/
abbrev AS : Type := Nat × Nat × (Nat → Nat)
def m_open (v lev : Nat) (kd : Nat → Nat) : Option AS := some (0, lev + 1, updN kd (lev + 1) v)
def m_beg (s c lev : Nat) (kd : Nat → Nat) : Option AS :=
  if isD c then some (4, lev, kd)
  else if c = 120 then some (2, lev, kd)
  else if isNm c then some (if s = 26 then 25 else 2, lev, kd)
  else if c = 37 then some (21, lev, kd)
  else if (c = 43 ∨ c = 45) ∧ s ≠ 1 then some (1, lev, kd)
  else if lev = 8 then none
  else if c = 100 then some (23, lev, kd)
  else if c = 115 then some (24, lev, kd)
  else if c = 40 then m_open 1 lev kd
  else none
def m_close (lev : Nat) (kd : Nat → Nat) : Option AS := if lev = 0 ∨ kd lev = 3 then none else some (2, lev - 1, kd)
def m_at (s c lev : Nat) (kd : Nat → Nat) : Option AS :=
  if s = 23 ∨ s = 24 then (if c = 40 then m_open (if s = 23 then 2 else 3) lev kd else none)
  else if s = 0 ∨ s = 1 ∨ s = 26 then m_beg s c lev kd
  else if s = 9 ∨ s = 10 then (if isD c then some (11 + c - 48, lev, kd) else if s = 9 ∧ c = 45 then some (10, lev, kd) else none)
  else if s = 21 then (if isD c then some (22, lev, kd) else none)
  else if isD c then (if 4 ≤ s ∧ s < 8 then some (s + 1, lev, kd) else if s = 22 then some (2, lev, kd) else if 11 ≤ s ∧ s ≤ 20 ∧ (s - 11) * 10 + c - 48 ≤ 12 then some (3, lev, kd) else none)
  else if c = 58 then (if s = 25 then some (0, lev, kd) else none)
  else if c = 94 then (if s = 3 ∨ (11 ≤ s ∧ s ≤ 20) then none else some (9, lev, kd))
  else if c = 43 ∨ c = 45 ∨ c = 42 ∨ c = 47 then some (1, lev, kd)
  else if c = 41 then m_close lev kd
  else if c ≠ 44 ∨ lev = 0 ∨ kd lev ≠ 3 then none
  else some (0, lev, updN kd lev 4)
abbrev cpl (s : Nat) : Prop := (2 ≤ s ∧ s ≤ 8) ∨ (11 ≤ s ∧ s ≤ 20) ∨ s = 22 ∨ s = 25
def m_bl (cs : List Nat) : Nat → Nat → AS → Option Nat
  | 0, i, x => if x.2.1 = 0 ∧ cpl x.1 then none else some i
  | f + 1, i, x => match m_at x.1 (cs.getD i 0) x.2.1 x.2.2 with
    | none => some i
    | some x' => m_bl cs f (i + 1) x'
def m_bad (cs : List Nat) (kd : Nat → Nat) : Option Nat := m_bl cs cs.length 0 (26, 0, kd)
def A_ (cs : List Nat) (i s lev : Nat) (kd : Nat → Nat) : Option Nat := m_bl cs (cs.length - i) i (s, lev, kd)
theorem A_in {cs : List Nat} {i s lev : Nat} {kd : Nat → Nat} (hi : i < cs.length) : A_ cs i s lev kd = match m_at s (cs.getD i 0) lev kd with
    | none => some i
    | some x => A_ cs (i + 1) x.1 x.2.1 x.2.2 := by
  unfold A_
  rw [show cs.length - i = (cs.length - (i + 1)) + 1 by omega]
  rfl
theorem A_out {cs : List Nat} {i s lev : Nat} {kd : Nat → Nat} (hi : cs.length ≤ i) : A_ cs i s lev kd = if lev = 0 ∧ cpl s then none else some i := by
  unfold A_
  rw [show cs.length - i = 0 by omega]
  rfl
theorem A_some {cs : List Nat} {i s lev s' lev' : Nat} {kd kd' : Nat → Nat} (hi : i < cs.length) (h : m_at s (cs.getD i 0) lev kd = some (s', lev', kd')) : A_ cs i s lev kd = A_ cs (i + 1) s' lev' kd' := by
  rw [A_in hi, h]
theorem A_none {cs : List Nat} {i s lev : Nat} {kd : Nat → Nat} (hi : i ≤ cs.length) (h : i < cs.length → m_at s (cs.getD i 0) lev kd = none) (hc : ¬ cpl s) : A_ cs i s lev kd = some i := by
  rcases Nat.lt_or_ge i cs.length with q | q
  · rw [A_in q, h q]
  · rw [A_out q, if_neg (fun z => hc z.2)]
theorem A_eq {cs : List Nat} {i s s' lev : Nat} {kd : Nat → Nat} (h : i < cs.length → m_at s (cs.getD i 0) lev kd = m_at s' (cs.getD i 0) lev kd) (h1 : cpl s) (h2 : cpl s') : A_ cs i s lev kd = A_ cs i s' lev kd := by
  rcases Nat.lt_or_ge i cs.length with q | q
  · rw [A_in q, A_in q, h q]
  · rw [A_out q, A_out q]
    simp only [h1, h2]
theorem getD_out {cs : List Nat} {i : Nat} (h : cs.length ≤ i) : cs.getD i 0 = 0 := by
  rw [List.getD_eq_getElem?_getD, List.getElem?_eq_none h]; rfl
theorem at_8 (c lev : Nat) (kd : Nat → Nat) : m_at 8 c lev kd = m_at 2 c lev kd := by simp [m_at]
theorem at_nd {s c lev : Nat} {kd : Nat → Nat} (hs : s = 4 ∨ s = 5 ∨ s = 6 ∨ s = 7 ∨ s = 22) (hc : ¬ isD c) : m_at s c lev kd = m_at 2 c lev kd := by
  rcases hs with q | q | q | q | q <;> subst q <;> simp [m_at, hc]
theorem at_25 {c lev : Nat} {kd : Nat → Nat} (hc : c ≠ 58) : m_at 25 c lev kd = m_at 2 c lev kd := by simp [m_at, hc]
theorem at_ex {d c lev : Nat} {kd : Nat → Nat} (hd : d < 10) (hc : ¬ (isD c ∧ d * 10 + (c - 48) ≤ 12)) : m_at (11 + d) c lev kd = m_at 3 c lev kd := by
  by_cases h : isD c
  · have : ¬ (11 + d - 11) * 10 + c - 48 ≤ 12 := by
      intro q
      exact hc ⟨h, by omega⟩
    simp only [m_at]
    rw [if_neg (by omega), if_neg (by omega), if_neg (by omega), if_neg (by omega), if_pos h, if_neg (by omega), if_neg (by omega), if_neg (fun q => this q.2.2), if_neg (by omega), if_neg (by omega), if_neg (by omega), if_neg (by omega), if_pos h, if_neg (by omega), if_neg (by omega), if_neg (by omega)]
  · simp only [m_at]
    rw [if_neg (by omega), if_neg (by omega), if_neg (by omega), if_neg (by omega), if_neg h, if_neg (show ¬ (3 = 23 ∨ 3 = 24) by omega), if_neg (show ¬ (3 = 0 ∨ 3 = 1 ∨ 3 = 26) by omega), if_neg (show ¬ (3 = 9 ∨ 3 = 10) by omega), if_neg (show ¬ 3 = 21 by omega), if_neg h]
    rw [if_neg (show ¬ 11 + d = 25 by omega), if_neg (show ¬ 3 = 25 by omega), if_pos (show 11 + d = 3 ∨ 11 ≤ 11 + d ∧ 11 + d ≤ 20 by omega), if_pos (show True ∨ 11 ≤ 3 ∧ 3 ≤ 20 from Or.inl trivial)]
/-- digits behind the first -/
theorem A_num {cs : List Nat} {lev : Nat} {kd : Nat → Nat} : ∀ (d w i : Nat), d ≤ 4 → (w + 1) * 10 ^ d ≤ 100000 → A_ cs i (8 - d) lev kd = A_ cs (rnum cs 99999 d w i).2 2 lev kd := by
  intro d
  induction d with
  | zero => intro w i _ _; exact A_eq (fun _ => at_8 _ _ _) (by decide) (by decide)
  | succ d ih =>
    intro w i hd hw
    rw [Nat.pow_succ] at hw
    simp only [rnum]
    by_cases h : isD (cs.getD i 0)
    · have hv : (w * 10 + (cs.getD i 0 - 48) + 1) * 10 ^ d ≤ 100000 := by
        have h1 : (w * 10 + (cs.getD i 0 - 48) + 1) ≤ (w + 1) * 10 := by omega
        have h2 : (w * 10 + (cs.getD i 0 - 48) + 1) * 10 ^ d ≤ (w + 1) * 10 * 10 ^ d := Nat.mul_le_mul_right _ h1
        have h3 : (w + 1) * 10 * 10 ^ d = (w + 1) * (10 ^ d * 10) := by rw [Nat.mul_assoc, Nat.mul_comm 10 (10 ^ d)]
        omega
      have hx : w * 10 + (cs.getD i 0 - 48) ≤ 99999 := by
        have h4 : 1 ≤ 10 ^ d := Nat.pow_pos (by decide)
        have h5 : (w * 10 + (cs.getD i 0 - 48) + 1) * 1 ≤ (w * 10 + (cs.getD i 0 - 48) + 1) * 10 ^ d := Nat.mul_le_mul_left _ h4
        omega
      rw [if_pos ⟨h, hx⟩]
      have hi := getD_in (cs := cs) (i := i) (by omega)
      rw [A_some (s' := 8 - d) (lev' := lev) (kd' := kd) hi ?_]
      · exact ih _ _ (by omega) hv
      · simp only [m_at]
        rw [if_neg (by omega), if_neg (by omega), if_neg (by omega), if_neg (by omega), if_pos h, if_pos (by omega), show 8 - (d + 1) + 1 = 8 - d by omega]
    · rw [if_neg (fun q => h q.1)]
      exact A_eq (fun _ => at_nd (by omega) h) (by omega) (by decide)
def kof (c : Nat) : Nat := if c = 40 then 1 else if c = 100 then 2 else if c = 115 then 3 else 4
def stS (w y h : Nat) : Nat := if w = 1 then (if y = 1 then 0 else 1) else if h = 1 then 2 else 3
def KD (kd o : Nat → Nat) (n : Nat) : Prop := ∀ l, 1 ≤ l → l ≤ n → kd l = kof (o l)
def rdN (s : RS) : Nat := s.2.2.2.1
def rdO (s : RS) : Nat → Nat := s.1
def rdS (s : RS) : Nat := stS s.2.2.2.2.2.2.1 s.2.2.2.2.2.2.2.1 s.2.2.2.2.2.2.2.2.1
/-- the automaton goes along with a step -/
def AUS (cs : List Nat) (s' : RS) (v : Option Nat) : Prop := (rdK s' = 1 ∧ v = some (rdI s')) ∨ (rdK s' = 0 ∧ ∃ kd', KD kd' (rdO s') (rdN s') ∧ v = A_ cs (rdI s') (rdS s') (rdN s') kd')
theorem m_beg_at {s c lev : Nat} {kd : Nat → Nat} (h : s = 0 ∨ s = 1 ∨ s = 26) : m_at s c lev kd = m_beg s c lev kd := by
  simp only [m_at]
  rw [if_neg (by omega), if_pos h]
theorem AU_op {cs : List Nat} {o a b kd : Nat → Nat} {n i y h c s : Nat} {ps : List (Nat × Int)} {t : Int32} (hs : s = 0 ∨ s = 1) (hi : i < cs.length) (hK : KD kd o n) (hn : n ≤ 8) (hcc : c = 40 ∨ c = 100 ∨ c = 115) (hc : cs.getD i 0 = c) : AUS cs (r_op cs c (o, a, b, n, i, 0, 1, y, h, ps, t)) (A_ cs i s n kd) := by
  simp only [r_op]
  have e0 : m_at s (cs.getD i 0) n kd = m_beg s (cs.getD i 0) n kd := m_beg_at (by omega)
  split
  · left
    refine ⟨rfl, A_none (by omega) (fun _ => ?_) (by omega)⟩
    rw [e0, m_beg]
    rw [if_neg (by omega), if_neg (by omega), if_neg (by omega), if_neg (by omega), if_neg (by omega), if_pos (by omega)]
  · next hn8 =>
    by_cases h40 : c = 40
    · simp only [if_pos h40]
      rw [if_pos (by omega)]
      right
      refine ⟨rfl, updN kd (n + 1) 1, ?_, ?_⟩
      · intro l h1 h2
        show _ = kof (updN o (n + 1) c l)
        by_cases g : l = n + 1
        · rw [g, updN_eq, updN_eq, h40]; rfl
        · have h2' : l ≤ n + 1 := h2
          rw [updN_ne g, updN_ne g]; exact hK l h1 (by omega)
      · refine A_some hi ?_
        rw [e0, m_beg, if_neg (by omega), if_neg (by omega), if_neg (by omega), if_neg (by omega), if_neg (by omega), if_neg (by omega), if_neg (by omega), if_neg (by omega), if_pos (by omega)]
        rfl
    · simp only [if_neg h40]
      have e1 : A_ cs i s n kd = A_ cs (i + 1) (if c = 100 then 23 else 24) n kd := by
        refine A_some hi ?_
        rw [e0, m_beg, if_neg (by omega), if_neg (by omega), if_neg (by omega), if_neg (by omega), if_neg (by omega), if_neg (by omega)]
        by_cases g : c = 100
        · rw [if_pos (by omega), if_pos g]
        · rw [if_neg (by omega), if_pos (by omega), if_neg g]
      rw [e1]
      split
      · next hp =>
        have hj := getD_in (cs := cs) (i := i + 1) (fun q => by rw [hp] at q; cases q)
        right
        refine ⟨rfl, updN kd (n + 1) (if c = 100 then 2 else 3), ?_, ?_⟩
        · intro l h1 h2
          show _ = kof (updN o (n + 1) c l)
          by_cases g : l = n + 1
          · rw [g, updN_eq, updN_eq, kof, if_neg h40]
            by_cases g : c = 100
            · rw [if_pos g, if_pos g]
            · rw [if_neg g, if_neg g, if_pos (by omega)]
          · have h2' : l ≤ n + 1 := h2
            rw [updN_ne g, updN_ne g]; exact hK l h1 (by omega)
        · refine A_some hj ?_
          rw [hp]
          by_cases g : c = 100
          · simp only [if_pos g]; simp [m_at, m_open]; exact ⟨rfl, rfl⟩
          · simp only [if_neg g]; simp [m_at, m_open]; exact ⟨rfl, rfl⟩
      · next hp =>
        left
        refine ⟨rfl, A_none (by omega) (fun _ => ?_) (by split <;> omega)⟩
        by_cases g : c = 100
        · simp only [if_pos g]; simp only [m_at]; rw [if_pos (Or.inl trivial), if_neg hp]
        · simp only [if_neg g]; simp only [m_at]; rw [if_pos (Or.inr trivial), if_neg hp]
theorem AU_bef {cs : List Nat} {o a b kd : Nat → Nat} {n i y h : Nat} {ps : List (Nat × Int)} {t : Int32} (hi : i < cs.length) (hK : KD kd o n) (hn : n ≤ 8) : AUS cs (r_bef cs (cs.getD i 0) (o, a, b, n, i, 0, 1, y, h, ps, t)) (A_ cs i (stS 1 y h) n kd) := by
  have hs : stS 1 y h = 0 ∧ y = 1 ∨ stS 1 y h = 1 ∧ y ≠ 1 := by
    unfold stS
    rw [if_pos rfl]
    by_cases q : y = 1
    · exact Or.inl ⟨if_pos q, q⟩
    · exact Or.inr ⟨if_neg q, q⟩
  generalize stS 1 y h = s at hs
  have hs' : s = 0 ∨ s = 1 := by omega
  have e0 : m_at s (cs.getD i 0) n kd = m_beg s (cs.getD i 0) n kd := m_beg_at (by omega)
  simp only [r_bef]
  split
  · next q =>
    right
    refine ⟨rfl, kd, hK, A_some hi ?_⟩
    rw [e0, m_beg, if_neg (by omega), if_neg (by omega), if_neg (by omega), if_neg (by omega), if_pos (by omega)]
    rfl
  next q1 =>
  split
  · next q =>
    right
    have hp : i < (rnum cs 99999 5 0 i).2 := rnum_pos q (by omega)
    refine ⟨if_neg (by show ¬ (rnum cs 99999 5 0 i).2 = i; omega), kd, hK, ?_⟩
    show _ = A_ cs (rnum cs 99999 5 0 i).2 2 n kd
    rw [A_some (s' := 4) (lev' := n) (kd' := kd) hi (by rw [e0, m_beg, if_pos q])]
    have e : rnum cs 99999 5 0 i = rnum cs 99999 4 (0 * 10 + (cs.getD i 0 - 48)) (i + 1) := by
      rw [rnum, if_pos ⟨q, by omega⟩]
    rw [e]
    exact A_num 4 _ (i + 1) (by decide) (by omega)
  next q2 =>
  split
  · next q =>
    have e1 : A_ cs i s n kd = A_ cs (i + 1) 21 n kd := A_some hi (by rw [e0, m_beg, if_neg q2, if_neg (by omega), if_neg (by omega), if_pos q])
    rw [e1]
    by_cases hd : isD (cs.getD (i + 1) 0)
    · right
      have hp : i + 1 < (rnum cs 99 2 0 (i + 1)).2 := rnum_pos hd (by omega)
      have hi1 := getD_in (cs := cs) (i := i + 1) (by omega)
      refine ⟨if_neg (by show ¬ (rnum cs 99 2 0 (i + 1)).2 = i + 1; omega), kd, hK, ?_⟩
      show _ = A_ cs (rnum cs 99 2 0 (i + 1)).2 2 n kd
      rw [A_some (s' := 22) (lev' := n) (kd' := kd) hi1 (by simp only [m_at]; rw [if_neg (by omega), if_neg (by omega), if_neg (by omega), if_pos trivial, if_pos hd])]
      rw [rnum, if_pos ⟨hd, by omega⟩, rnum]
      by_cases hd2 : isD (cs.getD (i + 1 + 1) 0)
      · have hi2 := getD_in (cs := cs) (i := i + 1 + 1) (by omega)
        rw [if_pos ⟨hd2, by omega⟩]
        refine A_some hi2 ?_
        simp only [m_at]
        rw [if_neg (by omega), if_neg (by omega), if_neg (by omega), if_neg (by omega), if_pos hd2, if_neg (by omega), if_pos trivial]
      · rw [if_neg (fun q => hd2 q.1)]
        exact A_eq (fun _ => at_nd (by omega) hd2) (by decide) (by decide)
    · left
      have z : (rnum cs 99 2 0 (i + 1)).2 = i + 1 := by rw [rnum, if_neg (fun q => hd q.1)]
      refine ⟨if_pos z, ?_⟩
      show _ = some (rnum cs 99 2 0 (i + 1)).2
      rw [z]
      refine A_none (by omega) (fun _ => ?_) (by decide)
      simp only [m_at]
      rw [if_neg (by omega), if_neg (by omega), if_neg (by omega), if_pos trivial, if_neg hd]
  next q3 =>
  split
  · next q =>
    right
    refine ⟨rfl, kd, hK, ?_⟩
    show _ = A_ cs (i + 1) 2 n kd
    exact A_some hi (by rw [e0, m_beg, if_neg q2, if_pos q])
  next q4 =>
  split
  · next q =>
    right
    refine ⟨rfl, kd, hK, ?_⟩
    show _ = A_ cs (i + 1) 2 n kd
    exact A_some hi (by rw [e0, m_beg, if_neg q2, if_neg q4, if_pos q, if_neg (by omega)])
  next q5 =>
  split
  · next q => exact AU_op hs' hi hK hn q rfl
  · next q =>
    left
    refine ⟨rfl, A_none (by omega) (fun _ => ?_) (by omega)⟩
    rw [e0, m_beg, if_neg q2, if_neg q4, if_neg q5, if_neg q3, if_neg (by omega)]
    by_cases g : n = 8
    · rw [if_pos g]
    · rw [if_neg g, if_neg (by omega), if_neg (by omega), if_neg (by omega)]
/-- the exponent -/
theorem A_exp {cs : List Nat} {lev i s : Nat} {kd : Nat → Nat} (hs : s = 9 ∧ cs.getD i 0 ≠ 45 ∨ s = 10) (hi : i ≤ cs.length) : ((rnum cs 12 2 0 i).2 = i ∧ A_ cs i s lev kd = some i) ∨ ((rnum cs 12 2 0 i).2 ≠ i ∧ A_ cs i s lev kd = A_ cs (rnum cs 12 2 0 i).2 3 lev kd) := by
  by_cases hd : isD (cs.getD i 0)
  · right
    have hp : i < (rnum cs 12 2 0 i).2 := rnum_pos hd (by omega)
    have hi1 := getD_in (cs := cs) (i := i) (by omega)
    refine ⟨by omega, ?_⟩
    rw [A_some (s' := 11 + (cs.getD i 0 - 48)) (lev' := lev) (kd' := kd) hi1 (by simp only [m_at]; rw [if_neg (by omega), if_neg (by omega), if_pos (by omega), if_pos hd, show 11 + cs.getD i 0 - 48 = 11 + (cs.getD i 0 - 48) by omega])]
    rw [rnum, if_pos ⟨hd, by omega⟩, rnum]
    by_cases hd2 : isD (cs.getD (i + 1) 0) ∧ (0 * 10 + (cs.getD i 0 - 48)) * 10 + (cs.getD (i + 1) 0 - 48) ≤ 12
    · rw [if_pos hd2]
      have hi2 := getD_in (cs := cs) (i := i + 1) (by omega)
      refine A_some hi2 ?_
      simp only [m_at]
      rw [if_neg (by omega), if_neg (by omega), if_neg (by omega), if_neg (by omega), if_pos hd2.1, if_neg (by omega), if_neg (by omega), if_pos (by omega)]
    · rw [if_neg hd2]
      exact A_eq (fun _ => at_ex (by omega) (fun q => hd2 ⟨q.1, by omega⟩)) (by omega) (by decide)
  · left
    refine ⟨by rw [rnum, if_neg (fun q => hd q.1)], A_none hi (fun _ => ?_) (by omega)⟩
    simp only [m_at]
    rw [if_neg (by omega), if_neg (by omega), if_pos (by omega), if_neg hd, if_neg (by omega)]
theorem at_aft {s c lev : Nat} {kd : Nat → Nat} (hs : s = 2 ∨ s = 3) : m_at s c lev kd = if isD c ∨ c = 58 then none else if c = 94 then (if s = 3 then none else some (9, lev, kd)) else if c = 43 ∨ c = 45 ∨ c = 42 ∨ c = 47 then some (1, lev, kd) else if c = 41 then m_close lev kd else if c ≠ 44 ∨ lev = 0 ∨ kd lev ≠ 3 then none else some (0, lev, updN kd lev 4) := by
  simp only [m_at]
  rw [if_neg (by omega), if_neg (by omega), if_neg (by omega), if_neg (by omega)]
  by_cases h1 : isD c
  · rw [if_pos h1, if_pos (Or.inl h1), if_neg (by omega), if_neg (by omega), if_neg (by omega)]
  · rw [if_neg h1]
    by_cases h2 : c = 58
    · rw [if_pos h2, if_pos (Or.inr h2), if_neg (by omega)]
    · rw [if_neg h2, if_neg (show ¬ (isD c ∨ c = 58) from fun q => q.elim h1 h2)]
      by_cases h3 : s = 3
      · rw [if_pos (Or.inl h3), if_pos h3]
      · rw [if_neg (show ¬ (s = 3 ∨ 11 ≤ s ∧ s ≤ 20) by omega), if_neg h3]
theorem kof_3 {c : Nat} : kof c = 3 ↔ c = 115 := by
  unfold kof
  constructor
  · intro h
    split at h
    · cases h
    split at h
    · cases h
    split at h
    · assumption
    · cases h
  · intro h; subst h; rfl
theorem AU_aft {cs : List Nat} {o a b kd : Nat → Nat} {n i y h : Nat} {ps : List (Nat × Int)} {t : Int32} (hc : cs.length ≤ 32) (hi : i < cs.length) (hK : KD kd o n) (H : J2 cs (o, a, b, n, i, 0, 0, y, h, ps, t)) : AUS cs (r_aft cs (cs.getD i 0) (o, a, b, n, i, 0, 0, y, h, ps, t)) (A_ cs i (stS 0 y h) n kd) := by
  have hs : stS 0 y h = 2 ∧ h = 1 ∨ stS 0 y h = 3 ∧ h ≠ 1 := by
    unfold stS
    rw [if_neg (by decide)]
    by_cases q : h = 1
    · exact Or.inl ⟨if_pos q, q⟩
    · exact Or.inr ⟨if_neg q, q⟩
  generalize stS 0 y h = s at hs
  have hs' : s = 2 ∨ s = 3 := by omega
  have hcp : cpl s := by omega
  have e0 : m_at s (cs.getD i 0) n kd = _ := at_aft hs'
  have bad : m_at s (cs.getD i 0) n kd = none → A_ cs i s n kd = some i := fun e => by rw [A_in hi, e]
  simp only [r_aft]
  split
  · next q =>
    have e1 : A_ cs i s n kd = A_ cs (i + 1) 9 n kd := A_some hi (by rw [e0, if_neg (by omega), if_pos q.1, if_neg (by omega)])
    rw [e1]
    simp only [r_ex]
    split
    · next q2 =>
      have hi1 := getD_in (cs := cs) (i := i + 1) (by omega)
      rw [A_some (s' := 10) (lev' := n) (kd' := kd) hi1 (by rw [q2]; simp [m_at])]
      rcases A_exp (cs := cs) (lev := n) (kd := kd) (i := i + 1 + 1) (s := 10) (Or.inr rfl) (by omega) with ⟨z, e⟩ | ⟨z, e⟩
      · left
        refine ⟨if_pos z, ?_⟩
        show _ = some (rnum cs 12 2 0 (i + 1 + 1)).2
        rw [z]; exact e
      · right
        exact ⟨if_neg z, kd, hK, e⟩
    · next q2 =>
      rcases A_exp (cs := cs) (lev := n) (kd := kd) (i := i + 1) (s := 9) (Or.inl ⟨rfl, q2⟩) (by omega) with ⟨z, e⟩ | ⟨z, e⟩
      · left
        refine ⟨if_pos z, ?_⟩
        show _ = some (rnum cs 12 2 0 (i + 1)).2
        rw [z]; exact e
      · right
        exact ⟨if_neg z, kd, hK, e⟩
  next q1 =>
  split
  · next q =>
    right
    obtain ⟨b', ps', e, -⟩ := J2_fp hc H
    rw [e]
    refine ⟨rfl, kd, hK, ?_⟩
    show _ = A_ cs (i + 1) 1 n kd
    exact A_some hi (by rw [e0, if_neg (by omega), if_neg (by omega), if_pos (by omega)])
  next q2 =>
  split
  · next q =>
    right
    obtain ⟨a', b', ps', e, -⟩ := J2_ft hc H
    rw [e]
    refine ⟨rfl, kd, hK, ?_⟩
    show _ = A_ cs (i + 1) 1 n kd
    exact A_some hi (by rw [e0, if_neg (by omega), if_neg (by omega), if_pos (by omega)])
  next q3 =>
  split
  · next q =>
    right
    obtain ⟨a', b', ps', e, -⟩ := J2_ft hc H
    rw [e]
    refine ⟨rfl, updN kd n 4, ?_, ?_⟩
    · intro l h1 h2
      show _ = kof (updN o n 44 l)
      by_cases g : l = n
      · rw [g, updN_eq, updN_eq]; rfl
      · rw [updN_ne g, updN_ne g]; exact hK l h1 h2
    · show _ = A_ cs (i + 1) 0 n (updN kd n 4)
      refine A_some hi ?_
      have hk : kd n = 3 := by rw [hK n (by omega) (Nat.le_refl n)]; exact kof_3.mpr q.2.2
      rw [e0, if_neg (by omega), if_neg (by omega), if_neg (by omega), if_neg (by omega), if_neg (by omega)]
  next q4 =>
  split
  · next q =>
    right
    obtain ⟨a', b', ps', e, -⟩ := J2_ft hc H
    unfold r_cl
    rw [e]
    refine ⟨rfl, kd, fun l h1 h2 => hK l h1 (by have h2' : l ≤ n - 1 := h2; omega), ?_⟩
    show _ = A_ cs (i + 1) 2 (n - 1) kd
    refine A_some hi ?_
    have hk : kd n ≠ 3 := by rw [hK n (by omega) (Nat.le_refl n)]; exact fun z => q.2.2 (kof_3.mp z)
    rw [e0, if_neg (by omega), if_neg (by omega), if_neg (by omega), if_pos q.1, m_close, if_neg (by omega)]
  · next q5 =>
    left
    refine ⟨rfl, bad ?_⟩
    rw [e0]
    by_cases g1 : isD (cs.getD i 0) ∨ cs.getD i 0 = 58
    · rw [if_pos g1]
    rw [if_neg g1]
    by_cases g2 : cs.getD i 0 = 94
    · rw [if_pos g2, if_pos (by omega)]
    rw [if_neg g2, if_neg (by omega)]
    have hk : 0 < n → (kd n = 3 ↔ o n = 115) := fun hn => by rw [hK n hn (Nat.le_refl n)]; exact kof_3
    by_cases g3 : cs.getD i 0 = 41
    · rw [if_pos g3, m_close, if_pos]
      rcases Nat.eq_zero_or_pos n with z | z
      · exact Or.inl z
      · exact Or.inr ((hk z).mpr (Classical.byContradiction (fun w => q5 ⟨g3, z, w⟩)))
    · rw [if_neg g3, if_pos]
      by_cases g4 : cs.getD i 0 = 44
      · rcases Nat.eq_zero_or_pos n with z | z
        · exact Or.inr (Or.inl z)
        · exact Or.inr (Or.inr (fun w => q4 ⟨g4, z, (hk z).mp w⟩))
      · exact Or.inl g4
def verd : Option Nat → Int32
  | none => -1
  | some i => nI i
theorem r_fin_k {s : RS} (q : rdK s = 1) : (r_fin s).1 = verd (some (rdI s)) := by
  obtain ⟨o, a, b, n, i, k, w, y, h, ps, t⟩ := s
  have q' : k = 1 := q
  simp only [r_fin]
  rw [if_pos (Or.inl q')]; rfl
theorem AU_loop {cs : List Nat} (hc : cs.length ≤ 32) : ∀ (m : Nat) (s : RS) (kd : Nat → Nat), J2 cs s → rdK s = 0 → cs.length ≤ rdI s + m → KD kd (rdO s) (rdN s) → (r_fin (r_loop cs m s)).1 = verd (A_ cs (rdI s) (rdS s) (rdN s) kd) := by
  have fin : ∀ (s : RS) (kd : Nat → Nat), J2 cs s → rdK s = 0 → rdI s = cs.length → (r_fin s).1 = verd (A_ cs (rdI s) (rdS s) (rdN s) kd) := by
    intro s kd H hk hi
    obtain ⟨o, a, b, n, i, k, w, y, h, ps, t⟩ := s
    have hk' : k = 0 := hk
    have hi' : i = cs.length := hi
    show _ = verd (A_ cs i (stS w y h) n kd)
    rw [A_out (by omega)]
    have hw : w ≤ 1 := H.2.2.2.2.2.2.2.2.1
    simp only [r_fin]
    by_cases q : w = 1 ∨ 0 < n
    · rw [if_pos (Or.inr q), if_neg]
      · rfl
      · intro z
        unfold stS at z
        split at z
        · split at z <;> omega
        · omega
    · rw [if_neg (by omega), if_pos]
      · rfl
      · refine ⟨by omega, ?_⟩
        unfold stS
        rw [if_neg (by omega)]
        split <;> decide
  intro m
  induction m with
  | zero =>
    intro s kd H hk hm hK
    refine fin s kd H hk ?_
    obtain ⟨o, a, b, n, i, k, w, y, h, ps, t⟩ := s
    have : i ≤ cs.length := H.2.2.2.2.2.2.2.1
    have h2 : cs.length ≤ i + 0 := hm
    show i = cs.length
    omega
  | succ m ih =>
    intro s kd H hk hm hK
    by_cases hi : rdI s < cs.length
    · have e : r_loop cs (m + 1) s = r_loop cs m (r_step cs s) := by
        obtain ⟨o, a, b, n, i, k, w, y, h, ps, t⟩ := s
        simp only [r_loop]
        exact if_pos ⟨hi, hk⟩
      rw [e]
      have au : AUS cs (r_step cs s) (A_ cs (rdI s) (rdS s) (rdN s) kd) := by
        obtain ⟨o, a, b, n, i, k, w, y, h, ps, t⟩ := s
        have hk' : k = 0 := hk
        subst hk'
        obtain ⟨-, -, -, -, -, -, -, -, hw, hn⟩ := id H
        rcases (by omega : w = 0 ∨ w = 1) with q | q <;> subst q
        · exact AU_aft hc hi hK H
        · exact AU_bef hi hK hn
      have js := J2_step hc H hk hi
      rcases au with ⟨q, ev⟩ | ⟨q, kd', hK', ev⟩
      · rw [r_loop_k q, ev]
        exact r_fin_k q
      · rcases js with j | ⟨j1, j2, -, -, j5⟩
        · rw [q] at j; cases j
        · rw [ev]
          exact ih _ kd' j1 q (by omega) hK'
    · have e : r_loop cs (m + 1) s = s := by
        obtain ⟨o, a, b, n, i, k, w, y, h, ps, t⟩ := s
        simp only [r_loop]
        exact if_neg (fun q => hi q.1)
      rw [e]
      refine fin s kd H hk ?_
      obtain ⟨o, a, b, n, i, k, w, y, h, ps, t⟩ := s
      have : i ≤ cs.length := H.2.2.2.2.2.2.2.1
      have h2 : ¬ i < cs.length := hi
      show i = cs.length
      omega
/-- THE READER STOPS WHERE THE AUTOMATON STOPS -/
theorem bad_eq {cs : List Nat} (hc : cs.length ≤ 32) (g : (Nat → Nat) × (Nat → Nat) × (Nat → Nat) × Nat × Nat × Nat) (kd : Nat → Nat) : (rdR cs g).1 = verd (m_bad cs kd) := by
  obtain ⟨o, a, b, y, w, h⟩ := g
  show (r_fin (r_loop cs 32 (r_start cs o a b y w h))).1 = _
  obtain ⟨s1, s2, -, -⟩ := J2_start (cs := cs) o a b y w h
  have hN : rdN (r_start cs o a b y w h) = 0 := by
    simp only [r_start, r_sum, r_tg]
    split <;> rfl
  rw [AU_loop hc 32 _ kd s1 s2 (by omega) (fun l h1 h2 => by rw [hN] at h2; omega), hN]
  congr 1
  show _ = A_ cs 0 26 0 kd
  simp only [r_start, r_sum, r_tg]
  split
  · next q =>
    show A_ cs 2 0 0 kd = _
    have hl := getD_in (cs := cs) (i := 1) (fun z => by rw [q.2] at z; cases z)
    rw [A_some (i := 0) (s := 26) (s' := 25) (lev' := 0) (kd' := kd) (by omega) (by rw [m_beg_at (by omega), m_beg, if_neg (by omega), if_neg (by omega), if_pos q.1, if_pos rfl])]
    rw [A_some (i := 0 + 1) (s := 25) (s' := 0) (lev' := 0) (kd' := kd) hl (by
      rw [show cs.getD (0 + 1) 0 = 58 from q.2]
      simp [m_at])]
  · next q =>
    show A_ cs 0 0 0 kd = _
    rcases Nat.eq_zero_or_pos cs.length with z | z
    · rw [A_out (by omega), A_out (by omega), if_neg (by omega), if_neg (by omega)]
    · by_cases hn : isNm (cs.getD 0 0)
      · rw [A_some (i := 0) (s := 26) (s' := 25) (lev' := 0) (kd' := kd) z (by rw [m_beg_at (by omega), m_beg, if_neg (by omega), if_neg (by omega), if_pos hn, if_pos rfl])]
        rw [A_some (i := 0) (s := 0) (s' := 2) (lev' := 0) (kd' := kd) z (by rw [m_beg_at (by omega), m_beg, if_neg (by omega), if_neg (by omega), if_pos hn, if_neg (by omega)])]
        exact (A_eq (fun _ => at_25 (fun w => q ⟨hn, w⟩)) (by decide) (by decide)).symm
      · have e : m_at 0 (cs.getD 0 0) 0 kd = m_at 26 (cs.getD 0 0) 0 kd := by
          rw [m_beg_at (by omega), m_beg_at (by omega)]
          simp only [m_beg]
          rw [if_neg hn, if_neg hn]
          simp
        rw [A_in z, A_in z, e]
