/-! the reference's working out, and the reader's program worked out -/
def updR (R : Nat → PS × PS) (k : Nat) (x : PS × PS) : Nat → PS × PS := fun j => if j = k then x else R j
theorem updR_eq {R : Nat → PS × PS} {k : Nat} {x : PS × PS} : updR R k x k = x := if_pos rfl
theorem updR_ne {R : Nat → PS × PS} {k j : Nat} {x : PS × PS} (h : j ≠ k) : updR R k x j = R j := if_neg h
/-- registers, level, kinds, sums and terms there, signs, divisions -/
abbrev ME : Type := (Nat → PS × PS) × Nat × (Nat → Nat) × (Nat → Nat) × (Nat → Nat) × (Nat → Nat) × (Nat → Nat)
abbrev MR : Type := Int32 ⊕ ME
def m_bind (r : MR) (f : ME → MR) : MR := match r with
  | .inl t => .inl t
  | .inr x => f x
def m_fac1 (r : Res) : ME → MR
  | (R, l, kd, hs, ht, sg, dv) => match r with
    | .inl t => .inl t
    | .inr f => .inr (updR R (53 + l) f, l, kd, hs, updN ht l 1, sg, dv)
noncomputable def m_fac : ME → MR
  | (R, l, kd, hs, ht, sg, dv) => m_fac1 (if ht l = 1 then (if dv l = 1 then oDiv (R (53 + l)) (R 71) else oMul (R (53 + l)) (R 71)) else .inr (R 71)) (R, l, kd, hs, ht, sg, dv)
def m_trm1 (r : Res) : ME → MR
  | (R, l, kd, hs, ht, sg, dv) => match r with
    | .inl t => .inl t
    | .inr f => .inr (updR R (44 + l) f, l, kd, updN hs l 1, updN ht l 0, sg, dv)
noncomputable def m_trm : ME → MR
  | (R, l, kd, hs, ht, sg, dv) => m_trm1 (if hs l = 1 then oAdd (Fin.ofNat 10007 (sg l)) (R (44 + l)) (R (53 + l)) else .inr (ps_mul (ps_C (Fin.ofNat 10007 (sg l))) (R (53 + l)).1, (R (53 + l)).2)) (R, l, kd, hs, ht, sg, dv)
def m_sta (v : Nat) : ME → ME
  | (R, l, kd, hs, ht, sg, dv) => (R, l, updN kd l v, updN hs l 0, updN ht l 0, updN sg l 1, updN dv l 0)
def m_lev : ME → ME
  | (R, l, kd, hs, ht, sg, dv) => (R, l + 1, kd, hs, ht, sg, dv)
def m_put (r : Res) : ME → MR
  | (R, l, kd, hs, ht, sg, dv) => match r with
    | .inl t => .inl t
    | .inr f => .inr (updR R 71 f, l, kd, hs, ht, sg, dv)
def m_dwn : ME → ME
  | (R, l, kd, hs, ht, sg, dv) => (R, l - 1, kd, hs, ht, sg, dv)
noncomputable def m_clo2 : ME → MR
  | (R, l, kd, hs, ht, sg, dv) => m_put (if kd l = 2 then oDer (R (44 + l)) else if kd l = 4 then oComp (R (62 + l)) (R (44 + l)) else .inr (R (44 + l))) (R, l - 1, kd, hs, ht, sg, dv)
noncomputable def m_clo (x : ME) : MR := m_bind (m_trm x) m_clo2
def dgs (cs : List Nat) : Nat → Nat → Nat
  | 0, i => i
  | k + 1, i => if isD (cs.getD i 0) then dgs cs k (i + 1) else i
def wth (cs : List Nat) : Nat → Nat → Nat → Nat
  | 0, v, _ => v
  | d + 1, v, i => wth cs d (v * 10 + (cs.getD i 0 - 48)) (i + 1)
/-- where the exponent's digits begin; where what belongs to the atom ends -/
def m_from (cs : List Nat) (i : Nat) : Nat := if cs.getD i 0 = 94 then (if cs.getD (i + 1) 0 = 45 then i + 2 else i + 1) else i
def m_end (cs : List Nat) (i : Nat) : Nat := if cs.getD i 0 = 94 then dgs cs 32 (m_from cs i) else i
def m_exp (cs : List Nat) (i : Nat) : Int := if cs.getD (i + 1) 0 = 45 then -((wth cs (m_end cs i - m_from cs i) 0 (m_from cs i) : Nat) : Int) else ((wth cs (m_end cs i - m_from cs i) 0 (m_from cs i) : Nat) : Int)
noncomputable def m_pow (cs : List Nat) (i : Nat) : ME → MR
  | (R, l, kd, hs, ht, sg, dv) => if cs.getD i 0 = 94 then m_put (op1 5 (m_exp cs i) (R 71)) (R, l, kd, hs, ht, sg, dv) else .inr (R, l, kd, hs, ht, sg, dv)
noncomputable def m_rai (cs : List Nat) (i : Nat) (r : MR) : Nat × MR := (m_end cs i, m_bind (m_bind r (m_pow cs i)) m_fac)
noncomputable def m_atom (cs : List Nat) (fs : List (PS × PS)) (nb : Nat → Nat) (i : Nat) : Nat × Res :=
  if isD (cs.getD i 0) then (dgs cs 32 i, .inr (ps_C (Fin.ofNat 10007 (wth cs (dgs cs 32 i - i) 0 i)), ps_C 1))
  else if cs.getD i 0 = 120 then (i + 1, .inr (mono 1 1, ps_C 1))
  else if cs.getD i 0 = 37 then (dgs cs 32 (i + 1), labF fs (wth cs (dgs cs 32 (i + 1) - (i + 1)) 0 (i + 1)))
  else (i + 1, labF fs (nb (cs.getD i 0 - 97)))
def m_sgn (v : Nat) : ME → ME
  | (R, l, kd, hs, ht, sg, dv) => (R, l, kd, hs, ht, updN sg l v, dv)
def m_div (v : Nat) : ME → ME
  | (R, l, kd, hs, ht, sg, dv) => (R, l, kd, hs, ht, sg, updN dv l v)
def m_cpy : ME → ME
  | (R, l, kd, hs, ht, sg, dv) => (updR R (62 + l) (R (44 + l)), l, kd, hs, ht, sg, dv)
def m_ht (x : ME) : Nat := x.2.2.2.2.1 x.2.1
noncomputable def m_adv (cs : List Nat) (fs : List (PS × PS)) (nb : Nat → Nat) (i : Nat) (x : ME) : Nat × MR :=
  let c := cs.getD i 0
  if c = 40 ∨ c = 100 ∨ c = 115 then (if c = 40 then i + 1 else i + 2, .inr (m_sta (if c = 40 then 1 else if c = 100 then 2 else 3) (m_lev x)))
  else if c = 43 ∨ c = 45 then (i + 1, m_bind (if m_ht x = 1 then m_trm x else .inr x) (fun x' => .inr (m_sgn (if c = 45 then 10006 else 1) x')))
  else if c = 42 ∨ c = 47 then (i + 1, .inr (m_div (if c = 47 then 1 else 0) x))
  else if c = 44 then (i + 1, m_bind (m_trm x) (fun x' => .inr (m_sta 4 (m_cpy x'))))
  else if c = 41 then m_rai cs (i + 1) (m_clo x)
  else m_rai cs (m_atom cs fs nb i).1 (m_put (m_atom cs fs nb i).2 x)
noncomputable def m_run (cs : List Nat) (fs : List (PS × PS)) (nb : Nat → Nat) : Nat → Nat → ME → MR
  | 0, _, x => .inr x
  | k + 1, i, x => if i < cs.length then m_bind (m_adv cs fs nb i x).2 (m_run cs fs nb k (m_adv cs fs nb i x).1) else .inr x
def m_res (r : MR) : Res := match r with
  | .inl t => .inl t
  | .inr x => .inr (x.1 44)
noncomputable def m_val (cs : List Nat) (fs : List (PS × PS)) (nb : Nat → Nat) (x : ME) : Res := m_res (m_bind (m_run cs fs nb 33 (if isNm (cs.getD 0 0) ∧ cs.getD 1 0 = 58 then 2 else 0) x) m_trm)
/-! the two ways to read a number -/
theorem rn_dg {cs : List Nat} {x : Nat} : ∀ (d w i K : Nat), d ≤ K → ¬ isD (cs.getD (rnum cs x d w i).2 0) → dgs cs K i = (rnum cs x d w i).2 ∧ wth cs ((rnum cs x d w i).2 - i) w i = (rnum cs x d w i).1 := by
  intro d
  induction d with
  | zero =>
    intro w i K hK hn
    have hn' : ¬ isD (cs.getD i 0) := hn
    show dgs cs K i = i ∧ wth cs (i - i) w i = w
    rw [Nat.sub_self]
    cases K with
    | zero => exact ⟨rfl, rfl⟩
    | succ K => exact ⟨by rw [dgs, if_neg hn'], rfl⟩
  | succ d ih =>
    intro w i K hK hn
    rw [rnum] at hn ⊢
    split at hn
    · next q =>
      rw [if_pos q]
      obtain ⟨K', rfl⟩ : ∃ K', K = K' + 1 := ⟨K - 1, by omega⟩
      obtain ⟨h1, h2⟩ := ih _ _ K' (by omega) hn
      have hle := (rnum_le cs x d (w * 10 + (cs.getD i 0 - 48)) (i + 1)).1
      refine ⟨by rw [dgs, if_pos q.1, h1], ?_⟩
      rw [show (rnum cs x d (w * 10 + (cs.getD i 0 - 48)) (i + 1)).2 - i = ((rnum cs x d (w * 10 + (cs.getD i 0 - 48)) (i + 1)).2 - (i + 1)) + 1 by omega, wth, h2]
    · next q =>
      rw [if_neg q]
      have hn' : ¬ isD (cs.getD i 0) := hn
      show dgs cs K i = i ∧ wth cs (i - i) w i = w
      rw [Nat.sub_self]
      cases K with
      | zero => exact ⟨rfl, rfl⟩
      | succ K => exact ⟨by rw [dgs, if_neg hn'], rfl⟩
theorem evp_ap {fs : List (PS × PS)} {nb : Nat → Nat} {qs : List (Nat × Int)} : ∀ {ps : List (Nat × Int)} {rs : List (PS × PS)}, evp fs nb (ps ++ qs) rs = match evp fs nb ps rs with
    | .inl t => .inl t
    | .inr rs' => evp fs nb qs rs' := by
  intro ps
  induction ps with
  | nil => intro rs; rfl
  | cons x ps ih =>
    intro rs
    simp only [List.cons_append, evp]
    cases stp fs nb x rs with
    | inl t => rfl
    | inr r => exact ih
theorem evp_inl {fs : List (PS × PS)} {nb : Nat → Nat} {ps qs : List (Nat × Int)} {t : Int32} (h : evp fs nb ps [] = .inl t) : evp fs nb (ps ++ qs) [] = .inl t := by
  rw [evp_ap, h]
theorem evp_inr {fs : List (PS × PS)} {nb : Nat → Nat} {ps qs : List (Nat × Int)} {rs : List (PS × PS)} (h : evp fs nb ps [] = .inr rs) : evp fs nb (ps ++ qs) [] = evp fs nb qs rs := by
  rw [evp_ap, h]
theorem evp_1 {fs : List (PS × PS)} {nb : Nat → Nat} {x : Nat × Int} {rs : List (PS × PS)} : evp fs nb [x] rs = stp fs nb x rs := by
  simp only [evp]
  cases stp fs nb x rs <;> rfl
/-! a good run of the reader -/
def gd (cs : List Nat) (m : Nat) (s : RS) : Prop := J2 cs s ∧ rdK s = 0 ∧ cs.length ≤ rdI s + m ∧ (r_fin (r_loop cs m s)).1 = -1
theorem nI_m1 {j : Nat} (hj : j ≤ 42) : nI j ≠ -1 := by
  have : ∀ j, j < 43 → Int32.ofNat j ≠ -1 := by decide
  exact this j (by omega)
theorem gd_step {cs : List Nat} {m : Nat} {s : RS} (hc : cs.length ≤ 32) (H : gd cs m s) (hi : rdI s < cs.length) : ∃ m', m = m' + 1 ∧ gd cs m' (r_step cs s) ∧ r_loop cs m s = r_loop cs m' (r_step cs s) := by
  obtain ⟨h1, h2, h3, h4⟩ := H
  obtain ⟨m', rfl⟩ : ∃ m', m = m' + 1 := ⟨m - 1, by omega⟩
  have e : r_loop cs (m' + 1) s = r_loop cs m' (r_step cs s) := by
    obtain ⟨o, a, b, n, i, k, w, y, h, ps, t⟩ := s
    simp only [r_loop]
    exact if_pos ⟨hi, h2⟩
  rw [e] at h4
  refine ⟨m', rfl, ?_, e⟩
  rcases J2_step hc h1 h2 hi with q | ⟨j1, j2, -, -, j5⟩
  · exfalso
    have h10 : rdI (r_step cs s) ≤ rdI s + 10 := r_step_i cs s
    rw [r_loop_k q, r_fin_k q] at h4
    exact nI_m1 (by omega) h4
  · exact ⟨j1, j2, by omega, h4⟩
theorem gd_nd {cs : List Nat} {m : Nat} {o a b : Nat → Nat} {n i k y h : Nat} {ps : List (Nat × Int)} {t : Int32} (hc : cs.length ≤ 32) (H : gd cs m (o, a, b, n, i, k, 0, y, h, ps, t)) : ¬ isD (cs.getD i 0) := by
  intro q
  have hi := getD_in (cs := cs) (i := i) (by omega)
  obtain ⟨m', -, ⟨-, h2, -⟩, -⟩ := gd_step hc H hi
  have e : r_step cs (o, a, b, n, i, k, 0, y, h, ps, t) = (o, a, b, n, i, 1, 0, y, h, ps, t) := by
    simp only [r_step]
    rw [if_neg (by decide)]
    simp only [r_aft]
    rw [if_neg (by omega), if_neg (by omega), if_neg (by omega), if_neg (by omega), if_neg (by omega)]
  rw [e] at h2
  cases h2
def fin_ (cs : List Nat) (m : Nat) (s : RS) : List (Nat × Int) := rdP (r_fin (r_loop cs m s)).2
/-- at the end nothing stands unclosed -/
theorem gd_end {cs : List Nat} {m : Nat} {o a b : Nat → Nat} {n i k w y h : Nat} {ps : List (Nat × Int)} {t : Int32} (hc : cs.length ≤ 32) (H : gd cs m (o, a, b, n, i, k, w, y, h, ps, t)) (hi : cs.length ≤ i) : n = 0 ∧ w = 0 ∧ fin_ cs m (o, a, b, n, i, k, w, y, h, ps, t) = ps ++ pendB b n ++ pendB a n := by
  obtain ⟨h1, h2, h3, h4⟩ := H
  have e : r_loop cs m (o, a, b, n, i, k, w, y, h, ps, t) = (o, a, b, n, i, k, w, y, h, ps, t) := by
    cases m with
    | zero => rfl
    | succ m => simp only [r_loop]; exact if_neg (by omega)
  have hil : i ≤ cs.length := h1.2.2.2.2.2.2.2.1
  have hw : w ≤ 1 := h1.2.2.2.2.2.2.2.2.1
  rw [e] at h4
  by_cases q : k = 1 ∨ w = 1 ∨ 0 < n
  · exfalso
    simp only [r_fin] at h4
    rw [if_pos q] at h4
    exact nI_m1 (by omega) h4
  · have hw0 : w = 0 := by omega
    subst hw0
    refine ⟨by omega, rfl, ?_⟩
    unfold fin_
    rw [e]
    simp only [r_fin]
    rw [if_neg q]
    obtain ⟨a', b', ps', e2, -, -, -, -, -, f⟩ := J2_ft hc h1
    rw [e2]; exact f
theorem gd_mono {cs : List Nat} (hc : cs.length ≤ 32) : ∀ (m : Nat) (s : RS), gd cs m s → ∃ qs, fin_ cs m s = rdP s ++ qs := by
  have stop : ∀ m (s : RS), gd cs m s → cs.length ≤ rdI s → ∃ qs, fin_ cs m s = rdP s ++ qs := by
    intro m s H hi
    obtain ⟨o, a, b, n, i, k, w, y, h, ps, t⟩ := s
    obtain ⟨-, -, e⟩ := gd_end hc H hi
    exact ⟨_, by rw [e, List.append_assoc]; rfl⟩
  intro m
  induction m with
  | zero => intro s H; exact stop 0 s H (by have := H.2.2.1; omega)
  | succ m ih =>
    intro s H
    rcases Nat.lt_or_ge (rdI s) cs.length with hi | hi
    · obtain ⟨m', hm, H', e⟩ := gd_step hc H hi
      have hm' : m' = m := by omega
      subst hm'
      obtain ⟨qs, f⟩ := ih _ H'
      rcases J2_step hc H.1 H.2.1 hi with q | ⟨-, -, ⟨qs', f'⟩, -, -⟩
      · rw [H'.2.1] at q; cases q
      · refine ⟨qs' ++ qs, ?_⟩
        have e2 : fin_ cs (m' + 1) s = fin_ cs m' (r_step cs s) := by unfold fin_; rw [e]
        rw [e2, f, f', List.append_assoc]
    · exact stop _ s H hi
/-- what waits is put down next -/
theorem gd_ext {cs : List Nat} {m : Nat} {o a b : Nat → Nat} {n i k y h : Nat} {ps : List (Nat × Int)} {t : Int32} (hc : cs.length ≤ 32) (H : gd cs m (o, a, b, n, i, k, 0, y, h, ps, t)) (hb : h = 1 → cs.getD i 0 ≠ 94) : ∃ qs, fin_ cs m (o, a, b, n, i, k, 0, y, h, ps, t) = (ps ++ pendB b n) ++ qs := by
  rcases Nat.lt_or_ge i cs.length with hi | hi
  · obtain ⟨m', hm, H', e⟩ := gd_step hc H hi
    have hk : k = 0 := H.2.1
    subst hk
    have e2 : fin_ cs m (o, a, b, n, i, 0, 0, y, h, ps, t) = fin_ cs m' (r_step cs (o, a, b, n, i, 0, 0, y, h, ps, t)) := by unfold fin_; rw [e]
    obtain ⟨qs, f⟩ := gd_mono hc m' _ H'
    rw [e2, f]
    have hk' := H'.2.1
    revert hk'
    simp only [r_step]
    rw [if_neg (by decide)]
    simp only [r_aft]
    obtain ⟨b1, ps1, f1, -, -, -, g1⟩ := J2_fp hc H.1
    obtain ⟨a2, b2, ps2, f2, -, -, -, -, -, g2⟩ := J2_ft hc H.1
    rw [if_neg (fun q => hb q.2 q.1)]
    split
    · intro _
      rw [f1]
      refine ⟨qs, ?_⟩
      show ps1 ++ qs = _
      rw [g1]; rfl
    split
    · intro _
      rw [f2]
      refine ⟨pendB a n ++ qs, ?_⟩
      show ps2 ++ qs = _
      rw [g2, List.append_assoc]
    split
    · intro _
      rw [f2]
      refine ⟨pendB a n ++ qs, ?_⟩
      show ps2 ++ qs = _
      rw [g2, List.append_assoc]
    split
    · intro _
      unfold r_cl
      rw [f2]
      have : ∀ p3 : List (Nat × Int), (∃ q3, p3 = ps2 ++ q3) → ∃ q4, p3 ++ qs = ps ++ pendB b n ++ q4 := by
        rintro p3 ⟨q3, rfl⟩
        exact ⟨pendB a n ++ q3 ++ qs, by rw [g2]; simp only [List.append_assoc]⟩
      refine this _ ?_
      show ∃ q3, (if o n = 100 then addp ps2 (7, 0) else if o n = 44 then addp ps2 (12, 0) else ps2) = ps2 ++ q3
      have ad : ∀ x, ∃ q3, addp ps2 x = ps2 ++ q3 := by
        intro x
        unfold addp
        split
        · exact ⟨_, rfl⟩
        · exact ⟨[], (List.append_nil _).symm⟩
      split
      · exact ad _
      split
      · exact ad _
      · exact ⟨[], (List.append_nil _).symm⟩
    · intro z; cases z
  · obtain ⟨-, -, e⟩ := gd_end hc H hi
    exact ⟨_, e⟩
