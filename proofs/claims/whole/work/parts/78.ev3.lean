/-! the two go along, token by token -/
def bnd (cs : List Nat) : RS → Prop
  | (_, _, _, _, i, _, w, _, h, _, _) => w = 0 → h = 1 → cs.getD i 0 ≠ 94
def J3 (fs : List (PS × PS)) (nb : Nat → Nat) : RS → ME → Prop
  | (o, a, b, n, _, _, w, _, _, ps, _), x => LV w o a b n x ∧ evp fs nb (ps ++ (if w = 0 then pendB b n else [])) [] = .inr (Sx n x)
/-- what is asked before an exponent is read -/
def raiOK (cs : List Nat) (j : Nat) : Prop := cs.getD j 0 = 94 → j + 1 < cs.length ∧ m_from cs j ≤ m_end cs j ∧ m_end cs j ≤ cs.length ∧ wth cs (m_end cs j - m_from cs j) 0 (m_from cs j) ≤ 12
/-- how it goes on behind a token -/
def go_ (cs : List Nat) (fs : List (PS × PS)) (nb : Nat → Nat) (F : List (Nat × Int)) (j : Nat) (r : Nat × MR) : Prop := (∃ t, r.2 = .inl t ∧ evp fs nb F [] = .inl t) ∨ ∃ m' s' x', r.2 = .inr x' ∧ rdI s' = r.1 ∧ gd cs m' s' ∧ F = fin_ cs m' s' ∧ bnd cs s' ∧ J3 fs nb s' x' ∧ j < rdI s'
theorem updR_2 {R : Nat → PS × PS} {k : Nat} {f g : PS × PS} : updR (updR R k f) k g = updR R k g := by
  funext j
  unfold updR
  split <;> rfl
theorem go_rai {cs : List Nat} {fs : List (PS × PS)} {nb : Nat → Nat} {m i0 : Nat} {o a b : Nat → Nat} {n j y : Nat} {ps : List (Nat × Int)} {t : Int32} {R : Nat → PS × PS} {l : Nat} {kd hs ht sg dv : Nat → Nat} {f : PS × PS} (hc : cs.length ≤ 32) (hi0 : i0 < j) (H : gd cs m (o, a, b, n, j, 0, 0, y, 1, ps, t)) (hL : LV 1 o a b n (R, l, kd, hs, ht, sg, dv)) (hf : okF f) (he : evp fs nb ps [] = .inr (f :: Sx n (R, l, kd, hs, ht, sg, dv))) : raiOK cs j ∧ go_ cs fs nb (fin_ cs m (o, a, b, n, j, 0, 0, y, 1, ps, t)) i0 (m_rai cs j (.inr (updR R 71 f, l, kd, hs, ht, sg, dv))) := by
  -- behind the exponent
  have fin2 : ∀ (m2 j2 h2 : Nat) (ps2 : List (Nat × Int)) (g : PS × PS), gd cs m2 (o, a, b, n, j2, 0, 0, y, h2, ps2, t) → (h2 = 1 → cs.getD j2 0 ≠ 94) → okF g → evp fs nb ps2 [] = .inr (g :: Sx n (R, l, kd, hs, ht, sg, dv)) → i0 < j2 → go_ cs fs nb (fin_ cs m2 (o, a, b, n, j2, 0, 0, y, h2, ps2, t)) i0 (j2, m_fac (updR R 71 g, l, kd, hs, ht, sg, dv)) := by
    intro m2 j2 h2 ps2 g H2 hb hg e2 hj2
    rcases LV_fac (fs := fs) (nb := nb) hL hg with ⟨t', q1, q2⟩ | ⟨x', q1, q2, q3⟩
    · left
      obtain ⟨qs, ef⟩ := gd_ext hc H2 hb
      refine ⟨t', q1, ?_⟩
      rw [ef]
      refine evp_inl ?_
      rw [evp_inr e2]; exact q2
    · right
      refine ⟨m2, _, x', q1, rfl, H2, rfl, fun _ q => hb q, ⟨q2, ?_⟩, hj2⟩
      rw [if_pos rfl, evp_inr e2]; exact q3
  by_cases h94 : cs.getD j 0 = 94
  · have hj := getD_in (cs := cs) (i := j) (by omega)
    obtain ⟨m', hm, H', e⟩ := gd_step hc H hj
    have hF : fin_ cs m (o, a, b, n, j, 0, 0, y, 1, ps, t) = fin_ cs m' (r_step cs (o, a, b, n, j, 0, 0, y, 1, ps, t)) := by unfold fin_; rw [e]
    have hlen : ps.length < 32 := by
      have h1 : ps.length + (SB (cst o a b) n + cst o a b n) ≤ j := H.1.1
      omega
    have key : ∀ fr (z : Int), fr ≤ cs.length → fr = m_from cs j → z = m_exp cs j → j + 1 < cs.length → (rnum cs 12 2 0 fr).2 = m_end cs j → (rnum cs 12 2 0 fr).1 = wth cs (m_end cs j - m_from cs j) 0 (m_from cs j) → gd cs m' (o, a, b, n, (rnum cs 12 2 0 fr).2, 0, 0, y, 0, ps ++ [(5, z)], t) → r_step cs (o, a, b, n, j, 0, 0, y, 1, ps, t) = (o, a, b, n, (rnum cs 12 2 0 fr).2, 0, 0, y, 0, ps ++ [(5, z)], t) → raiOK cs j ∧ go_ cs fs nb (fin_ cs m (o, a, b, n, j, 0, 0, y, 1, ps, t)) i0 (m_rai cs j (.inr (updR R 71 f, l, kd, hs, ht, sg, dv))) := by
      intro fr z hfr efr ez hj1 d1 d2 H2 e2
      obtain ⟨v1, v2, v3⟩ := rnum_val (cs := cs) (x := 12) (d := 2) (w := 0) (i := fr) (by omega)
      have hjf : j < fr := by
        rw [efr]; unfold m_from; rw [if_pos h94]; split <;> omega
      refine ⟨fun _ => ⟨hj1, by omega, ?_, by omega⟩, ?_⟩
      · by_cases q : (rnum cs 12 2 0 fr).2 = fr
        · omega
        · have := v3 q; omega
      · rw [hF, e2]
        have em : m_rai cs j (.inr (updR R 71 f, l, kd, hs, ht, sg, dv)) = (m_end cs j, m_bind (m_put (op1 5 (m_exp cs j) f) (updR R 71 f, l, kd, hs, ht, sg, dv)) m_fac) := by
          unfold m_rai
          refine congrArg (Prod.mk _) (congrArg (fun z => m_bind z m_fac) ?_)
          show (if cs.getD j 0 = 94 then m_put (op1 5 (m_exp cs j) (updR R 71 f 71)) (updR R 71 f, l, kd, hs, ht, sg, dv) else _) = _
          rw [if_pos h94, updR_eq]
        have e5 : evp fs nb (ps ++ [(5, z)]) [] = push (op1 5 (m_exp cs j) f) (Sx n (R, l, kd, hs, ht, sg, dv)) := by
          rw [evp_inr he, evp_1, ez]; rfl
        rw [em]
        rcases er : op1 5 (m_exp cs j) f with t' | g
        · left
          obtain ⟨qs, ef⟩ := gd_mono hc m' _ H2
          refine ⟨t', rfl, ?_⟩
          rw [ef]
          refine evp_inl ?_
          show evp fs nb (ps ++ [(5, z)]) [] = _
          rw [e5, er]; rfl
        · have e6 : m_bind (m_put (.inr g) (updR R 71 f, l, kd, hs, ht, sg, dv)) m_fac = m_fac (updR R 71 g, l, kd, hs, ht, sg, dv) := by
            show m_fac (updR (updR R 71 f) 71 g, l, kd, hs, ht, sg, dv) = _
            rw [updR_2]
          rw [e6, ← d1]
          exact fin2 m' _ 0 _ g H2 (fun q => absurd q (by decide)) (ok_pow hf er) (by rw [e5, er]; rfl) (by omega)
    have es : r_step cs (o, a, b, n, j, 0, 0, y, 1, ps, t) = r_ex cs (o, a, b, n, j + 1, 0, 0, y, 1, ps, t) := by
      simp only [r_step]
      rw [if_neg (by decide)]
      simp only [r_aft]
      rw [if_pos ⟨h94, trivial⟩]
    by_cases h45 : cs.getD (j + 1) 0 = 45
    · have hj1 := getD_in (cs := cs) (i := j + 1) (by omega)
      have e2 : r_step cs (o, a, b, n, j, 0, 0, y, 1, ps, t) = (o, a, b, n, (rnum cs 12 2 0 (j + 1 + 1)).2, (if (rnum cs 12 2 0 (j + 1 + 1)).2 = j + 1 + 1 then 1 else 0), 0, y, 0, ps ++ [(5, -(((rnum cs 12 2 0 (j + 1 + 1)).1 : Nat) : Int))], t) := by
        rw [es]
        simp only [r_ex]
        rw [if_pos h45]
        simp only [r_num, r_ex2]
        rw [addp_lt hlen, if_pos trivial]
      rw [e2] at H'
      have hz : ¬ (rnum cs 12 2 0 (j + 1 + 1)).2 = j + 1 + 1 := by
        intro q
        have := H'.2.1
        have h0 : (if (rnum cs 12 2 0 (j + 1 + 1)).2 = j + 1 + 1 then 1 else 0) = 0 := this
        rw [if_pos q] at h0; cases h0
      rw [if_neg hz] at H' e2
      have nd := gd_nd hc H'
      obtain ⟨d1, d2⟩ := rn_dg (cs := cs) (x := 12) 2 0 (j + 1 + 1) 32 (by decide) nd
      have efr : m_from cs j = j + 1 + 1 := by unfold m_from; rw [if_pos h94, if_pos h45]
      have een : m_end cs j = (rnum cs 12 2 0 (j + 1 + 1)).2 := by unfold m_end; rw [if_pos h94, efr, d1]
      have eex : m_exp cs j = -(((rnum cs 12 2 0 (j + 1 + 1)).1 : Nat) : Int) := by unfold m_exp; rw [if_pos h45, efr, een, d2]
      exact key (j + 1 + 1) _ (by omega) efr.symm eex.symm hj1 een.symm (by rw [een, efr, d2]) H' e2
    · have e2 : r_step cs (o, a, b, n, j, 0, 0, y, 1, ps, t) = (o, a, b, n, (rnum cs 12 2 0 (j + 1)).2, (if (rnum cs 12 2 0 (j + 1)).2 = j + 1 then 1 else 0), 0, y, 0, ps ++ [(5, (((rnum cs 12 2 0 (j + 1)).1 : Nat) : Int))], t) := by
        rw [es]
        simp only [r_ex]
        rw [if_neg h45]
        simp only [r_num, r_ex2]
        rw [addp_lt hlen, if_neg (fun q => q)]
      rw [e2] at H'
      have hz : ¬ (rnum cs 12 2 0 (j + 1)).2 = j + 1 := by
        intro q
        have := H'.2.1
        have h0 : (if (rnum cs 12 2 0 (j + 1)).2 = j + 1 then 1 else 0) = 0 := this
        rw [if_pos q] at h0; cases h0
      rw [if_neg hz] at H' e2
      have nd := gd_nd hc H'
      obtain ⟨d1, d2⟩ := rn_dg (cs := cs) (x := 12) 2 0 (j + 1) 32 (by decide) nd
      have hj1 : j + 1 < cs.length := by
        rcases Nat.lt_or_ge (j + 1) cs.length with q | q
        · exact q
        · exfalso
          apply hz
          rw [rnum, if_neg (fun w => by have := w.1; rw [getD_out q] at this; omega)]
      have efr : m_from cs j = j + 1 := by unfold m_from; rw [if_pos h94, if_neg h45]
      have een : m_end cs j = (rnum cs 12 2 0 (j + 1)).2 := by unfold m_end; rw [if_pos h94, efr, d1]
      have eex : m_exp cs j = (((rnum cs 12 2 0 (j + 1)).1 : Nat) : Int) := by unfold m_exp; rw [if_neg h45, efr, een, d2]
      exact key (j + 1) _ (by omega) efr.symm eex.symm hj1 een.symm (by rw [een, efr, d2]) H' e2
  · refine ⟨fun q => absurd q h94, ?_⟩
    have em : m_rai cs j (.inr (updR R 71 f, l, kd, hs, ht, sg, dv)) = (j, m_fac (updR R 71 f, l, kd, hs, ht, sg, dv)) := by
      unfold m_rai
      rw [show m_end cs j = j by unfold m_end; rw [if_neg h94]]
      refine congrArg (Prod.mk _) (congrArg (fun z => m_bind z m_fac) (show m_bind (.inr (updR R 71 f, l, kd, hs, ht, sg, dv)) (m_pow cs j) = .inr (updR R 71 f, l, kd, hs, ht, sg, dv) from ?_))
      show (if cs.getD j 0 = 94 then _ else _) = _
      rw [if_neg h94]
    rw [em]
    exact fin2 m j 1 ps f H (fun _ => h94) hf he hi0
theorem gd_rai {cs : List Nat} {m : Nat} {o a b : Nat → Nat} {n j y : Nat} {ps : List (Nat × Int)} {t : Int32} (hc : cs.length ≤ 32) (H : gd cs m (o, a, b, n, j, 0, 0, y, 1, ps, t)) : raiOK cs j := by
  intro h94
  have hj := getD_in (cs := cs) (i := j) (by omega)
  obtain ⟨m', hm, H', e⟩ := gd_step hc H hj
  have es : r_step cs (o, a, b, n, j, 0, 0, y, 1, ps, t) = r_ex cs (o, a, b, n, j + 1, 0, 0, y, 1, ps, t) := by
    simp only [r_step]
    rw [if_neg (by decide)]
    simp only [r_aft]
    rw [if_pos ⟨h94, trivial⟩]
  rw [es] at H'
  have key : ∀ fr ps', fr ≤ cs.length → j < fr → fr = m_from cs j → gd cs m' (o, a, b, n, (rnum cs 12 2 0 fr).2, (if (rnum cs 12 2 0 fr).2 = fr then 1 else 0), 0, y, 0, ps', t) → (rnum cs 12 2 0 fr).2 ≠ fr ∧ (j + 1 < cs.length → j + 1 < cs.length ∧ m_from cs j ≤ m_end cs j ∧ m_end cs j ≤ cs.length ∧ wth cs (m_end cs j - m_from cs j) 0 (m_from cs j) ≤ 12) := by
    intro fr ps' hfr hjf efr H2
    have hz : (rnum cs 12 2 0 fr).2 ≠ fr := by
      intro q
      have h0 : (if (rnum cs 12 2 0 fr).2 = fr then 1 else 0) = 0 := H2.2.1
      rw [if_pos q] at h0; cases h0
    refine ⟨hz, fun h1 => ?_⟩
    have nd := gd_nd hc H2
    obtain ⟨d1, d2⟩ := rn_dg (cs := cs) (x := 12) 2 0 fr 32 (by decide) nd
    obtain ⟨v1, v2, v3⟩ := rnum_val (cs := cs) (x := 12) (d := 2) (w := 0) (i := fr) (by omega)
    have een : m_end cs j = (rnum cs 12 2 0 fr).2 := by unfold m_end; rw [if_pos h94, ← efr, d1]
    have := v3 hz
    exact ⟨h1, by omega, by omega, by rw [een, ← efr, d2]; exact v1⟩
  simp only [r_ex] at H'
  by_cases h45 : cs.getD (j + 1) 0 = 45
  · rw [if_pos h45] at H'
    have hj1 := getD_in (cs := cs) (i := j + 1) (by omega)
    exact (key (j + 1 + 1) _ (by omega) (by omega) (by unfold m_from; rw [if_pos h94, if_pos h45]) H').2 hj1
  · rw [if_neg h45] at H'
    obtain ⟨k1, k2⟩ := key (j + 1) _ (by omega) (by omega) (by unfold m_from; rw [if_pos h94, if_neg h45]) H'
    refine k2 ?_
    rcases Nat.lt_or_ge (j + 1) cs.length with q | q
    · exact q
    · exfalso
      apply k1
      rw [rnum, if_neg (fun w => by have := w.1; rw [getD_out q] at this; omega)]
/-- what is asked before a token is worked out -/
def advOK (cs : List Nat) (fs : List (PS × PS)) (nb : Nat → Nat) (i : Nat) : ME → Prop
  | (R, l, kd, hs, ht, sg, _) => l ≤ 8 ∧ (∀ j, j ≤ l → (ht j = 1 → okF (R (53 + j))) ∧ (hs j = 1 → okF (R (44 + j))) ∧ (kd j = 4 → okF (R (62 + j))) ∧ (sg j = 1 ∨ sg j = 10006)) ∧ (cs.getD i 0 = 40 ∨ cs.getD i 0 = 100 ∨ cs.getD i 0 = 115 → l < 8) ∧ (cs.getD i 0 = 44 ∨ cs.getD i 0 = 41 → ht l = 1 ∧ 1 ≤ l) ∧ (cs.getD i 0 = 40 ∨ cs.getD i 0 = 100 ∨ cs.getD i 0 = 115 ∨ cs.getD i 0 = 43 ∨ cs.getD i 0 = 45 ∨ cs.getD i 0 = 42 ∨ cs.getD i 0 = 47 ∨ cs.getD i 0 = 44 ∨ (cs.getD i 0 = 41 ∧ raiOK cs (i + 1)) ∨ ((isD (cs.getD i 0) ∧ wth cs (dgs cs 32 i - i) 0 i ≤ 99999 ∨ cs.getD i 0 = 120 ∨ cs.getD i 0 = 37 ∧ wth cs (dgs cs 32 (i + 1) - (i + 1)) 0 (i + 1) ≤ 99 ∨ isNm (cs.getD i 0)) ∧ raiOK cs (m_atom cs fs nb i).1))
theorem LV_ok {w : Nat} {o a b : Nat → Nat} {n : Nat} {R : Nat → PS × PS} {l : Nat} {kd hs ht sg dv : Nat → Nat} (H : LV w o a b n (R, l, kd, hs, ht, sg, dv)) : l ≤ 8 ∧ ∀ j, j ≤ l → (ht j = 1 → okF (R (53 + j))) ∧ (hs j = 1 → okF (R (44 + j))) ∧ (kd j = 4 → okF (R (62 + j))) ∧ (sg j = 1 ∨ sg j = 10006) := by
  obtain ⟨rfl, hn, -, -, hA, -, -, -, hok⟩ := H
  refine ⟨hn, fun j hj => ?_⟩
  have hin : ∀ f ∈ tops R kd hs ht j, okF f := by
    intro f hf
    rcases Nat.lt_or_ge j l with q | q
    · have key : ∀ n, j < n → f ∈ stk R kd hs ht n := by
        intro n
        induction n with
        | zero => intro h; omega
        | succ n ih =>
          intro h
          simp only [stk]
          by_cases e : j = n
          · rw [← e]; exact List.mem_append_left _ hf
          · exact List.mem_append_right _ (ih (by omega))
      exact hok f (List.mem_append_right _ (key l q))
    · have : j = l := by omega
      subst this
      exact hok f (List.mem_append_left _ hf)
  unfold tops at hin
  refine ⟨fun q => hin _ ?_, fun q => hin _ ?_, fun q => hin _ ?_, ?_⟩
  · rw [if_pos q]; exact List.mem_append_left _ (List.mem_cons_self ..)
  · rw [if_pos q]; exact List.mem_append_right _ (List.mem_append_left _ (List.mem_cons_self ..))
  · rw [if_pos q]; exact List.mem_append_right _ (List.mem_append_right _ (List.mem_cons_self ..))
  · rcases (hA j hj).1 with ⟨-, ⟨h, -⟩ | ⟨h, -⟩⟩ | ⟨-, ⟨h, -⟩ | ⟨h, -⟩⟩
    · exact Or.inl h
    · exact Or.inr h
    · exact Or.inl h
    · exact Or.inr h
theorem gd_len {cs : List Nat} {m : Nat} {o a b : Nat → Nat} {n i k w y h : Nat} {ps : List (Nat × Int)} {t : Int32} (hc : cs.length ≤ 32) (H : gd cs m (o, a, b, n, i, k, w, y, h, ps, t)) (hi : i < cs.length) : ps.length < 32 := by
  have h1 : ps.length + (SB (cst o a b) n + cst o a b n) ≤ i := H.1.1
  omega
/-- an atom is read and worked out -/
theorem go_atom {cs : List Nat} {fs : List (PS × PS)} {nb : Nat → Nat} {m m' i j : Nat} {o a b : Nat → Nat} {n y : Nat} {ps : List (Nat × Int)} {t : Int32} {R : Nat → PS × PS} {l : Nat} {kd hs ht sg dv : Nat → Nat} {X : Nat × Int} {r : Res} {s : RS} (hc : cs.length ≤ 32) (hij : i < j) (hF : fin_ cs m s = fin_ cs m' (o, a, b, n, j, 0, 0, y, 1, ps ++ [X], t)) (H : gd cs m' (o, a, b, n, j, 0, 0, y, 1, ps ++ [X], t)) (hL : LV 1 o a b n (R, l, kd, hs, ht, sg, dv)) (he : evp fs nb ps [] = .inr (Sx n (R, l, kd, hs, ht, sg, dv))) (hs' : stp fs nb X (Sx n (R, l, kd, hs, ht, sg, dv)) = push r (Sx n (R, l, kd, hs, ht, sg, dv))) (hr : ∀ f, r = .inr f → okF f) : go_ cs fs nb (fin_ cs m s) i (m_rai cs j (m_put r (R, l, kd, hs, ht, sg, dv))) := by
  rw [hF]
  cases r with
  | inl t' =>
    left
    obtain ⟨qs, ef⟩ := gd_mono hc m' _ H
    refine ⟨t', rfl, ?_⟩
    rw [ef]
    refine evp_inl ?_
    show evp fs nb (ps ++ [X]) [] = _
    rw [evp_inr he, evp_1, hs']; rfl
  | inr f => exact (go_rai hc hij H hL (hr f rfl) (by rw [evp_inr he, evp_1, hs']; rfl)).2
theorem ev_bef {cs : List Nat} {fs : List (PS × PS)} {nb : Nat → Nat} {m : Nat} {o a b : Nat → Nat} {n i k y h : Nat} {ps : List (Nat × Int)} {t : Int32} {x : ME} (hc : cs.length ≤ 32) (hfs : ∀ f ∈ fs, okF f) (H : gd cs m (o, a, b, n, i, k, 1, y, h, ps, t)) (J : J3 fs nb (o, a, b, n, i, k, 1, y, h, ps, t) x) (hi : i < cs.length) : advOK cs fs nb i x ∧ go_ cs fs nb (fin_ cs m (o, a, b, n, i, k, 1, y, h, ps, t)) i (m_adv cs fs nb i x) := by
  obtain ⟨R, l, kd, hs, ht, sg, dv⟩ := x
  obtain ⟨hL, he⟩ := J
  rw [if_neg (by decide), List.append_nil] at he
  have hk : k = 0 := H.2.1
  subst hk
  obtain ⟨m', hm, H', e⟩ := gd_step hc H hi
  have hF : fin_ cs m (o, a, b, n, i, 0, 1, y, h, ps, t) = fin_ cs m' (r_step cs (o, a, b, n, i, 0, 1, y, h, ps, t)) := by unfold fin_; rw [e]
  have hlen := gd_len hc H hi
  obtain ⟨hl8, hoks⟩ := LV_ok hL
  have es : r_step cs (o, a, b, n, i, 0, 1, y, h, ps, t) = r_bef cs (cs.getD i 0) (o, a, b, n, i, 0, 1, y, h, ps, t) := by
    simp only [r_step]
    rw [if_pos trivial]
  have hJ2 := H.1
  obtain ⟨-, -, -, -, -, -, hy, -⟩ := id hJ2
  obtain ⟨rfl, hn, hK, hk0, hA, hB, hB1, -, hok⟩ := id hL
  generalize hcc : cs.getD i 0 = c at es
  simp only [r_bef] at es
  by_cases q1 : y = 1 ∧ (c = 43 ∨ c = 45)
  · rw [if_pos q1] at es
    obtain ⟨a0, b0⟩ := hy q1.1 rfl
    have ht0 : ht l = 0 := by
      rcases hB1 rfl with ⟨-, z⟩ | ⟨z, -⟩
      · exact absurd b0 z
      · exact z
    have hs0 : hs l = 0 := by
      rcases (hA l (Nat.le_refl l)).1 with ⟨-, z⟩ | ⟨z, -⟩
      · omega
      · exact z
    refine ⟨⟨hl8, hoks, by omega, by omega, by omega⟩, ?_⟩
    have em : m_adv cs fs nb i (R, l, kd, hs, ht, sg, dv) = (i + 1, .inr (R, l, kd, hs, ht, updN sg l (if c = 45 then 10006 else 1), dv)) := by
      simp only [m_adv, hcc]
      rw [if_neg (by omega), if_pos (by omega)]
      rw [show m_ht (R, l, kd, hs, ht, sg, dv) = ht l from rfl, if_neg (by omega)]
      rfl
    rw [em, hF, es]
    rw [es] at H'
    right
    refine ⟨m', _, _, rfl, rfl, H', rfl, fun z => absurd z (by decide), ⟨⟨rfl, hn, hK, hk0, fun j hj => ?_, hB, hB1, fun z => absurd z (by decide), hok⟩, ?_⟩, Nat.lt_succ_self i⟩
    · by_cases g : j = l
      · subst g
        refine ⟨Or.inr ⟨hs0, ?_⟩, (hA j hj).2⟩
        rw [updN_eq, updN_eq]
        by_cases g : c = 45
        · rw [if_pos g, if_pos g]; exact Or.inr ⟨rfl, rfl⟩
        · rw [if_neg g, if_neg g]; exact Or.inl ⟨rfl, rfl⟩
      · exact LVa_cg (hA j hj) (updN_ne g) rfl rfl (updN_ne g) rfl
    · rw [if_neg (by decide), List.append_nil]; exact he
  rw [if_neg q1] at es
  by_cases q2 : isD c
  · rw [if_pos q2] at es
    have hp : i < (rnum cs 99999 5 0 i).2 := rnum_pos (by rw [hcc]; exact q2) (by omega)
    have es2 : r_step cs (o, a, b, l, i, 0, 1, y, h, ps, t) = (o, a, b, l, (rnum cs 99999 5 0 i).2, 0, 0, y, 1, ps ++ [(1, ((rnum cs 99999 5 0 i).1 : Int))], t) := by
      rw [es]
      simp only [r_num, r_end]
      rw [addp_lt hlen, if_neg (by omega)]
    rw [es2] at H' hF
    obtain ⟨d1, d2⟩ := rn_dg (cs := cs) (x := 99999) 5 0 i 32 (by decide) (gd_nd hc H')
    have ea : m_atom cs fs nb i = ((rnum cs 99999 5 0 i).2, .inr (ps_C (Fin.ofNat 10007 (rnum cs 99999 5 0 i).1), ps_C 1)) := by
      unfold m_atom
      rw [if_pos (by rw [hcc]; exact q2), d1, d2]
    have hv := (rnum_val (cs := cs) (x := 99999) (d := 5) (w := 0) (i := i) (by omega)).1
    refine ⟨⟨hl8, hoks, by omega, by omega, ?_⟩, ?_⟩
    · refine Or.inr (Or.inr (Or.inr (Or.inr (Or.inr (Or.inr (Or.inr (Or.inr (Or.inr ⟨Or.inl ⟨by rw [hcc]; exact q2, by rw [d1, d2]; exact hv⟩, ?_⟩))))))))
      rw [ea]; exact gd_rai hc H'
    · have em : m_adv cs fs nb i (R, l, kd, hs, ht, sg, dv) = m_rai cs (m_atom cs fs nb i).1 (m_put (m_atom cs fs nb i).2 (R, l, kd, hs, ht, sg, dv)) := by
        simp only [m_adv, hcc]
        rw [if_neg (by omega), if_neg (by omega), if_neg (by omega), if_neg (by omega), if_neg (by omega)]
      rw [em, ea]
      exact go_atom hc hp hF H' hL he rfl (fun f hf => by rw [← Sum.inr.inj hf]; exact ok_C _)
  rw [if_neg q2] at es
  have em : ¬ (c = 43 ∨ c = 45) → ¬ (c = 40 ∨ c = 100 ∨ c = 115) → (c = 37 ∨ c = 120 ∨ isNm c) → m_adv cs fs nb i (R, l, kd, hs, ht, sg, dv) = m_rai cs (m_atom cs fs nb i).1 (m_put (m_atom cs fs nb i).2 (R, l, kd, hs, ht, sg, dv)) := by
    intro z1 z2 z3
    simp only [m_adv, hcc]
    rw [if_neg z2, if_neg z1, if_neg (by omega), if_neg (by omega), if_neg (by omega)]
  by_cases q3 : c = 37
  · rw [if_pos q3] at es
    have es2 : r_step cs (o, a, b, l, i, 0, 1, y, h, ps, t) = (o, a, b, l, (rnum cs 99 2 0 (i + 1)).2, (if (rnum cs 99 2 0 (i + 1)).2 = i + 1 then 1 else 0), 0, y, 1, ps ++ [(4, ((rnum cs 99 2 0 (i + 1)).1 : Int))], t) := by
      rw [es]
      simp only [r_num, r_end]
      rw [addp_lt hlen]
    rw [es2] at H' hF
    have hz : ¬ (rnum cs 99 2 0 (i + 1)).2 = i + 1 := by
      intro q
      have h0 : (if (rnum cs 99 2 0 (i + 1)).2 = i + 1 then 1 else 0) = 0 := H'.2.1
      rw [if_pos q] at h0; cases h0
    rw [if_neg hz] at H' hF
    obtain ⟨d1, d2⟩ := rn_dg (cs := cs) (x := 99) 2 0 (i + 1) 32 (by decide) (gd_nd hc H')
    obtain ⟨hv, hv2, -⟩ := rnum_val (cs := cs) (x := 99) (d := 2) (w := 0) (i := i + 1) (by omega)
    have ea : m_atom cs fs nb i = ((rnum cs 99 2 0 (i + 1)).2, labF fs (rnum cs 99 2 0 (i + 1)).1) := by
      unfold m_atom
      rw [if_neg (by rw [hcc]; exact q2), if_neg (by omega), if_pos (by omega), d1, d2]
    refine ⟨⟨hl8, hoks, by omega, by omega, ?_⟩, ?_⟩
    · refine Or.inr (Or.inr (Or.inr (Or.inr (Or.inr (Or.inr (Or.inr (Or.inr (Or.inr ⟨Or.inr (Or.inr (Or.inl ⟨by omega, by rw [d1, d2]; exact hv⟩)), ?_⟩))))))))
      rw [ea]; exact gd_rai hc H'
    · rw [em (by omega) (by omega) (by omega), ea]
      exact go_atom hc (by omega) hF H' hL he (by show push (labF fs ((rnum cs 99 2 0 (i + 1)).1 : Int).toNat) _ = _; rw [Int.toNat_natCast]) (fun f hf => ok_lab hfs hf)
  rw [if_neg q3] at es
  by_cases q4 : c = 120
  · rw [if_pos q4] at es
    have es2 : r_step cs (o, a, b, l, i, 0, 1, y, h, ps, t) = (o, a, b, l, i + 1, 0, 0, y, 1, ps ++ [(2, 0)], t) := by
      rw [es]
      simp only [r_end]
      rw [addp_lt hlen]
    rw [es2] at H' hF
    have ea : m_atom cs fs nb i = (i + 1, .inr (mono 1 1, ps_C 1)) := by
      unfold m_atom
      rw [if_neg (by rw [hcc]; exact q2), if_pos (by omega)]
    refine ⟨⟨hl8, hoks, by omega, by omega, ?_⟩, ?_⟩
    · refine Or.inr (Or.inr (Or.inr (Or.inr (Or.inr (Or.inr (Or.inr (Or.inr (Or.inr ⟨Or.inr (Or.inl (by omega)), ?_⟩))))))))
      rw [ea]; exact gd_rai hc H'
    · rw [em (by omega) (by omega) (by omega), ea]
      exact go_atom hc (Nat.lt_succ_self i) hF H' hL he rfl (fun f hf => by rw [← Sum.inr.inj hf]; exact ok_X)
  rw [if_neg q4] at es
  by_cases q5 : isNm c
  · rw [if_pos q5] at es
    have es2 : r_step cs (o, a, b, l, i, 0, 1, y, h, ps, t) = (o, a, b, l, i + 1, 0, 0, y, 1, ps ++ [(3, ((c - 97 : Nat) : Int))], t) := by
      rw [es]
      simp only [r_end]
      rw [addp_lt hlen]
    rw [es2] at H' hF
    have ea : m_atom cs fs nb i = (i + 1, labF fs (nb (c - 97))) := by
      unfold m_atom
      rw [if_neg (by rw [hcc]; exact q2), if_neg (by omega), if_neg (by omega), hcc]
    refine ⟨⟨hl8, hoks, by omega, by omega, ?_⟩, ?_⟩
    · refine Or.inr (Or.inr (Or.inr (Or.inr (Or.inr (Or.inr (Or.inr (Or.inr (Or.inr ⟨Or.inr (Or.inr (Or.inr (by rw [hcc]; exact q5))), ?_⟩))))))))
      rw [ea]; exact gd_rai hc H'
    · rw [em (by omega) (by omega) (by omega), ea]
      exact go_atom hc (Nat.lt_succ_self i) hF H' hL he (by show push (labF fs (nb ((c - 97 : Nat) : Int).toNat)) _ = _; rw [Int.toNat_natCast]) (fun f hf => ok_lab hfs hf)
  rw [if_neg q5] at es
  by_cases q6 : c = 40 ∨ c = 100 ∨ c = 115
  · rw [if_pos q6] at es
    simp only [r_op] at es
    by_cases q7 : 8 ≤ l
    · rw [if_pos q7] at es
      rw [es] at H'
      exact absurd H'.2.1 (show ¬ (1 : Nat) = 0 by decide)
    rw [if_neg q7] at es
    generalize hj : (if c = 40 then i else i + 1) = j at es
    by_cases q8 : cs.getD j 0 = 40
    · rw [if_pos q8] at es
      rw [es] at H' hF
      have em2 : m_adv cs fs nb i (R, l, kd, hs, ht, sg, dv) = (j + 1, .inr (R, l + 1, updN kd (l + 1) (kof c), updN hs (l + 1) 0, updN ht (l + 1) 0, updN sg (l + 1) 1, updN dv (l + 1) 0)) := by
        simp only [m_adv, hcc]
        rw [if_pos q6, ← hj]
        unfold kof
        by_cases g : c = 40
        · simp only [if_pos g]; rfl
        · simp only [if_neg g]
          by_cases g2 : c = 100
          · simp only [if_pos g2]; rfl
          · simp only [if_neg g2]; rw [if_pos (show c = 115 by omega)]; rfl
      have hkof : kof c ≠ 4 := by
        unfold kof
        rcases q6 with z | z | z <;> subst z <;> decide
      refine ⟨⟨hl8, hoks, by omega, by omega, by omega⟩, ?_⟩
      rw [em2, hF]
      right
      have eS : Sx (l + 1) (R, l + 1, updN kd (l + 1) (kof c), updN hs (l + 1) 0, updN ht (l + 1) 0, updN sg (l + 1) 1, updN dv (l + 1) 0) = Sx l (R, l, kd, hs, ht, sg, dv) := by
        show tops R (updN kd (l + 1) (kof c)) (updN hs (l + 1) 0) (updN ht (l + 1) 0) (l + 1) ++ stk R (updN kd (l + 1) (kof c)) (updN hs (l + 1) 0) (updN ht (l + 1) 0) (l + 1) = _
        rw [stk_cg (R := R) (kd := kd) (hs := hs) (ht := ht) (fun j hj => ⟨rfl, rfl, rfl, updN_ne (by omega), updN_ne (by omega), updN_ne (by omega)⟩)]
        unfold tops
        rw [updN_eq, updN_eq, updN_eq, if_neg (by decide), if_neg (by decide), if_neg hkof]
        rfl
      refine ⟨m', _, _, rfl, rfl, H', rfl, fun z => absurd z (by decide), ⟨⟨rfl, by omega, ?_, ?_, ?_, ?_, fun _ => ?_, fun z => absurd z (by decide), ?_⟩, ?_⟩, ?_⟩
      · intro j hj1 hj2
        by_cases g : j = l + 1
        · rw [g, updN_eq, updN_eq]
        · rw [updN_ne g, updN_ne g]; exact hK j hj1 (by omega)
      · rw [updN_ne (by omega)]; exact hk0
      · intro j hj
        by_cases g : j = l + 1
        · subst g
          refine ⟨Or.inr ⟨updN_eq, Or.inl ⟨updN_eq, updN_eq⟩⟩, Or.inl updN_eq⟩
        · exact LVa_cg (hA j (by omega)) (updN_ne g) (updN_ne g) (updN_ne g) (updN_ne g) (updN_ne g)
      · intro j hj
        by_cases g : j = l
        · subst g; exact LVb_cg (hB1 rfl) (updN_ne (by omega)) (updN_ne (by omega))
        · exact LVb_cg (hB j (by omega)) (updN_ne (by omega)) (updN_ne (by omega))
      · exact Or.inr ⟨updN_eq, updN_eq⟩
      · intro f hf
        have hf' : f ∈ Sx (l + 1) (R, l + 1, updN kd (l + 1) (kof c), updN hs (l + 1) 0, updN ht (l + 1) 0, updN sg (l + 1) 1, updN dv (l + 1) 0) := hf
        rw [eS] at hf'
        exact hok f hf'
      · rw [if_neg (by decide), List.append_nil, eS]; exact he
      · show i < j + 1
        rw [← hj]; split <;> omega
    · rw [if_neg q8] at es
      rw [es] at H'
      exact absurd H'.2.1 (show ¬ (1 : Nat) = 0 by decide)
  · rw [if_neg q6] at es
    rw [es] at H'
    exact absurd H'.2.1 (show ¬ (1 : Nat) = 0 by decide)
theorem ev_aft {cs : List Nat} {fs : List (PS × PS)} {nb : Nat → Nat} {m : Nat} {o a b : Nat → Nat} {n i k y h : Nat} {ps : List (Nat × Int)} {t : Int32} {x : ME} (hc : cs.length ≤ 32) (H : gd cs m (o, a, b, n, i, k, 0, y, h, ps, t)) (hb : bnd cs (o, a, b, n, i, k, 0, y, h, ps, t)) (J : J3 fs nb (o, a, b, n, i, k, 0, y, h, ps, t) x) (hi : i < cs.length) : advOK cs fs nb i x ∧ go_ cs fs nb (fin_ cs m (o, a, b, n, i, k, 0, y, h, ps, t)) i (m_adv cs fs nb i x) := by
  obtain ⟨R, l, kd, hs, ht, sg, dv⟩ := x
  obtain ⟨hL, he⟩ := J
  rw [if_pos rfl] at he
  have hk : k = 0 := H.2.1
  subst hk
  obtain ⟨m', hm, H', e⟩ := gd_step hc H hi
  have hF : fin_ cs m (o, a, b, n, i, 0, 0, y, h, ps, t) = fin_ cs m' (r_step cs (o, a, b, n, i, 0, 0, y, h, ps, t)) := by unfold fin_; rw [e]
  obtain ⟨hl8, hoks⟩ := LV_ok hL
  have es : r_step cs (o, a, b, n, i, 0, 0, y, h, ps, t) = r_aft cs (cs.getD i 0) (o, a, b, n, i, 0, 0, y, h, ps, t) := by
    simp only [r_step]
    rw [if_neg (by decide)]
  have hJ2 := H.1
  obtain ⟨-, -, -, -, -, hO, -⟩ := id hJ2
  obtain ⟨rfl, hn, hK, hk0, hA, hB, -, hw, hok⟩ := id hL
  have ht1 := hw rfl
  have hb' : h = 1 → cs.getD i 0 ≠ 94 := hb rfl
  generalize hcc : cs.getD i 0 = c at es hb'
  simp only [r_aft] at es
  rw [if_neg (fun q => hb' q.2 q.1)] at es
  obtain ⟨b1, ps1, f1, -, fz, fk, g1⟩ := J2_fp hc hJ2
  obtain ⟨a2, b2, ps2, f2, J22, fza, fzb, fka, fkb, g2⟩ := J2_ft hc hJ2
  by_cases q1 : c = 42 ∨ c = 47
  · rw [if_pos q1, f1] at es
    have es2 : r_step cs (o, a, b, l, i, 0, 0, y, h, ps, t) = (o, a, updN b1 l (if c = 42 then 10 else 11), l, i + 1, 0, 1, 0, h, ps1, t) := es
    rw [es2] at H' hF
    refine ⟨⟨hl8, hoks, by omega, by omega, by omega⟩, ?_⟩
    have em : m_adv cs fs nb i (R, l, kd, hs, ht, sg, dv) = (i + 1, .inr (R, l, kd, hs, ht, sg, updN dv l (if c = 47 then 1 else 0))) := by
      simp only [m_adv, hcc]
      rw [if_neg (by omega), if_neg (by omega), if_pos q1]
      rfl
    rw [em, hF]
    right
    refine ⟨m', _, _, rfl, rfl, H', rfl, fun z => absurd z (by decide), ⟨⟨rfl, hn, hK, hk0, fun j hj => ?_, fun j hj => ?_, fun _ => Or.inl ⟨ht1, ?_⟩, fun z => absurd z (by decide), hok⟩, ?_⟩, Nat.lt_succ_self i⟩
    · by_cases g : j = l
      · subst g
        refine ⟨(hA j hj).1, Or.inr ?_⟩
        rw [updN_eq, updN_eq]
        by_cases g : c = 42
        · rw [if_pos g, if_neg (by omega)]; exact Or.inl ⟨rfl, rfl⟩
        · rw [if_neg g, if_pos (by omega)]; exact Or.inr ⟨rfl, rfl⟩
      · exact LVa_cg (hA j hj) rfl ((updN_ne g).trans (fk j g)) rfl rfl (updN_ne g)
    · exact LVb_cg (hB j hj) ((updN_ne (by omega)).trans (fk j (by omega))) rfl
    · rw [updN_eq]; split <;> decide
    · rw [if_neg (by decide), List.append_nil, g1]; exact he
  rw [if_neg q1] at es
  -- what the term comes to
  have trm := LV_trm (fs := fs) (nb := nb) hL
  have hps2 : ∀ r, evp fs nb (pendB a l) (Sx l (R, l, kd, hs, ht, sg, dv)) = r → evp fs nb ps2 [] = r := by
    intro r hr
    rw [g2, evp_inr he]; exact hr
  by_cases q2 : c = 43 ∨ c = 45
  · rw [if_pos q2, f2] at es
    have es2 : r_step cs (o, a, b, l, i, 0, 0, y, h, ps, t) = (o, updN a2 l (if c = 43 then 8 else 9), b2, l, i + 1, 0, 1, 0, h, ps2, t) := es
    rw [es2] at H' hF
    refine ⟨⟨hl8, hoks, by omega, by omega, by omega⟩, ?_⟩
    have em : m_adv cs fs nb i (R, l, kd, hs, ht, sg, dv) = (i + 1, m_bind (m_trm (R, l, kd, hs, ht, sg, dv)) (fun x' => .inr (m_sgn (if c = 45 then 10006 else 1) x'))) := by
      simp only [m_adv, hcc]
      rw [if_neg (by omega), if_pos q2, show m_ht (R, l, kd, hs, ht, sg, dv) = ht l from rfl, if_pos ht1]
    rw [em, hF]
    rcases trm with ⟨t', w1, w2⟩ | ⟨g, hg, w1, w2⟩
    · left
      obtain ⟨qs, ef⟩ := gd_mono hc m' _ H'
      refine ⟨t', by rw [w1]; rfl, ?_⟩
      rw [ef]; exact evp_inl (hps2 _ w2)
    · right
      have eS : Sx l (updR R (44 + l) g, l, kd, updN hs l 1, updN ht l 0, updN sg l (if c = 45 then 10006 else 1), dv) = g :: ((if kd l = 4 then [R (62 + l)] else []) ++ stk R kd hs ht l) := by
        show tops (updR R (44 + l) g) kd (updN hs l 1) (updN ht l 0) l ++ stk (updR R (44 + l) g) kd (updN hs l 1) (updN ht l 0) l = _
        rw [stk_cg (R := R) (kd := kd) (hs := hs) (ht := ht) (fun j hj => ⟨updR_ne (by omega), updR_ne (by omega), updR_ne (by omega), rfl, updN_ne (by omega), updN_ne (by omega)⟩)]
        unfold tops
        rw [updN_eq, updN_eq, if_neg (by decide), if_pos rfl, updR_eq, updR_ne (show 62 + l ≠ 44 + l by omega)]
        rfl
      refine ⟨m', _, (updR R (44 + l) g, l, kd, updN hs l 1, updN ht l 0, updN sg l (if c = 45 then 10006 else 1), dv), by rw [w1]; rfl, rfl, H', rfl, fun z => absurd z (by decide), ⟨⟨rfl, hn, hK, hk0, fun j hj => ?_, fun j hj => ?_, fun _ => Or.inr ⟨updN_eq, fzb⟩, fun z => absurd z (by decide), ?_⟩, ?_⟩, Nat.lt_succ_self i⟩
      · by_cases z : j = l
        · subst z
          refine ⟨Or.inl ⟨updN_eq, ?_⟩, Or.inl fzb⟩
          rw [updN_eq, updN_eq]
          by_cases z : c = 43
          · rw [if_pos z, if_neg (by omega)]; exact Or.inl ⟨rfl, rfl⟩
          · rw [if_neg z, if_pos (by omega)]; exact Or.inr ⟨rfl, rfl⟩
        · exact LVa_cg (hA j hj) ((updN_ne z).trans (fka j z)) (fkb j z) (updN_ne z) (updN_ne z) rfl
      · exact LVb_cg (hB j hj) (fkb j (by omega)) (updN_ne (by omega))
      · intro f hf
        have hf' : f ∈ Sx l (updR R (44 + l) g, l, kd, updN hs l 1, updN ht l 0, updN sg l (if c = 45 then 10006 else 1), dv) := hf
        rw [eS] at hf'
        rcases List.mem_cons.mp hf' with z | z
        · rw [z]; exact hg
        · refine hok f ?_
          unfold tops
          rcases mem_of z with z | z
          · exact List.mem_append_left _ (List.mem_append_right _ (List.mem_append_right _ z))
          · exact List.mem_append_right _ z
      · rw [if_neg (by decide), List.append_nil]
        refine (hps2 _ w2).trans ?_
        exact congrArg Sum.inr eS.symm
  rw [if_neg q2] at es
  by_cases q3 : c = 44 ∧ 0 < l ∧ o l = 115
  · rw [if_pos q3, f2] at es
    have es2 : r_step cs (o, a, b, l, i, 0, 0, y, h, ps, t) = (updN o l 44, updN a2 l 0, updN b2 l 0, l, i + 1, 0, 1, 1, h, ps2, t) := es
    rw [es2] at H' hF
    refine ⟨⟨hl8, hoks, by omega, fun _ => ⟨ht1, by omega⟩, by omega⟩, ?_⟩
    have em : m_adv cs fs nb i (R, l, kd, hs, ht, sg, dv) = (i + 1, m_bind (m_trm (R, l, kd, hs, ht, sg, dv)) (fun x' => .inr (m_sta 4 (m_cpy x')))) := by
      simp only [m_adv, hcc]
      rw [if_neg (by omega), if_neg q2, if_neg q1, if_pos q3.1]
    have hkd : kd l ≠ 4 := by
      rw [hK l (by omega) (Nat.le_refl l), q3.2.2]; decide
    rw [em, hF]
    rcases trm with ⟨t', w1, w2⟩ | ⟨g, hg, w1, w2⟩
    · left
      obtain ⟨qs, ef⟩ := gd_mono hc m' _ H'
      refine ⟨t', by rw [w1]; rfl, ?_⟩
      rw [ef]; exact evp_inl (hps2 _ w2)
    · right
      have ex : m_sta 4 (m_cpy (updR R (44 + l) g, l, kd, updN hs l 1, updN ht l 0, sg, dv)) = (updR (updR R (44 + l) g) (62 + l) g, l, updN kd l 4, updN (updN hs l 1) l 0, updN (updN ht l 0) l 0, updN sg l 1, updN dv l 0) := by
        show (updR (updR R (44 + l) g) (62 + l) (updR R (44 + l) g (44 + l)), _) = _
        rw [updR_eq]
      have eS : Sx l (updR (updR R (44 + l) g) (62 + l) g, l, updN kd l 4, updN (updN hs l 1) l 0, updN (updN ht l 0) l 0, updN sg l 1, updN dv l 0) = g :: stk R kd hs ht l := by
        show tops (updR (updR R (44 + l) g) (62 + l) g) (updN kd l 4) (updN (updN hs l 1) l 0) (updN (updN ht l 0) l 0) l ++ stk (updR (updR R (44 + l) g) (62 + l) g) (updN kd l 4) (updN (updN hs l 1) l 0) (updN (updN ht l 0) l 0) l = _
        rw [stk_cg (R := R) (kd := kd) (hs := hs) (ht := ht) (fun j hj => ⟨by rw [updR_ne (by omega), updR_ne (by omega)], by rw [updR_ne (by omega), updR_ne (by omega)], by rw [updR_ne (by omega), updR_ne (by omega)], updN_ne (by omega), by rw [updN_ne (by omega), updN_ne (by omega)], by rw [updN_ne (by omega), updN_ne (by omega)]⟩)]
        unfold tops
        rw [updN_eq, updN_eq, updN_eq, if_neg (by decide), if_neg (by decide), if_pos rfl, updR_eq]
        rfl
      have w2' : evp fs nb ps2 [] = .inr (g :: stk R kd hs ht l) := by
        rw [hps2 _ w2, if_neg hkd]; rfl
      refine ⟨m', _, (updR (updR R (44 + l) g) (62 + l) g, l, updN kd l 4, updN (updN hs l 1) l 0, updN (updN ht l 0) l 0, updN sg l 1, updN dv l 0), by rw [w1]; exact congrArg Sum.inr ex, rfl, H', rfl, fun z => absurd z (by decide), ⟨⟨rfl, hn, ?_, ?_, fun j hj => ?_, fun j hj => ?_, fun _ => Or.inr ⟨updN_eq, updN_eq⟩, fun z => absurd z (by decide), ?_⟩, ?_⟩, Nat.lt_succ_self i⟩
      · intro j hj1 hj2
        by_cases z : j = l
        · rw [z, updN_eq, updN_eq]; rfl
        · rw [updN_ne z, updN_ne z]; exact hK j hj1 hj2
      · rw [updN_ne (by omega)]; exact hk0
      · by_cases z : j = l
        · subst z
          exact ⟨Or.inr ⟨updN_eq, Or.inl ⟨updN_eq, updN_eq⟩⟩, Or.inl updN_eq⟩
        · exact LVa_cg (hA j hj) ((updN_ne z).trans (fka j z)) ((updN_ne z).trans (fkb j z)) (by rw [updN_ne z, updN_ne z]) (updN_ne z) (updN_ne z)
      · exact LVb_cg (hB j hj) ((updN_ne (by omega)).trans (fkb j (by omega))) (by rw [updN_ne (by omega), updN_ne (by omega)])
      · intro f hf
        have hf' : f ∈ Sx l (updR (updR R (44 + l) g) (62 + l) g, l, updN kd l 4, updN (updN hs l 1) l 0, updN (updN ht l 0) l 0, updN sg l 1, updN dv l 0) := hf
        rw [eS] at hf'
        rcases List.mem_cons.mp hf' with z | z
        · rw [z]; exact hg
        · exact hok f (List.mem_append_right _ z)
      · rw [if_neg (by decide), List.append_nil]
        refine w2'.trans ?_
        exact congrArg Sum.inr eS.symm
  rw [if_neg q3] at es
  by_cases q4 : c = 41 ∧ 0 < l ∧ ¬ o l = 115
  · rw [if_pos q4] at es
    unfold r_cl at es
    rw [f2] at es
    have hl32 : ps2.length < 32 := by
      have h1 : ps2.length + (SB (cst o a2 b2) l + cst o a2 b2 l) ≤ i := J22.1
      omega
    -- the closing step
    generalize hqs : (if o l = 100 then [(7, (0 : Int))] else if o l = 44 then [(12, (0 : Int))] else []) = qs
    have es2 : r_step cs (o, a, b, l, i, 0, 0, y, h, ps, t) = (o, a2, b2, l - 1, i + 1, 0, 0, y, 1, ps2 ++ qs, t) := by
      rw [es, ← hqs]
      simp only [r_cl2]
      by_cases z : o l = 100
      · rw [if_pos z, if_pos z, addp_lt hl32]
      · rw [if_neg z, if_neg z]
        by_cases z2 : o l = 44
        · rw [if_pos z2, if_pos z2, addp_lt hl32]
        · rw [if_neg z2, if_neg z2, List.append_nil]
    rw [es2] at H' hF
    have em : m_adv cs fs nb i (R, l, kd, hs, ht, sg, dv) = m_rai cs (i + 1) (m_clo (R, l, kd, hs, ht, sg, dv)) := by
      simp only [m_adv, hcc]
      rw [if_neg (by omega), if_neg q2, if_neg q1, if_neg (by omega), if_pos q4.1]
    refine ⟨⟨hl8, hoks, by omega, fun _ => ⟨ht1, by omega⟩, Or.inr (Or.inr (Or.inr (Or.inr (Or.inr (Or.inr (Or.inr (Or.inr (Or.inl ⟨by omega, gd_rai hc H'⟩))))))))⟩, ?_⟩
    rw [em, hF]
    unfold m_clo
    rcases trm with ⟨t', w1, w2⟩ | ⟨g, hg, w1, w2⟩
    · left
      obtain ⟨qs', ef⟩ := gd_mono hc m' _ H'
      refine ⟨t', by rw [w1]; rfl, ?_⟩
      rw [ef]
      show evp fs nb (ps2 ++ qs ++ qs') [] = _
      rw [List.append_assoc]
      exact evp_inl (hps2 _ w2)
    · rw [w1]
      obtain ⟨l0, rfl⟩ : ∃ l0, l = l0 + 1 := ⟨l - 1, by omega⟩
      generalize hr : (if kd (l0 + 1) = 2 then oDer g else if kd (l0 + 1) = 4 then oComp (R (62 + (l0 + 1))) g else .inr g) = r
      have ec : m_bind (.inr (updR R (44 + (l0 + 1)) g, l0 + 1, kd, updN hs (l0 + 1) 1, updN ht (l0 + 1) 0, sg, dv)) m_clo2 = m_put r (updR R (44 + (l0 + 1)) g, l0, kd, updN hs (l0 + 1) 1, updN ht (l0 + 1) 0, sg, dv) := by
        rw [← hr]
        rw [show m_bind (.inr (updR R (44 + (l0 + 1)) g, l0 + 1, kd, updN hs (l0 + 1) 1, updN ht (l0 + 1) 0, sg, dv)) m_clo2 = m_put (if kd (l0 + 1) = 2 then oDer (updR R (44 + (l0 + 1)) g (44 + (l0 + 1))) else if kd (l0 + 1) = 4 then oComp (updR R (44 + (l0 + 1)) g (62 + (l0 + 1))) (updR R (44 + (l0 + 1)) g (44 + (l0 + 1))) else .inr (updR R (44 + (l0 + 1)) g (44 + (l0 + 1)))) (updR R (44 + (l0 + 1)) g, l0, kd, updN hs (l0 + 1) 1, updN ht (l0 + 1) 0, sg, dv) from rfl]
        rw [updR_eq, updR_ne (show 62 + (l0 + 1) ≠ 44 + (l0 + 1) by omega)]
      rw [ec]
      have hkl := hK (l0 + 1) (by omega) (Nat.le_refl _)
      have hol := hO (l0 + 1) (by omega) (Nat.le_refl _)
      -- the stack below
      have eS : Sx l0 (updR R (44 + (l0 + 1)) g, l0, kd, updN hs (l0 + 1) 1, updN ht (l0 + 1) 0, sg, dv) = stk R kd hs ht (l0 + 1) := by
        show stk (updR R (44 + (l0 + 1)) g) kd (updN hs (l0 + 1) 1) (updN ht (l0 + 1) 0) (l0 + 1) = _
        exact stk_cg (fun j hj => ⟨updR_ne (by omega), updR_ne (by omega), updR_ne (by omega), rfl, updN_ne (by omega), updN_ne (by omega)⟩)
      have hLn : LV 1 o a2 b2 l0 (updR R (44 + (l0 + 1)) g, l0, kd, updN hs (l0 + 1) 1, updN ht (l0 + 1) 0, sg, dv) := by
        refine ⟨rfl, by omega, fun j h1 h2 => hK j h1 (by omega), hk0, fun j hj => LVa_cg (hA j (by omega)) (fka j (by omega)) (fkb j (by omega)) (updN_ne (by omega)) rfl rfl, fun j hj => LVb_cg (hB j (by omega)) (fkb j (by omega)) (updN_ne (by omega)), fun _ => LVb_cg (hB l0 (by omega)) (fkb l0 (by omega)) (updN_ne (by omega)), fun z => absurd z (by decide), ?_⟩
        intro f hf
        have hf' : f ∈ Sx l0 (updR R (44 + (l0 + 1)) g, l0, kd, updN hs (l0 + 1) 1, updN ht (l0 + 1) 0, sg, dv) := hf
        rw [eS] at hf'
        exact hok f (List.mem_append_right _ hf')
      have hstep : evp fs nb (ps2 ++ qs) [] = push r (stk R kd hs ht (l0 + 1)) ∧ ∀ f, r = .inr f → okF f := by
        rw [evp_inr (hps2 _ w2), ← hqs, ← hr, hkl]
        rcases hol with z | z | z | z
        · rw [z]
          exact ⟨rfl, fun f hf => by rw [← Sum.inr.inj hf]; exact hg⟩
        · rw [z]
          refine ⟨?_, fun f hf => ok_der hg hf⟩
          show evp fs nb [(7, 0)] (g :: stk R kd hs ht (l0 + 1)) = _
          rw [evp_1]; rfl
        · exact absurd z q4.2.2
        · have hkd4 : kd (l0 + 1) = 4 := by rw [hkl, z]; rfl
          rw [z]
          refine ⟨?_, fun f hf => ok_comp (((hoks (l0 + 1) (Nat.le_refl _)).2.2.1) hkd4) hg hf⟩
          show evp fs nb [(12, 0)] (g :: R (62 + (l0 + 1)) :: stk R kd hs ht (l0 + 1)) = _
          rw [evp_1]; rfl
      obtain ⟨hst, hro⟩ := hstep
      cases r with
      | inl t' =>
        left
        obtain ⟨qs', ef⟩ := gd_mono hc m' _ H'
        refine ⟨t', rfl, ?_⟩
        rw [ef]
        exact evp_inl hst
      | inr f =>
        have H2 : gd cs m' (o, a2, b2, l0, i + 1, 0, 0, y, 1, ps2 ++ qs, t) := H'
        exact (go_rai hc (Nat.lt_succ_self i) H2 hLn (hro f rfl) (by rw [eS]; exact hst)).2
  · rw [if_neg q4] at es
    rw [es] at H'
    exact absurd H'.2.1 (show ¬ (1 : Nat) = 0 by decide)
/-- a token: what is asked for holds, and the two go along -/
theorem ev_tok {cs : List Nat} {fs : List (PS × PS)} {nb : Nat → Nat} {m : Nat} {s : RS} {x : ME} (hc : cs.length ≤ 32) (hfs : ∀ f ∈ fs, okF f) (H : gd cs m s) (hb : bnd cs s) (J : J3 fs nb s x) (hi : rdI s < cs.length) : advOK cs fs nb (rdI s) x ∧ go_ cs fs nb (fin_ cs m s) (rdI s) (m_adv cs fs nb (rdI s) x) := by
  obtain ⟨o, a, b, n, i, k, w, y, h, ps, t⟩ := s
  have hw : w ≤ 1 := H.1.2.2.2.2.2.2.2.2.1
  rcases (by omega : w = 0 ∨ w = 1) with q | q <;> subst q
  · exact ev_aft hc H hb J hi
  · exact ev_bef hc hfs H J hi
/-- behind the last token -/
theorem ev_end {cs : List Nat} {fs : List (PS × PS)} {nb : Nat → Nat} {m : Nat} {s : RS} {x : ME} (hc : cs.length ≤ 32) (H : gd cs m s) (J : J3 fs nb s x) (hi : cs.length ≤ rdI s) : (x.2.1 = 0 ∧ m_ht x = 1 ∧ okF (x.1 53) ∧ (x.2.2.2.1 0 = 1 → okF (x.1 44)) ∧ (x.2.2.2.2.2.1 0 = 1 ∨ x.2.2.2.2.2.1 0 = 10006)) ∧ evp fs nb (fin_ cs m s) [] = (match m_res (m_trm x) with
    | .inl t => .inl t
    | .inr f => .inr [f]) := by
  obtain ⟨o, a, b, n, i, k, w, y, h, ps, t⟩ := s
  obtain ⟨R, l, kd, hs, ht, sg, dv⟩ := x
  obtain ⟨rfl, rfl, e⟩ := gd_end hc H hi
  obtain ⟨hL, he⟩ := J
  rw [if_pos rfl] at he
  obtain ⟨rfl, -, -, hk0, -, -, -, hw, -⟩ := id hL
  have hk := (LV_ok hL).2 0 (Nat.le_refl 0)
  refine ⟨⟨rfl, hw rfl, hk.1 (hw rfl), hk.2.1, hk.2.2.2⟩, ?_⟩
  rw [e, evp_inr he]
  rcases LV_trm (fs := fs) (nb := nb) hL with ⟨t', w1, w2⟩ | ⟨g, hg, w1, w2⟩
  · rw [w2, w1]; rfl
  · rw [w2, w1, if_neg (by rw [hk0]; decide)]
    show _ = Sum.inr [updR R (44 + 0) g 44]
    rw [show (44 : Nat) = 44 + 0 from rfl, updR_eq]; rfl
/-- before the first -/
theorem ev_start {cs : List Nat} {fs : List (PS × PS)} {nb : Nat → Nat} (o a b : Nat → Nat) (y w h : Nat) (R : Nat → PS × PS) (kd hs ht sg dv : Nat → Nat) : J3 fs nb (r_start cs o a b y w h) (m_sta 1 (R, 0, kd, hs, ht, sg, dv)) ∧ bnd cs (r_start cs o a b y w h) ∧ rdI (r_start cs o a b y w h) = if isNm (cs.getD 0 0) ∧ cs.getD 1 0 = 58 then 2 else 0 := by
  have key : ∀ i t, J3 fs nb (o, updN a 0 0, updN b 0 0, 0, i, 0, 1, 1, h, [], t) (m_sta 1 (R, 0, kd, hs, ht, sg, dv)) := by
    intro i t
    have eS : Sx 0 (m_sta 1 (R, 0, kd, hs, ht, sg, dv)) = [] := by
      show tops R (updN kd 0 1) (updN hs 0 0) (updN ht 0 0) 0 ++ [] = []
      unfold tops
      rw [updN_eq, updN_eq, updN_eq]; rfl
    refine ⟨⟨rfl, by decide, fun l h1 h2 => by omega, updN_eq, fun j hj => ?_, fun j hj => by omega, fun _ => Or.inr ⟨updN_eq, updN_eq⟩, fun z => absurd z (by decide), ?_⟩, ?_⟩
    · have : j = 0 := by omega
      subst this
      exact ⟨Or.inr ⟨updN_eq, Or.inl ⟨updN_eq, updN_eq⟩⟩, Or.inl updN_eq⟩
    · intro f hf
      have hf' : f ∈ Sx 0 (m_sta 1 (R, 0, kd, hs, ht, sg, dv)) := hf
      rw [eS] at hf'
      cases hf'
    · rw [if_neg (by decide), eS]; rfl
  simp only [r_start, r_sum, r_tg]
  split
  · exact ⟨key _ _, fun q => absurd q (by decide), rfl⟩
  · exact ⟨key _ _, fun q => absurd q (by decide), rfl⟩
theorem gd_start {cs : List Nat} (hc : cs.length ≤ 32) {g : (Nat → Nat) × (Nat → Nat) × (Nat → Nat) × Nat × Nat × Nat} (h : (rdR cs g).1 = -1) : gd cs 32 (r_start cs g.1 g.2.1 g.2.2.1 g.2.2.2.1 g.2.2.2.2.1 g.2.2.2.2.2) ∧ rdP (rdR cs g).2 = fin_ cs 32 (r_start cs g.1 g.2.1 g.2.2.1 g.2.2.2.1 g.2.2.2.2.1 g.2.2.2.2.2) := by
  obtain ⟨s1, s2, -, -⟩ := J2_start (cs := cs) g.1 g.2.1 g.2.2.1 g.2.2.2.1 g.2.2.2.2.1 g.2.2.2.2.2
  exact ⟨⟨s1, s2, by omega, h⟩, rfl⟩
