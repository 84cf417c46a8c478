/-! what a line comes to does not hang on what lay in the reader -/
def toL (r : Res) : Int32 ⊕ List (PS × PS) := match r with
  | .inl t => .inl t
  | .inr f => .inr [f]
theorem ev_run {cs : List Nat} {fs : List (PS × PS)} {nb : Nat → Nat} (hc : cs.length ≤ 32) (hfs : ∀ f ∈ fs, okF f) : ∀ (k m : Nat) (s : RS) (x : ME), gd cs m s → bnd cs s → J3 fs nb s x → cs.length ≤ rdI s + k → evp fs nb (fin_ cs m s) [] = toL (m_res (m_bind (m_run cs fs nb k (rdI s) x) m_trm)) := by
  have fin : ∀ m (s : RS) (x : ME), gd cs m s → J3 fs nb s x → cs.length ≤ rdI s → evp fs nb (fin_ cs m s) [] = toL (m_res (m_trm x)) := by
    intro m s x H J hi
    rw [(ev_end hc H J hi).2]
    rfl
  intro k
  induction k with
  | zero => intro m s x H hb J hi; exact fin m s x H J (by omega)
  | succ k ih =>
    intro m s x H hb J hi
    simp only [m_run]
    by_cases hl : rdI s < cs.length
    · rw [if_pos hl]
      obtain ⟨-, hg⟩ := ev_tok hc hfs H hb J hl
      rcases hg with ⟨t, e1, e2⟩ | ⟨m', s', x', e1, e2, H', eF, hb', J', hlt⟩
      · rw [e2, e1]; rfl
      · rw [e1, eF]
        have := ih m' s' x' H' hb' J' (by omega)
        rw [this, e2]; rfl
    · rw [if_neg hl]
      exact fin m s x H J (by omega)
theorem ev_g {cs : List Nat} {fs : List (PS × PS)} {nb : Nat → Nat} (hc : cs.length ≤ 32) (hfs : ∀ f ∈ fs, okF f) {g : (Nat → Nat) × (Nat → Nat) × (Nat → Nat) × Nat × Nat × Nat} (h : (rdR cs g).1 = -1) (x : ME) (hx : ∃ R kd hs ht sg dv, x = m_sta 1 (R, 0, kd, hs, ht, sg, dv)) : evp fs nb (rdP (rdR cs g).2) [] = toL (m_val cs fs nb x) := by
  obtain ⟨R, kd, hs, ht, sg, dv, rfl⟩ := hx
  obtain ⟨g1, g2⟩ := gd_start hc h
  obtain ⟨s1, s2, s3⟩ := ev_start (cs := cs) (fs := fs) (nb := nb) g.1 g.2.1 g.2.2.1 g.2.2.2.1 g.2.2.2.2.1 g.2.2.2.2.2 R kd hs ht sg dv
  rw [g2, ev_run hc hfs 33 32 _ _ g1 s2 s1 (by omega), s3]
  rfl
theorem rd_T {cs : List Nat} (hc : cs.length ≤ 32) {g : (Nat → Nat) × (Nat → Nat) × (Nat → Nat) × Nat × Nat × Nat} (h : (rdR cs g).1 = -1) : rdT (rdR cs g).2 = if isNm (cs.getD 0 0) ∧ cs.getD 1 0 = 58 then nI (cs.getD 0 0 - 97) else -1 := by
  obtain ⟨g1, -⟩ := gd_start hc h
  have hl := J2_loop hc 32 _ g1.1 g1.2.1 (by omega)
  have h' : (r_fin (r_loop cs 32 (r_start cs g.1 g.2.1 g.2.2.1 g.2.2.2.1 g.2.2.2.2.1 g.2.2.2.2.2))).1 = -1 := h
  show rdT (r_fin (r_loop cs 32 (r_start cs g.1 g.2.1 g.2.2.1 g.2.2.2.1 g.2.2.2.2.1 g.2.2.2.2.2))).2 = _
  have e0 : rdT (r_start cs g.1 g.2.1 g.2.2.1 g.2.2.2.1 g.2.2.2.2.1 g.2.2.2.2.2) = if isNm (cs.getD 0 0) ∧ cs.getD 1 0 = 58 then nI (cs.getD 0 0 - 97) else -1 := by
    simp only [r_start, r_sum, r_tg]
    split <;> rfl
  rw [← e0]
  revert hl h'
  generalize r_loop cs 32 (r_start cs g.1 g.2.1 g.2.2.1 g.2.2.2.1 g.2.2.2.2.1 g.2.2.2.2.2) = s
  generalize rdT (r_start cs g.1 g.2.1 g.2.2.1 g.2.2.2.1 g.2.2.2.2.1 g.2.2.2.2.2) = t0
  intro hl h'
  rcases hl with ⟨q, qi⟩ | ⟨H, hk, -, ht, hi⟩
  · exfalso
    rw [r_fin_k q] at h'
    exact nI_m1 (by omega) h'
  · rw [← ht]
    obtain ⟨o, a, b, n, i, k, w, y, h, ps, t⟩ := s
    by_cases q : k = 1 ∨ w = 1 ∨ 0 < n
    · simp only [r_fin]; rw [if_pos q]
    · simp only [r_fin]; rw [if_neg q]
      obtain ⟨a', b', ps', e⟩ := r_ft_i o a b n i k w y h ps t
      rw [e]; rfl
/-- enter does one thing -/
theorem ent_det {cs : List Nat} {fs : List (PS × PS)} {ss : List Nat} {nb : Nat → Nat} {sc : Nat} {bad : Int32} {g g' : (Nat → Nat) × (Nat → Nat) × (Nat → Nat) × Nat × Nat × Nat} {v v' : Int32} {s s' : St} (hc : cs.length ≤ 32) (hfs : ∀ f ∈ fs, okF f) (h : entC g (cs, fs, ss, nb, sc, bad) v s) (h' : entC g' (cs, fs, ss, nb, sc, bad) v' s') : v = v' ∧ s = s' := by
  have eb : (rdR cs g).1 = (rdR cs g').1 := (bad_eq hc g (fun _ => 0)).trans (bad_eq hc g' (fun _ => 0)).symm
  rcases h with ⟨l, rfl, rfl⟩ | ⟨l, h⟩
  · rcases h' with ⟨-, rfl, rfl⟩ | ⟨l', -⟩
    · exact ⟨rfl, rfl⟩
    · omega
  · rcases h' with ⟨l', -⟩ | ⟨-, h'⟩
    · omega
    · rcases h with ⟨q, rfl, rfl⟩ | ⟨q, h⟩
      · rcases h' with ⟨-, rfl, rfl⟩ | ⟨q', -⟩
        · exact ⟨rfl, by rw [eb]⟩
        · exact absurd (eb.trans q') q
      · have q' : (rdR cs g').1 = -1 := eb ▸ q
        rcases h' with ⟨n, -⟩ | ⟨-, h'⟩
        · exact absurd q' n
        · let x0 : ME := m_sta 1 (fun _ => (ps_0, ps_0), 0, fun _ => 0, fun _ => 0, fun _ => 0, fun _ => 0, fun _ => 0)
          have e1 := ev_g (nb := nb) hc hfs q x0 ⟨_, _, _, _, _, _, rfl⟩
          have e2 := ev_g (nb := nb) hc hfs q' x0 ⟨_, _, _, _, _, _, rfl⟩
          have et : rdT (rdR cs g).2 = rdT (rdR cs g').2 := (rd_T hc q).trans (rd_T hc q').symm
          rw [← e2] at e1
          rcases h with ⟨t, et1, rfl, rfl⟩ | ⟨x, r, sc1, ex, -, rfl, hs, rfl⟩
          · rcases h' with ⟨t', et2, rfl, rfl⟩ | ⟨x', r', sc2, ex', -⟩
            · rw [e1, et2] at et1
              exact ⟨(Sum.inl.inj et1).symm, rfl⟩
            · rw [e1, ex'] at et1; cases et1
          · rcases h' with ⟨t', et2, -⟩ | ⟨x', r', sc2, ex', -, rfl, hs', rfl⟩
            · rw [e1, et2] at ex; cases ex
            · rw [e1, ex'] at ex
              have exx : x' = x := (List.cons.inj (Sum.inr.inj ex)).1
              subst exx
              refine ⟨rfl, ?_⟩
              rw [et]
              rcases hs with ⟨i, i1, i2, i3, rfl⟩ | ⟨n1, rfl, rfl⟩
              · rcases hs' with ⟨j, j1, j2, j3, rfl⟩ | ⟨n1, rfl, rfl⟩
                · have : i = j := by
                    rcases Nat.lt_trichotomy i j with w | w | w
                    · exact absurd i1 (j2 i w)
                    · exact w
                    · exact absurd j1 (i2 j w)
                  subst this
                  rw [Option.some.inj (i3.symm.trans j3)]
                · exact absurd i1 (n1 i)
              · rcases hs' with ⟨j, j1, j2, j3, rfl⟩ | ⟨n2, rfl, rfl⟩
                · exact absurd j1 (n1 j)
                · rfl
def ok25 (r : Option AS) : Prop := ∀ x, r = some x → x.1 ≠ 25
theorem ok25_i {p : Prop} [Decidable p] {A B : Option AS} (h1 : p → ok25 A) (h2 : ¬ p → ok25 B) : ok25 (if p then A else B) := by
  by_cases q : p
  · rw [if_pos q]; exact h1 q
  · rw [if_neg q]; exact h2 q
theorem ok25_n : ok25 none := fun _ q => by cases q
theorem ok25_s {s lev : Nat} {kd : Nat → Nat} (h : s ≠ 25) : ok25 (some (s, lev, kd)) := fun a q => by
  rw [← Option.some.inj q]; exact h
theorem at_58 {s lev : Nat} {kd : Nat → Nat} (h : s ≠ 25) : m_at s 58 lev kd = none := by
  unfold m_at
  by_cases h1 : s = 23 ∨ s = 24
  · rw [if_pos h1, if_neg (by decide)]
  rw [if_neg h1]
  by_cases h2 : s = 0 ∨ s = 1 ∨ s = 26
  · rw [if_pos h2]
    unfold m_beg
    rw [if_neg (by decide), if_neg (by decide), if_neg (by decide), if_neg (by decide), if_neg (fun q => absurd q.1 (by decide))]
    by_cases h3 : lev = 8
    · rw [if_pos h3]
    · rw [if_neg h3, if_neg (by decide), if_neg (by decide), if_neg (by decide)]
  rw [if_neg h2]
  by_cases h3 : s = 9 ∨ s = 10
  · rw [if_pos h3, if_neg (by decide), if_neg (fun q => absurd q.2 (by decide))]
  rw [if_neg h3]
  by_cases h4 : s = 21
  · rw [if_pos h4, if_neg (by decide)]
  rw [if_neg h4, if_neg (by decide), if_pos rfl, if_neg h]
theorem bind_nm {cs : List Nat} {kd : Nat → Nat} (h : m_bad cs kd = none) (h1 : 1 < cs.length) (h58 : cs.getD 1 0 = 58) : isNm (cs.getD 0 0) := by
  have h' : A_ cs 0 26 0 kd = none := h
  rw [A_in (by omega)] at h'
  rcases e : m_at 26 (cs.getD 0 0) 0 kd with _ | a
  · rw [e] at h'; cases h'
  · rw [e] at h'
    simp only at h'
    rw [A_in h1, h58] at h'
    by_cases q : a.1 = 25
    · refine Classical.byContradiction (fun hn => ?_)
      rw [m_beg_at (by omega)] at e
      have key : ok25 (m_beg 26 (cs.getD 0 0) 0 kd) := by
        unfold m_beg m_open
        rw [if_neg hn]
        repeat' first | exact ok25_n | exact ok25_s (by decide) | refine ok25_i (fun _ => ?_) (fun _ => ?_)
      exact key a e q
    · rw [at_58 q] at h'; cases h'
