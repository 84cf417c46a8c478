/-! what lies on the stack, level by level -/
def okF (x : PS × PS) : Prop := isform x.1 x.2 ∧ ¬ bigF x
theorem setl_okF {N D : PS} {i : Nat} {x : PS × PS} (pN : pol N) (pD : pol D) (hD : D i ≠ 0) (h : setl N D = .inr x) : okF x := by
  obtain ⟨n, d, hf⟩ := form_ex pN pD hD
  rw [setl_at (x := (n, d)) hD hf] at h
  by_cases q : bigF (n, d)
  · rw [pif_t q] at h; cases h
  · rw [pif_f q] at h
    rw [← Sum.inr.inj h]
    exact ⟨hf.1, q⟩
theorem pol_der {P : PS} (h : pol P) : pol (ps_der P) := by
  obtain ⟨n, hn⟩ := h
  exact ⟨n, fun i hi => by simp only [ps_der]; rw [hn (i + 1) (by omega)]; grind⟩
theorem ok_add {c : FF} {l r x : PS × PS} (hl : okF l) (hr : okF r) (h : oAdd c l r = .inr x) : okF x := by
  obtain ⟨⟨p1, p2, -, -⟩, -⟩ := id hl
  obtain ⟨⟨q1, q2, -, -⟩, -⟩ := id hr
  obtain ⟨i, hi⟩ := mul_ne p2 q2 (isf_ne hl.1) (isf_ne hr.1)
  exact setl_okF (pol_add (pol_mul p1 q2) (pol_mul (pol_C c) (pol_mul q1 p2))) (pol_mul p2 q2) hi h
theorem ok_mul {l r x : PS × PS} (hl : okF l) (hr : okF r) (h : oMul l r = .inr x) : okF x := by
  obtain ⟨⟨p1, p2, -, -⟩, -⟩ := id hl
  obtain ⟨⟨q1, q2, -, -⟩, -⟩ := id hr
  obtain ⟨i, hi⟩ := mul_ne p2 q2 (isf_ne hl.1) (isf_ne hr.1)
  exact setl_okF (pol_mul p1 q1) (pol_mul p2 q2) hi h
theorem ok_div {l r x : PS × PS} (hl : okF l) (hr : okF r) (h : oDiv l r = .inr x) : okF x := by
  obtain ⟨⟨p1, p2, -, -⟩, -⟩ := id hl
  obtain ⟨⟨q1, q2, -, -⟩, -⟩ := id hr
  unfold oDiv at h
  by_cases z : ∀ i, r.1 i = 0
  · rw [pif_t z] at h; cases h
  · rw [pif_f z] at h
    obtain ⟨i, hi⟩ := mul_ne p2 q1 (isf_ne hl.1) (nz_of z)
    exact setl_okF (pol_mul p1 q2) (pol_mul p2 q1) hi h
theorem ok_der {l x : PS × PS} (hl : okF l) (h : oDer l = .inr x) : okF x := by
  obtain ⟨⟨p1, p2, -, -⟩, -⟩ := id hl
  obtain ⟨i, hi⟩ := mul_ne p2 p2 (isf_ne hl.1) (isf_ne hl.1)
  exact setl_okF (pol_add (pol_mul (pol_der p1) p2) (pol_mul (pol_C _) (pol_mul p1 (pol_der p2)))) (pol_mul p2 p2) hi h
theorem ok_comp {l r x : PS × PS} (hl : okF l) (hr : okF r) (h : oComp l r = .inr x) : okF x := by
  obtain ⟨⟨p1, p2, -, -⟩, -⟩ := id hl
  obtain ⟨⟨q1, q2, -, -⟩, -⟩ := id hr
  unfold oComp at h
  by_cases y : 12 < hgt l * hgt r
  · rw [pif_t y] at h; cases h
  · rw [pif_f y] at h
    by_cases z : ∀ i, hom (hgt l) l.2 r.1 r.2 i = 0
    · rw [pif_t z] at h; cases h
    · rw [pif_f z] at h
      obtain ⟨i, hi⟩ := nz_of z
      exact setl_okF (hom_pol q1 q2 _ _) (hom_pol q1 q2 _ _) hi h
theorem ok_pow {e : Int} {l x : PS × PS} (hl : okF l) (h : op1 5 e l = .inr x) : okF x := by
  obtain ⟨⟨p1, p2, -, -⟩, -⟩ := id hl
  simp only [op1] at h
  split at h
  · unfold oPowP at h
    by_cases y : 12 < e.toNat * hgt l
    · rw [pif_t y] at h; cases h
    · rw [pif_f y] at h
      obtain ⟨i, hi⟩ := pow_ne p2 (isf_ne hl.1) e.toNat
      exact setl_okF (pol_pow p1 _) (pol_pow p2 _) hi h
  · unfold oPowN at h
    by_cases z : ∀ i, l.1 i = 0
    · rw [pif_t z] at h; cases h
    · rw [pif_f z] at h
      by_cases y : 12 < (-e).toNat * hgt l
      · rw [pif_t y] at h; cases h
      · rw [pif_f y] at h
        obtain ⟨i, hi⟩ := pow_ne p1 (nz_of z) (-e).toNat
        exact setl_okF (pol_pow p2 _) (pol_pow p1 _) hi h
theorem ok_C (c : FF) : okF (ps_C c, ps_C 1) := ⟨isf_C c, C_small c⟩
theorem ok_X : okF (mono 1 1, ps_C 1) := by
  refine ⟨isf_X, ?_⟩
  rintro (⟨i, hi, e⟩ | ⟨i, hi, e⟩)
  · exact e (by simp [mono, show i ≠ 1 by omega])
  · exact e (by simp [ps_C, show i ≠ 0 by omega])
theorem ok_lab {fs : List (PS × PS)} (hf : ∀ f ∈ fs, okF f) {n : Nat} {x : PS × PS} (h : labF fs n = .inr x) : okF x := by
  unfold labF at h
  split at h
  · cases h
  · split at h
    · next f e =>
      rw [← Sum.inr.inj h]
      exact hf _ (List.mem_of_getElem? e)
    · cases h
def tops (R : Nat → PS × PS) (kd hs ht : Nat → Nat) (l : Nat) : List (PS × PS) := (if ht l = 1 then [R (53 + l)] else []) ++ ((if hs l = 1 then [R (44 + l)] else []) ++ (if kd l = 4 then [R (62 + l)] else []))
def stk (R : Nat → PS × PS) (kd hs ht : Nat → Nat) : Nat → List (PS × PS)
  | 0 => []
  | n + 1 => tops R kd hs ht n ++ stk R kd hs ht n
theorem stk_cg {R R' : Nat → PS × PS} {kd hs ht kd' hs' ht' : Nat → Nat} : ∀ {n : Nat}, (∀ j, j < n → R' (53 + j) = R (53 + j) ∧ R' (44 + j) = R (44 + j) ∧ R' (62 + j) = R (62 + j) ∧ kd' j = kd j ∧ hs' j = hs j ∧ ht' j = ht j) → stk R' kd' hs' ht' n = stk R kd hs ht n := by
  intro n
  induction n with
  | zero => intro _; rfl
  | succ n ih =>
    intro h
    obtain ⟨h1, h2, h3, h4, h5, h6⟩ := h n (by omega)
    simp only [stk]
    rw [ih (fun j hj => h j (by omega))]
    simp only [tops, h1, h2, h3, h4, h5, h6]
def Sx (n : Nat) : ME → List (PS × PS)
  | (R, _, kd, hs, ht, _, _) => tops R kd hs ht n ++ stk R kd hs ht n
/-- the levels' flags against the reader's waiting steps -/
def LVa (a b hs sg dv : Nat → Nat) (j : Nat) : Prop := ((hs j = 1 ∧ (sg j = 1 ∧ a j = 8 ∨ sg j = 10006 ∧ a j = 9)) ∨ (hs j = 0 ∧ (sg j = 1 ∧ a j = 0 ∨ sg j = 10006 ∧ a j = 6))) ∧ (b j = 0 ∨ b j = 10 ∧ dv j = 0 ∨ b j = 11 ∧ dv j = 1)
def LVb (b ht : Nat → Nat) (j : Nat) : Prop := (ht j = 1 ∧ b j ≠ 0) ∨ (ht j = 0 ∧ b j = 0)
def LV (w : Nat) (o a b : Nat → Nat) (n : Nat) : ME → Prop
  | (R, l, kd, hs, ht, sg, dv) => l = n ∧ n ≤ 8 ∧ KD kd o n ∧ kd 0 = 1 ∧ (∀ j, j ≤ n → LVa a b hs sg dv j) ∧ (∀ j, j < n → LVb b ht j) ∧ (w = 1 → LVb b ht n) ∧ (w = 0 → ht n = 1) ∧ ∀ f ∈ tops R kd hs ht n ++ stk R kd hs ht n, okF f
theorem LVa_cg {a b hs sg dv a' b' hs' sg' dv' : Nat → Nat} {j : Nat} (h : LVa a b hs sg dv j) (h1 : a' j = a j) (h2 : b' j = b j) (h3 : hs' j = hs j) (h4 : sg' j = sg j) (h5 : dv' j = dv j) : LVa a' b' hs' sg' dv' j := by
  unfold LVa at h ⊢
  rw [h1, h2, h3, h4, h5]; exact h
theorem LVb_cg {b ht b' ht' : Nat → Nat} {j : Nat} (h : LVb b ht j) (h2 : b' j = b j) (h3 : ht' j = ht j) : LVb b' ht' j := by
  unfold LVb at h ⊢
  rw [h2, h3]; exact h
theorem mem_of {α : Type} {f : α} {l r : List α} (h : f ∈ l ++ r) : f ∈ l ∨ f ∈ r := List.mem_append.mp h
/-- a factor is done -/
theorem LV_fac {fs : List (PS × PS)} {nb : Nat → Nat} {o a b : Nat → Nat} {n : Nat} {R : Nat → PS × PS} {l : Nat} {kd hs ht sg dv : Nat → Nat} {f : PS × PS} (H : LV 1 o a b n (R, l, kd, hs, ht, sg, dv)) (hf : okF f) : (∃ t, m_fac (updR R 71 f, l, kd, hs, ht, sg, dv) = .inl t ∧ evp fs nb (pendB b n) (f :: Sx n (R, l, kd, hs, ht, sg, dv)) = .inl t) ∨ ∃ x', m_fac (updR R 71 f, l, kd, hs, ht, sg, dv) = .inr x' ∧ LV 0 o a b n x' ∧ evp fs nb (pendB b n) (f :: Sx n (R, l, kd, hs, ht, sg, dv)) = .inr (Sx n x') := by
  obtain ⟨rfl, hn, hK, hk0, hA, hB, hw, -, hok⟩ := H
  have key : ∀ g, okF g → LV 0 o a b l (updR (updR R 71 f) (53 + l) g, l, kd, hs, updN ht l 1, sg, dv) ∧ Sx l (updR (updR R 71 f) (53 + l) g, l, kd, hs, updN ht l 1, sg, dv) = g :: (((if hs l = 1 then [R (44 + l)] else []) ++ (if kd l = 4 then [R (62 + l)] else [])) ++ stk R kd hs ht l) := by
    intro g hg
    have e : tops (updR (updR R 71 f) (53 + l) g) kd hs (updN ht l 1) l ++ stk (updR (updR R 71 f) (53 + l) g) kd hs (updN ht l 1) l = g :: (((if hs l = 1 then [R (44 + l)] else []) ++ (if kd l = 4 then [R (62 + l)] else [])) ++ stk R kd hs ht l) := by
      rw [stk_cg (R := R) (kd := kd) (hs := hs) (ht := ht) (fun j hj => ⟨by rw [updR_ne (by omega), updR_ne (by omega)], by rw [updR_ne (by omega), updR_ne (by omega)], by rw [updR_ne (by omega), updR_ne (by omega)], rfl, rfl, updN_ne (by omega)⟩)]
      unfold tops
      rw [updN_eq, if_pos rfl, updR_eq, updR_ne (show 44 + l ≠ 53 + l by omega), updR_ne (show 44 + l ≠ 71 by omega), updR_ne (show 62 + l ≠ 53 + l by omega), updR_ne (show 62 + l ≠ 71 by omega)]
      rfl
    refine ⟨⟨rfl, hn, hK, hk0, hA, fun j hj => LVb_cg (hB j hj) rfl (updN_ne (by omega)), fun q => absurd q (by decide), fun _ => updN_eq, ?_⟩, e⟩
    rw [e]
    intro z hz
    rcases List.mem_cons.mp hz with q | q
    · rw [q]; exact hg
    · refine hok z ?_
      unfold tops
      rcases mem_of q with q | q
      · exact List.mem_append_left _ (List.mem_append_right _ q)
      · exact List.mem_append_right _ q
  rw [show m_fac (updR R 71 f, l, kd, hs, ht, sg, dv) = m_fac1 (if ht l = 1 then (if dv l = 1 then oDiv (updR R 71 f (53 + l)) (updR R 71 f 71) else oMul (updR R 71 f (53 + l)) (updR R 71 f 71)) else .inr (updR R 71 f 71)) (updR R 71 f, l, kd, hs, ht, sg, dv) from rfl]
  rcases hw rfl with ⟨h1, h2⟩ | ⟨h1, h2⟩
  · have eS : Sx l (R, l, kd, hs, ht, sg, dv) = R (53 + l) :: (((if hs l = 1 then [R (44 + l)] else []) ++ (if kd l = 4 then [R (62 + l)] else [])) ++ stk R kd hs ht l) := by
      show tops R kd hs ht l ++ stk R kd hs ht l = _
      unfold tops
      rw [if_pos h1]; rfl
    have hr : okF (R (53 + l)) := hok _ (by
      show _ ∈ Sx l (R, l, kd, hs, ht, sg, dv)
      rw [eS]; exact List.mem_cons_self ..)
    rw [eS, pendB, if_neg h2, evp_1, if_pos h1, updR_eq, updR_ne (show 53 + l ≠ 71 by omega)]
    have hb : b l = 10 ∧ dv l = 0 ∨ b l = 11 ∧ dv l = 1 := (hA l (Nat.le_refl l)).2.resolve_left h2
    have es : stp fs nb (b l, 0) (f :: R (53 + l) :: (((if hs l = 1 then [R (44 + l)] else []) ++ (if kd l = 4 then [R (62 + l)] else [])) ++ stk R kd hs ht l)) = push (if dv l = 1 then oDiv (R (53 + l)) f else oMul (R (53 + l)) f) (((if hs l = 1 then [R (44 + l)] else []) ++ (if kd l = 4 then [R (62 + l)] else [])) ++ stk R kd hs ht l) := by
      rcases hb with ⟨e1, e2⟩ | ⟨e1, e2⟩
      · rw [e1, e2]; rfl
      · rw [e1, e2]; rfl
    rw [es]
    rcases er : (if dv l = 1 then oDiv (R (53 + l)) f else oMul (R (53 + l)) f) with t | g
    · left; exact ⟨t, rfl, rfl⟩
    · right
      have hg : okF g := by
        split at er
        · exact ok_div hr hf er
        · exact ok_mul hr hf er
      obtain ⟨k1, k2⟩ := key g hg
      exact ⟨_, rfl, k1, by rw [k2]; rfl⟩
  · have eS : Sx l (R, l, kd, hs, ht, sg, dv) = (((if hs l = 1 then [R (44 + l)] else []) ++ (if kd l = 4 then [R (62 + l)] else [])) ++ stk R kd hs ht l) := by
      show tops R kd hs ht l ++ stk R kd hs ht l = _
      unfold tops
      rw [if_neg (by omega)]; rfl
    rw [eS, pendB, if_pos h2, if_neg (by omega), updR_eq]
    right
    obtain ⟨k1, k2⟩ := key f hf
    exact ⟨_, rfl, k1, by rw [k2]; rfl⟩
/-- a term is done -/
theorem LV_trm {fs : List (PS × PS)} {nb : Nat → Nat} {o a b : Nat → Nat} {n : Nat} {R : Nat → PS × PS} {l : Nat} {kd hs ht sg dv : Nat → Nat} (H : LV 0 o a b n (R, l, kd, hs, ht, sg, dv)) : (∃ t, m_trm (R, l, kd, hs, ht, sg, dv) = .inl t ∧ evp fs nb (pendB a n) (Sx n (R, l, kd, hs, ht, sg, dv)) = .inl t) ∨ ∃ g, okF g ∧ m_trm (R, l, kd, hs, ht, sg, dv) = .inr (updR R (44 + l) g, l, kd, updN hs l 1, updN ht l 0, sg, dv) ∧ evp fs nb (pendB a n) (Sx n (R, l, kd, hs, ht, sg, dv)) = .inr (g :: ((if kd l = 4 then [R (62 + l)] else []) ++ stk R kd hs ht l)) := by
  obtain ⟨rfl, hn, hK, hk0, hA, hB, -, hw, hok⟩ := H
  have h1 := hw rfl
  have eS : Sx l (R, l, kd, hs, ht, sg, dv) = R (53 + l) :: (((if hs l = 1 then [R (44 + l)] else []) ++ (if kd l = 4 then [R (62 + l)] else [])) ++ stk R kd hs ht l) := by
    show tops R kd hs ht l ++ stk R kd hs ht l = _
    unfold tops
    rw [if_pos h1]; rfl
  have hok' : ∀ f ∈ Sx l (R, l, kd, hs, ht, sg, dv), okF f := hok
  rw [eS] at hok' ⊢
  have hr : okF (R (53 + l)) := hok' _ (List.mem_cons_self ..)
  rw [show m_trm (R, l, kd, hs, ht, sg, dv) = m_trm1 (if hs l = 1 then oAdd (Fin.ofNat 10007 (sg l)) (R (44 + l)) (R (53 + l)) else .inr (ps_mul (ps_C (Fin.ofNat 10007 (sg l))) (R (53 + l)).1, (R (53 + l)).2)) (R, l, kd, hs, ht, sg, dv) from rfl]
  rcases (hA l (Nat.le_refl l)).1 with ⟨g1, g2⟩ | ⟨g1, g2⟩
  · rw [if_pos g1] at hok' ⊢
    rw [if_pos g1]
    have hl : okF (R (44 + l)) := hok' _ (List.mem_cons_of_mem _ (List.mem_append_left _ (List.mem_append_left _ (List.mem_cons_self ..))))
    have ha : a l ≠ 0 := by omega
    rw [pendB, if_neg ha, evp_1]
    have es : stp fs nb (a l, 0) (R (53 + l) :: (([R (44 + l)] ++ (if kd l = 4 then [R (62 + l)] else [])) ++ stk R kd hs ht l)) = push (oAdd (Fin.ofNat 10007 (sg l)) (R (44 + l)) (R (53 + l))) ((if kd l = 4 then [R (62 + l)] else []) ++ stk R kd hs ht l) := by
      rcases g2 with ⟨e1, e2⟩ | ⟨e1, e2⟩
      · rw [e1, e2]; rfl
      · rw [e1, e2]; rfl
    rw [es]
    rcases er : oAdd (Fin.ofNat 10007 (sg l)) (R (44 + l)) (R (53 + l)) with t | g
    · left; exact ⟨t, rfl, rfl⟩
    · right; exact ⟨g, ok_add hl hr er, rfl, rfl⟩
  · rw [if_neg (by omega), if_neg (by omega)]
    right
    rcases g2 with ⟨e1, e2⟩ | ⟨e1, e2⟩
    · have e3 : (ps_mul (ps_C (Fin.ofNat 10007 (sg l))) (R (53 + l)).1, (R (53 + l)).2) = R (53 + l) := by
        rw [e1]
        have e4 : ps_mul (ps_C (Fin.ofNat 10007 1)) (R (53 + l)).1 = (R (53 + l)).1 := by
          funext i
          show ps_m i (ps_C (Fin.ofNat 10007 1)) _ = _
          rw [ps_mC]
          show (1 : FF) * _ = _
          grind
        rw [e4]
      rw [e3, pendB, if_pos e2]
      exact ⟨_, hr, rfl, rfl⟩
    · obtain ⟨n1, n2⟩ := neg_form hr.1 hr.2
      rw [e1, pendB, if_neg (by omega), evp_1, e2]
      refine ⟨(ps_mul (ps_C 10006) (R (53 + l)).1, (R (53 + l)).2), ⟨n1, ?_⟩, rfl, ?_⟩
      · intro q
        have n3 := setl_form (x := (ps_mul (ps_C 10006) (R (53 + l)).1, (R (53 + l)).2)) n1
        rw [pif_t q] at n3
        have n2' : setl (ps_mul (ps_C 10006) (R (53 + l)).1) (R (53 + l)).2 = .inr (ps_mul (ps_C 10006) (R (53 + l)).1, (R (53 + l)).2) := n2
        rw [n2'] at n3
        cases n3
      · show push (oNeg (R (53 + l))) _ = _
        rw [n2]; rfl
