theorem fi_turn {k q r s : Nat} (hq : q ≠ 0) : fi_loop (k + 1) q r s = fi_loop k (q / 2) (if q % 2 = 1 then r * s % 10007 else r) (s * s % 10007) := by
  have e : Nat.beq q 0 = false := by
    cases h : Nat.beq q 0 with
    | true => exact absurd (Nat.eq_of_beq_eq_true h) hq
    | false => rfl
  rw [fi_loop, e]
  simp only [cond_false]
  by_cases h : q % 2 = 1
  · rw [if_pos h, h]; rfl
  · rw [if_neg h]
    have e2 : Nat.beq (q % 2) 1 = false := by
      cases h2 : Nat.beq (q % 2) 1 with
      | true => exact absurd (Nat.eq_of_beq_eq_true h2) h
      | false => rfl
    rw [e2]; rfl
theorem fi_stop {k r s : Nat} : fi_loop k 0 r s = r := by
  cases k <;> rfl
theorem nI_mm {a b : Nat} (ha : a < 10007) (hb : b < 10007) : nI a * nI b - nI a * nI b / 10007 * 10007 = nI (a * b % 10007) := by
  have h : a * b ≤ 10006 * 10006 := Nat.mul_le_mul (by omega) (by omega)
  rw [pk_mul, nI_mod (by omega)]
set_option maxHeartbeats 4000000 in
/-- RationalSession.inverse -/
theorem s_inverse (E : zE) (l : Launch) (sz : Nat) (M : zM) (c : FF) : zMet E l y_S_inverse c_S_inverse 4 (some .int) { frames := 0, cells := 0, slots := 0, locals := 0 } 0 0 [.int (fI c)] sz M (zRet (some (.int (fI (ff_inv c)))) sz M) := by
  refine zMet.ofZ (by decide) (Nat.le_of_ble_eq_true rfl) ?_
  intro X hl hini C
  have loop : ∀ (k q r s : Nat), q < 2 ^ k → q < 20000 → r < 10007 → s < 10007 → fi_loop k q r s = fi c.val → Z X E 4 (zQ X E 0 0 (zRet (some (.int (fI (ff_inv c)))) sz M)) 0 0 sz M 8 [(0, .int (fI c)), (1, .int (nI r)), (2, .int (nI s)), (3, .int (nI q))] [] := by
    intro k
    induction k with
    | zero =>
      intro q r s h1 h2 h3 h4 h5
      have hq : q = 0 := by omega
      subst hq
      refine z_iload_n C d_S_inverse_8 rfl rfl ?_
      refine z_if_le (tgt := 42) C d_S_inverse_9 (by decide) (fun _ => ?_) (fun c_9 => absurd (by decide) c_9)
      refine z_iload_n C d_S_inverse_42 rfl rfl ?_
      refine z_iret C ⟨?_, rfl, rfl⟩ d_S_inverse_43
      congr 2
      show nI (fi c.val % 10007) = nI r
      rw [Nat.mod_eq_of_lt (fi_lt c.isLt), ← h5, fi_stop]
    | succ k ih =>
      intro q r s h1 h2 h3 h4 h5
      refine z_iload_n C d_S_inverse_8 rfl rfl ?_
      refine z_if_le (tgt := 42) C d_S_inverse_9 (by decide) (fun c9 => ?_) (fun c9 => ?_)
      · have c9 : q = 0 := by
          rcases Nat.eq_zero_or_pos q with e | e
          · exact e
          · exact absurd c9 (nI_nle e (by omega))
        subst c9
        refine z_iload_n C d_S_inverse_42 rfl rfl ?_
        refine z_iret C ⟨?_, rfl, rfl⟩ d_S_inverse_43
        congr 2
        show nI (fi c.val % 10007) = nI r
        rw [Nat.mod_eq_of_lt (fi_lt c.isLt), ← h5, fi_stop]
      · have c9 : q ≠ 0 := fun e => c9 (by rw [e]; decide)
        refine z_iload_n C d_S_inverse_12 rfl rfl ?_
        refine z_iconst (v := nI 2) C d_S_inverse_13 (by decide) ?_
        refine z_irem C d_S_inverse_14 (by decide) ?_
        refine z_top (y := nI (q % 2)) (pk_rem (by omega) (by decide) (by decide)) ?_
        refine z_iconst (v := nI 1) C d_S_inverse_15 (by decide) ?_
        refine z_icmp_ne (tgt := 27) C d_S_inverse_16 (by decide) (fun c16 => ?_) (fun c16 => ?_)
        · have c16 : ¬ q % 2 = 1 := fun e => c16 (by rw [e])
          refine z_iload_n C d_S_inverse_27 rfl rfl ?_
          refine z_iload_n C d_S_inverse_28 rfl rfl ?_
          refine z_imul C d_S_inverse_29 ?_
          refine z_sipush (v := 10007) C d_S_inverse_30 (by decide) ?_
          refine z_irem C d_S_inverse_33 (by decide) ?_
          refine z_top (y := nI (s * s % 10007)) (nI_mm h4 h4) ?_
          refine z_istore_n (L' := [(0, .int (fI c)), (1, .int (nI r)), (2, .int (nI (s * s % 10007))), (3, .int (nI q))]) C d_S_inverse_34 rfl (by decide) rfl ?_
          refine z_iload_n C d_S_inverse_35 rfl rfl ?_
          refine z_iconst (v := nI 2) C d_S_inverse_36 (by decide) ?_
          refine z_idiv C d_S_inverse_37 (by decide) ?_
          refine z_top (y := nI (q / 2)) (pk_div (by omega) (by decide) (by decide)) ?_
          refine z_istore_n (L' := [(0, .int (fI c)), (1, .int (nI r)), (2, .int (nI (s * s % 10007))), (3, .int (nI (q / 2)))]) C d_S_inverse_38 rfl (by decide) rfl ?_
          refine z_goto (tgt := 8) C d_S_inverse_39 (by decide) ?_
          exact ih (q / 2) _ _ (by rw [Nat.pow_succ] at h1; omega) (by omega) h3 (Nat.mod_lt _ (by decide)) (by rw [← h5, fi_turn c9, if_neg c16])
        · have c16 : q % 2 = 1 := (nI_eq (by omega) (by decide)).mp c16
          refine z_iload_n C d_S_inverse_19 rfl rfl ?_
          refine z_iload_n C d_S_inverse_20 rfl rfl ?_
          refine z_imul C d_S_inverse_21 ?_
          refine z_sipush (v := 10007) C d_S_inverse_22 (by decide) ?_
          refine z_irem C d_S_inverse_25 (by decide) ?_
          refine z_top (y := nI (r * s % 10007)) (nI_mm h3 h4) ?_
          refine z_istore_n (L' := [(0, .int (fI c)), (1, .int (nI (r * s % 10007))), (2, .int (nI s)), (3, .int (nI q))]) C d_S_inverse_26 rfl (by decide) rfl ?_
          refine z_iload_n C d_S_inverse_27 rfl rfl ?_
          refine z_iload_n C d_S_inverse_28 rfl rfl ?_
          refine z_imul C d_S_inverse_29 ?_
          refine z_sipush (v := 10007) C d_S_inverse_30 (by decide) ?_
          refine z_irem C d_S_inverse_33 (by decide) ?_
          refine z_top (y := nI (s * s % 10007)) (nI_mm h4 h4) ?_
          refine z_istore_n (L' := [(0, .int (fI c)), (1, .int (nI (r * s % 10007))), (2, .int (nI (s * s % 10007))), (3, .int (nI q))]) C d_S_inverse_34 rfl (by decide) rfl ?_
          refine z_iload_n C d_S_inverse_35 rfl rfl ?_
          refine z_iconst (v := nI 2) C d_S_inverse_36 (by decide) ?_
          refine z_idiv C d_S_inverse_37 (by decide) ?_
          refine z_top (y := nI (q / 2)) (pk_div (by omega) (by decide) (by decide)) ?_
          refine z_istore_n (L' := [(0, .int (fI c)), (1, .int (nI (r * s % 10007))), (2, .int (nI (s * s % 10007))), (3, .int (nI (q / 2)))]) C d_S_inverse_38 rfl (by decide) rfl ?_
          refine z_goto (tgt := 8) C d_S_inverse_39 (by decide) ?_
          exact ih (q / 2) _ _ (by rw [Nat.pow_succ] at h1; omega) (by omega) (Nat.mod_lt _ (by decide)) (Nat.mod_lt _ (by decide)) (by rw [← h5, fi_turn c9, if_pos c16])
  show Z X E 4 _ 0 0 sz M 0 [(0, .int (fI c))] []
  refine z_iconst (v := nI 1) C d_S_inverse_0 (by decide) ?_
  refine z_istore_n (L' := [(0, .int (fI c)), (1, .int (nI 1))]) C d_S_inverse_1 rfl (by decide) rfl ?_
  refine z_iload_n C d_S_inverse_2 rfl rfl ?_
  refine z_istore_n (L' := [(0, .int (fI c)), (1, .int (nI 1)), (2, .int (fI c))]) C d_S_inverse_3 rfl (by decide) rfl ?_
  refine z_sipush (v := nI 10005) C d_S_inverse_4 (by decide) ?_
  refine z_istore_n (L' := [(0, .int (fI c)), (1, .int (nI 1)), (2, .int (fI c)), (3, .int (nI 10005))]) C d_S_inverse_7 rfl (by decide) rfl ?_
  exact loop 14 10005 1 c.val (by decide) (by decide) (by decide) c.isLt rfl
theorem zp_eq {E : zE} {M : zM} {a n k m : Nat} {P : PS} (h : zp E M a n k P) (hz : ∀ i, m < i → P i = 0) (hm : P m ≠ 0) : k = m + 1 := by
  have h1 := zp_le h (m := m + 1) (fun i hi => hz i hi)
  rcases Nat.lt_or_ge m k with q | q
  · omega
  · exact absurd ((zp_pol h).1 m q) hm
theorem ps_0e {P : PS} (h : ∀ i, P i = 0) : P = ps_0 := by
  funext i
  exact h i
theorem ps_Ce {P : PS} (h : ∀ i, 1 ≤ i → P i = 0) : P = ps_C (P 0) := by
  funext i
  by_cases hi : i = 0
  · subst hi; simp [ps_C]
  · rw [h i (by omega)]; simp [ps_C, hi]
theorem rep_pol9 {E : zE} {M : zM} {a n k : Nat} {P : PS} (h : zp E M a n k P) : pol P := ⟨k, (zp_pol h).1⟩
/-- what Euclid's way leaves -/
def gcdR (N D : PS) (kg : Nat) (G : PS) : Prop := (kg ≤ 1 ∧ cop N D) ∨ (2 ≤ kg ∧ G (kg - 1) = 1 ∧ ∃ o u : PS, pol o ∧ pol u ∧ N = ps_mul o G ∧ D = ps_mul u G ∧ cop o u)
set_option maxHeartbeats 4000000 in
/-- Workshop.commonDivisor -/
theorem w_gcd (E : zE) (l : Launch) (sz : Nat) (M : zM) {w kn kd : Nat} {N D : PS} (hw : zsh E M w kn kd N D) (hkn : 1 ≤ kn) (hkd : 1 ≤ kd) : zMet E l y_W_commonDivisor c_W_commonDivisor 5 (some (FieldType.object "RationalSession$Polynomial")) { frames := 2, cells := 0, slots := 0, locals := 48 } 0 0 [.ref w] sz M (fun v s M' => sz = s ∧ zoutR M M' (w + 9) (w + 15) ∧ (∃ k P, zp E M' (w + 9) 25 k P) ∧ (∃ k P, zp E M' (w + 11) 25 k P) ∧ (∃ k P, zp E M' (w + 13) 25 k P) ∧ ∃ g : Nat, some (.ref g) = v ∧ (g = w + 9 ∨ g = w + 11) ∧ ∃ kg G, zp E M' g 25 kg G ∧ gcdR N D kg G) := by
  obtain ⟨hw0, hw1, hw3, ⟨kw5, Pw5, hw5⟩, ⟨kw7, Pw7, hw7⟩, ⟨kw9, Pw9, hw9⟩, ⟨kw11, Pw11, hw11⟩, ⟨kw13, Pw13, hw13⟩⟩ := id hw
  have b1 := zp_lt hw1
  have b3 := zp_lt hw3
  refine zMet.ofZ (by decide) (Nat.le_of_ble_eq_true rfl) ?_
  intro X hl hini C
  have fin : ∀ (i a b : Nat) (M1 : zM) (kl kr kq : Nat) (Lp Rp Qp : PS), (a = w + 9 ∧ b = w + 11 ∨ a = w + 11 ∧ b = w + 9) → M1 w = some (.inr (9, [.ref (w + 1), .ref (w + 3), .ref (w + 5), .ref (w + 7), .ref (w + 9), .ref (w + 11), .ref (w + 13)])) → zp E M1 a 25 kl Lp → zp E M1 b 25 kr Rp → zp E M1 (w + 13) 25 kq Qp → zoutR M M1 (w + 9) (w + 15) → span Lp Rp N D → span N D Lp Rp → 1 ≤ kl → (i = 0 ∧ 1 ≤ kr ∨ 2 ≤ kl ∧ Lp (kl - 1) = 1) → kr ≤ 1 → Z X E 5 (zQ X E 0 0 (fun v s M' => sz = s ∧ zoutR M M' (w + 9) (w + 15) ∧ (∃ k P, zp E M' (w + 9) 25 k P) ∧ (∃ k P, zp E M' (w + 11) 25 k P) ∧ (∃ k P, zp E M' (w + 13) 25 k P) ∧ ∃ g : Nat, some (.ref g) = v ∧ (g = w + 9 ∨ g = w + 11) ∧ ∃ kg G, zp E M' g 25 kg G ∧ gcdR N D kg G)) 0 0 sz M1 75 [(0, .ref w), (1, .ref a), (2, .ref b), (3, .int (nI i))] [] := by
    intro i a b M1 kl kr kq Lp Rp Qp hab g0 ga gb gq hfr s1 s2 hkl hmon hkr
    have e9 : (∃ k P, zp E M1 (w + 9) 25 k P) ∧ ∃ k P, zp E M1 (w + 11) 25 k P := by
      rcases hab with ⟨rfl, rfl⟩ | ⟨rfl, rfl⟩
      · exact ⟨⟨_, _, ga⟩, ⟨_, _, gb⟩⟩
      · exact ⟨⟨_, _, gb⟩, ⟨_, _, ga⟩⟩
    have ea : a = w + 9 ∨ a = w + 11 := by
      rcases hab with ⟨e, -⟩ | ⟨e, -⟩
      · exact Or.inl e
      · exact Or.inr e
    have eb : b = w + 9 ∨ b = w + 11 := by
      rcases hab with ⟨-, e⟩ | ⟨-, e⟩
      · exact Or.inr e
      · exact Or.inl e
    refine z_aload_n C d_W_commonDivisor_75 rfl rfl ?_
    refine z_callV (rest := []) (n := 0) (As := []) C (p_isZero E X.2.1 sz _ gb) ⟨z_cb C k_P_isZero ml_W_85 ii_P rfl rfl (by decide +kernel) ⟨by decide, by decide⟩, C.2.2.2.2.1 _ im_P_isZero, C.2.2.2.2.1 _ se_P_isZero⟩ (zp_c0 gb) rfl rfl rfl (Nat.le_of_ble_eq_true rfl) d_W_commonDivisor_76 ⟨by decide, by decide⟩ ?_
    intro v_76 s_76 M_76 hp_76
    obtain ⟨rfl, rfl, rfl⟩ := hp_76
    show Z _ _ _ _ _ _ _ _ 79 _ [.int (if kr = 0 then 1 else 0)]
    refine z_if_eq (tgt := 86) C d_W_commonDivisor_79 (by decide) (fun c79 => ?_) (fun c79 => ?_)
    · have c79 : kr ≠ 0 := fun q => by rw [if_pos q] at c79; exact absurd c79 (by decide)
      refine z_aload_n C d_W_commonDivisor_86 rfl rfl ?_
      have kr1 : kr = 1 := by omega
      have zr : Rp = ps_C (Rp 0) := ps_Ce (fun i hi => (zp_pol gb).1 i (by omega))
      have nz : Rp 0 ≠ 0 := (zp_pol gb).2 0 (by omega)
      rw [zr] at s1
      exact z_aret C (Or.inl ⟨_, rfl⟩) (Or.inr ⟨_, rfl⟩) ⟨rfl, hfr, e9.1, e9.2, ⟨_, _, gq⟩, b, rfl, eb, kr, Rp, gb, Or.inl ⟨hkr, span_cop (ff_inv_mul nz) s1⟩⟩ d_W_commonDivisor_87
    · have c79 : kr = 0 := by
        by_cases q : kr = 0
        · exact q
        · exact absurd (if_neg q) c79
      refine z_aload_n C d_W_commonDivisor_82 rfl rfl ?_
      refine z_goto (tgt := 87) C d_W_commonDivisor_83 (by decide) ?_
      have zr : Rp = ps_0 := ps_0e (fun i => (zp_pol gb).1 i (by omega))
      rw [zr] at s1 s2
      have hm : 2 ≤ kl ∧ Lp (kl - 1) = 1 := by
        rcases hmon with ⟨-, q⟩ | q
        · omega
        · exact q
      obtain ⟨o, u, po, pu, e1, e2, c1⟩ := span_gcd (k := kl - 1) (by rw [hm.2]; decide) s1 s2
      exact z_aret C (Or.inl ⟨_, rfl⟩) (Or.inr ⟨_, rfl⟩) ⟨rfl, hfr, e9.1, e9.2, ⟨_, _, gq⟩, a, rfl, ea, kl, Lp, ga, Or.inr ⟨hm.1, hm.2, o, u, po, pu, e1, e2, c1⟩⟩ d_W_commonDivisor_87
  have loop : ∀ (m i a b : Nat) (M1 : zM) (kl kr kq : Nat) (Lp Rp Qp : PS), i ≤ 25 → 26 ≤ i + m → (a = w + 9 ∧ b = w + 11 ∨ a = w + 11 ∧ b = w + 9) → M1 w = some (.inr (9, [.ref (w + 1), .ref (w + 3), .ref (w + 5), .ref (w + 7), .ref (w + 9), .ref (w + 11), .ref (w + 13)])) → zp E M1 a 25 kl Lp → zp E M1 b 25 kr Rp → zp E M1 (w + 13) 25 kq Qp → zoutR M M1 (w + 9) (w + 15) → span Lp Rp N D → span N D Lp Rp → 1 ≤ kl → (i = 0 ∧ 1 ≤ kr ∨ 2 ≤ kl ∧ Lp (kl - 1) = 1) → kr + i ≤ 25 → Z X E 5 (zQ X E 0 0 (fun v s M' => sz = s ∧ zoutR M M' (w + 9) (w + 15) ∧ (∃ k P, zp E M' (w + 9) 25 k P) ∧ (∃ k P, zp E M' (w + 11) 25 k P) ∧ (∃ k P, zp E M' (w + 13) 25 k P) ∧ ∃ g : Nat, some (.ref g) = v ∧ (g = w + 9 ∨ g = w + 11) ∧ ∃ kg G, zp E M' g 25 kg G ∧ gcdR N D kg G)) 0 0 sz M1 28 [(0, .ref w), (1, .ref a), (2, .ref b), (3, .int (nI i))] [] := by
    intro m
    induction m with
    | zero => intro i a b M1 kl kr kq Lp Rp Qp h1 h2; omega
    | succ m ih =>
      intro i a b M1 kl kr kq Lp Rp Qp hi hm hab g0 ga gb gq hfr s1 s2 hkl hmon hkr
      refine z_iload_n C d_W_commonDivisor_28 rfl rfl ?_
      refine z_bipush (v := nI 24) C d_W_commonDivisor_29 (by decide) ?_
      refine z_icmp_gt (tgt := 75) C d_W_commonDivisor_31 (by decide) (fun c31 => ?_) (fun c31 => ?_)
      · have c31 := (nI_ltI (by decide) (by omega)).mp c31
        exact fin i a b M1 kl kr kq Lp Rp Qp hab g0 ga gb gq hfr s1 s2 hkl hmon (by omega)
      · have c31 : i ≤ 24 := Nat.not_lt.mp (fun q => c31 ((nI_ltI (by decide) (by omega)).mpr q))
        refine z_aload_n C d_W_commonDivisor_34 rfl rfl ?_
        refine z_getN C in_P (zp_c0 gb) rfl 1 (by decide) fl_W_94 rfl rfl d_W_commonDivisor_35 ?_
        refine z_if_le (tgt := 75) C d_W_commonDivisor_38 (by decide) (fun c38 => ?_) (fun c38 => ?_)
        · have c38 := (tI_le0 (by omega)).mp c38
          exact fin i a b M1 kl kr kq Lp Rp Qp hab g0 ga gb gq hfr s1 s2 hkl hmon (by omega)
        · have c38 : 1 < kr := Nat.not_le.mp (fun q => c38 ((tI_le0 (by omega)).mpr q))
          obtain ⟨lo, hlo⟩ : ∃ lo, kr = lo + 1 := ⟨kr - 1, by omega⟩
          have nz : Rp lo ≠ 0 := (zp_pol gb).2 lo hlo
          refine z_aload_n C d_W_commonDivisor_41 rfl rfl ?_
          refine z_aload_n C d_W_commonDivisor_42 rfl rfl ?_
          refine z_callV (rest := [.ref b]) (n := 0) (As := []) C (p_lead E X.2.1 sz _ gb hlo) ⟨z_cb C k_P_lead ml_W_101 ii_P rfl rfl (by decide +kernel) ⟨by decide, by decide⟩, C.2.2.2.2.1 _ im_P_lead, C.2.2.2.2.1 _ se_P_lead⟩ (zp_c0 gb) rfl rfl rfl (Nat.le_of_ble_eq_true rfl) d_W_commonDivisor_43 ⟨by decide, by decide⟩ ?_
          intro v_43 s_43 M_43 hp_43
          obtain ⟨rfl, rfl, rfl⟩ := hp_43
          show Z _ _ _ _ _ _ _ _ 46 _ [.int (fI (Rp lo)), .ref b]
          refine z_callSN (rest := [.ref b]) (n := 1) (As := [.int (fI (Rp lo))]) C (s_inverse E X.2.1 sz _ (Rp lo)) ⟨z_cn C k_S_inverse ml_W_104 ii_S rfl rfl (by decide +kernel) ⟨by decide, by decide⟩, C.2.2.2.2.1 _ sm_S_inverse, trivial⟩ rfl rfl (Nat.le_of_ble_eq_true rfl) d_W_commonDivisor_46 ⟨by decide, by decide⟩ ?_
          intro v_46 s_46 M_46 hp_46
          obtain ⟨rfl, rfl, rfl⟩ := hp_46
          show Z _ _ _ _ _ _ _ _ 49 _ [.int (fI (ff_inv (Rp lo))), .ref b]
          refine z_callV (rest := []) (n := 1) (As := [.int (fI (ff_inv (Rp lo)))]) C (p_scale E X.2.1 sz _ gb (ff_inv (Rp lo))) ⟨z_cb C k_P_scale ml_W_58 ii_P rfl rfl (by decide +kernel) ⟨by decide, by decide⟩, C.2.2.2.2.1 _ im_P_scale, C.2.2.2.2.1 _ se_P_scale⟩ (zp_c0 gb) rfl rfl rfl (Nat.le_of_ble_eq_true rfl) d_W_commonDivisor_49 ⟨by decide, by decide⟩ ?_
          intro v_49 s_49 M_49 hp_49
          obtain ⟨rfl, rfl, ⟨k_49, hn_49⟩, ho_49⟩ := hp_49
          have hc0_49 := (ho_49 _ (by omega) (by omega)).trans g0
          have hq0_49 := zp_o ho_49 ga (by omega)
          have hq2_49 := zp_o ho_49 gq (by omega)
          show Z _ _ _ _ _ _ _ _ 52 _ []
          have lead1 : (ps_mul (ps_C (ff_inv (Rp lo))) Rp) lo = 1 := by
            simp only [ps_mul, ps_mC]; rw [ff_cm]; exact ff_inv_mul nz
          have hk2 : k_49 = lo + 1 := zp_eq hn_49 (fun i hi => by simp only [ps_mul, ps_mC, (zp_pol gb).1 i (by omega)]; grind) (by rw [lead1]; decide)
          have hb2 : zp E M_49 b 25 (lo + 1) (ps_mul (ps_C (ff_inv (Rp lo))) Rp) := hk2 ▸ hn_49
          refine z_aload_n C d_W_commonDivisor_52 rfl rfl ?_
          refine z_aload_n C d_W_commonDivisor_53 rfl rfl ?_
          refine z_aload_n C d_W_commonDivisor_54 rfl rfl ?_
          refine z_get C in_W hc0_49 rfl 6 (by decide) fl_W_35 rfl rfl d_W_commonDivisor_55 ?_
          refine z_callV (rest := []) (n := 2) (As := [.ref b, .ref (w + 13)]) C (p_divideBy (lo := lo) E X.2.1 sz _ hq0_49 hb2 hq2_49 lead1 (by omega) (by omega) (by omega) (by have := zp_lt hq0_49; omega)) ⟨z_cb C k_P_divideBy ml_W_98 ii_P rfl rfl (by decide +kernel) ⟨by decide, by decide⟩, C.2.2.2.2.1 _ im_P_divideBy, C.2.2.2.2.1 _ se_P_divideBy⟩ (zp_c0 hq0_49) rfl rfl rfl (Nat.le_of_ble_eq_true rfl) d_W_commonDivisor_58 ⟨by decide, by decide⟩ ?_
          intro v_58 s_58 M_58 hp_58
          obtain ⟨rfl, rfl, Q9, R9, kr9, kq9, hA9, hR9, ha9, hq9, hf9⟩ := hp_58
          have hb9 := zp_kept hb2 (hf9 _ (by omega) (by omega) (by omega) (by omega)) (hf9 _ (by omega) (by omega) (by omega) (by omega))
          have hc9 := (hf9 _ (by omega) (by omega) (by omega) (by omega)).trans hc0_49
          have hfr9 : zoutR M M_58 (w + 9) (w + 15) := fun q hq => (hf9 q (by omega) (by omega) (by omega) (by omega)).trans ((ho_49 q (by omega) (by omega)).trans (hfr q hq))
          have pq := rep_pol9 hq9
          show Z _ _ _ _ _ _ _ _ 61 _ []
          refine z_aload_n C d_W_commonDivisor_61 rfl rfl ?_
          refine z_astore (L' := [(0, .ref w), (1, .ref a), (2, .ref b), (3, .int (nI i)), (4, .ref a)]) C d_W_commonDivisor_62 (by decide) rfl ?_
          refine z_aload_n C d_W_commonDivisor_64 rfl rfl ?_
          refine z_astore_n (L' := [(0, .ref w), (1, .ref b), (2, .ref b), (3, .int (nI i)), (4, .ref a)]) C d_W_commonDivisor_65 rfl (by decide) rfl ?_
          refine z_aload C d_W_commonDivisor_66 rfl ?_
          refine z_astore_n (L' := [(0, .ref w), (1, .ref b), (2, .ref a), (3, .int (nI i)), (4, .ref a)]) C d_W_commonDivisor_68 rfl (by decide) rfl ?_
          refine z_iinc (v := nI (i + 1)) (L' := [(0, .ref w), (1, .ref b), (2, .ref a), (3, .int (nI (i + 1))), (4, .ref a)]) C d_W_commonDivisor_69 rfl (nI_1 i) (by decide) rfl ?_
          refine z_goto (tgt := 28) C d_W_commonDivisor_72 (by decide) ?_
          refine z_sub [0, 1, 2, 3] rfl ?_
          have q1 := span_sc Lp Rp (c := ff_inv (Rp lo)) (c' := Rp lo) (by have := ff_inv_mul nz; grind)
          have q2 := span_md (rep_pol9 hq9) hA9
          exact ih (i + 1) b a _ _ _ _ _ _ _ (by omega) (by omega) (by omega) hc9 hb9 ha9 hq9 hfr9 (span_tr (span_sw _ _) (span_tr q2.1 (span_tr q1.1 s1))) (span_tr s2 (span_tr q1.2 (span_tr q2.2 (span_sw _ _)))) (by omega) (Or.inr ⟨by omega, lead1⟩) (by have := zp_le ha9 (m := lo) hR9; omega)
  show Z X E 5 _ 0 0 sz M 0 [(0, .ref w)] []
  refine z_aload_n C d_W_commonDivisor_0 rfl rfl ?_
  refine z_get C in_W hw0 rfl 4 (by decide) fl_W_29 rfl rfl d_W_commonDivisor_1 ?_
  refine z_astore_n (L' := [(0, .ref w), (1, .ref (w + 9))]) C d_W_commonDivisor_4 rfl (by decide) rfl ?_
  refine z_aload_n C d_W_commonDivisor_5 rfl rfl ?_
  refine z_get C in_W hw0 rfl 5 (by decide) fl_W_32 rfl rfl d_W_commonDivisor_6 ?_
  refine z_astore_n (L' := [(0, .ref w), (1, .ref (w + 9)), (2, .ref (w + 11))]) C d_W_commonDivisor_9 rfl (by decide) rfl ?_
  refine z_aload_n C d_W_commonDivisor_10 rfl rfl ?_
  refine z_aload_n C d_W_commonDivisor_11 rfl rfl ?_
  refine z_get C in_W hw0 rfl 0 (by decide) fl_W_16 rfl rfl d_W_commonDivisor_12 ?_
  refine z_callV (rest := []) (n := 1) (As := [.ref (w + 1)]) C (p_copy E X.2.1 sz _ hw9 hw1 (by omega) (by have := zp_lt hw1; omega)) ⟨z_cb C k_P_copy ml_W_54 ii_P rfl rfl (by decide +kernel) ⟨by decide, by decide⟩, C.2.2.2.2.1 _ im_P_copy, C.2.2.2.2.1 _ se_P_copy⟩ (zp_c0 hw9) rfl rfl rfl (Nat.le_of_ble_eq_true rfl) d_W_commonDivisor_15 ⟨by decide, by decide⟩ ?_
  intro v_15 s_15 M_15 hp_15
  obtain ⟨rfl, rfl, hn_15, ho_15⟩ := hp_15
  have hc0_15 := (ho_15 _ (by omega) (by omega)).trans hw0
  have hq1_15 := zp_o ho_15 hw11 (by omega)
  have hq2_15 := zp_o ho_15 hw13 (by omega)
  have hq3_15 := zp_o ho_15 hw1 (by omega)
  have hq4_15 := zp_o ho_15 hw3 (by omega)
  show Z _ _ _ _ _ _ _ _ 18 _ []
  refine z_aload_n C d_W_commonDivisor_18 rfl rfl ?_
  refine z_aload_n C d_W_commonDivisor_19 rfl rfl ?_
  refine z_get C in_W hc0_15 rfl 1 (by decide) fl_W_20 rfl rfl d_W_commonDivisor_20 ?_
  refine z_callV (rest := []) (n := 1) (As := [.ref (w + 3)]) C (p_copy E X.2.1 sz _ hq1_15 hq4_15 (by omega) (by have := zp_lt hq4_15; omega)) ⟨z_cb C k_P_copy ml_W_54 ii_P rfl rfl (by decide +kernel) ⟨by decide, by decide⟩, C.2.2.2.2.1 _ im_P_copy, C.2.2.2.2.1 _ se_P_copy⟩ (zp_c0 hq1_15) rfl rfl rfl (Nat.le_of_ble_eq_true rfl) d_W_commonDivisor_23 ⟨by decide, by decide⟩ ?_
  intro v_23 s_23 M_23 hp_23
  obtain ⟨rfl, rfl, hn_23, ho_23⟩ := hp_23
  have hc0_23 := (ho_23 _ (by omega) (by omega)).trans hc0_15
  have hq0_23 := zp_o ho_23 hn_15 (by omega)
  have hq2_23 := zp_o ho_23 hq2_15 (by omega)
  have hq3_23 := zp_o ho_23 hq3_15 (by omega)
  have hq4_23 := zp_o ho_23 hq4_15 (by omega)
  show Z _ _ _ _ _ _ _ _ 26 _ []
  refine z_iconst (v := nI 0) C d_W_commonDivisor_26 (by decide) ?_
  refine z_istore_n (L' := [(0, .ref w), (1, .ref (w + 9)), (2, .ref (w + 11)), (3, .int (nI 0))]) C d_W_commonDivisor_27 rfl (by decide) rfl ?_
  exact loop 26 0 (w + 9) (w + 11) _ _ _ _ _ _ _ (by omega) (by omega) (Or.inl ⟨rfl, rfl⟩) hc0_23 hq0_23 hn_23 hq2_23 (zoutR_tr (zoutR_tr zoutR_rf (zout_R ho_15 (by omega) (by omega))) (zout_R ho_23 (by omega) (by omega))) (span_rf _ _) (span_rf _ _) hkn (Or.inl ⟨rfl, hkd⟩) (by omega)
