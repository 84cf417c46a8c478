set_option maxHeartbeats 4000000 in
/-- Workshop.settle -/
theorem w_settle (E : zE) (l : Launch) (sz : Nat) (M : zM) {w kn kd : Nat} {N D : PS} (hw : zsh E M w kn kd N D) (hkd : 1 ≤ kd) {q1 kn1 kd1 : Nat} {N1 D1 : PS} (h1 : zf E M q1 kn1 kd1 N1 D1) (a1 : q1 + 5 ≤ w ∨ w + 15 ≤ q1) : zMet E l y_W_settle c_W_settle 4 (some .int) { frames := 3, cells := 0, slots := 0, locals := 72 } 0 0 [.ref w, .ref q1] sz M (fun v s M' => sz = s ∧ (∃ x y A B, zsh E M' w x y A B) ∧ (∀ x, (x < w + 1 ∨ w + 15 ≤ x) → (x < q1 + 1 ∨ q1 + 5 ≤ x) → M' x = M x) ∧ ∃ n d, formof N D n d ∧ ((some (.int (-6)) = v ∧ ((∃ i, 12 < i ∧ n i ≠ 0) ∨ (∃ i, 12 < i ∧ d i ≠ 0)) ∧ zoutR M M' (w + 1) (w + 15)) ∨ (some (.int 0) = v ∧ ∃ a b, zf E M' q1 a b n d))) := by
  obtain ⟨hw0, hw1, hw3, ⟨kw5, Pw5, hw5⟩, ⟨kw7, Pw7, hw7⟩, ⟨kw9, Pw9, hw9⟩, ⟨kw11, Pw11, hw11⟩, ⟨kw13, Pw13, hw13⟩⟩ := id hw
  have b1 := zp_lt hw1
  have b3 := zp_lt hw3
  refine zMet.ofZ (by decide) (Nat.le_of_ble_eq_true rfl) ?_
  intro X hl hini C
  have hw3o := hw3
  have tail : ∀ (M1 : zM) (ko ku : Nat) (o u x : PS), zsh E M1 w ko ku o u → zf E M1 q1 kn1 kd1 N1 D1 → zoutR M M1 (w + 1) (w + 15) → pol o → pol u → N = ps_mul o x → D = ps_mul u x → cop o u → Z X E 4 (zQ X E 0 0 (fun v s M' => sz = s ∧ (∃ x y A B, zsh E M' w x y A B) ∧ (∀ x, (x < w + 1 ∨ w + 15 ≤ x) → (x < q1 + 1 ∨ q1 + 5 ≤ x) → M' x = M x) ∧ ∃ n d, formof N D n d ∧ ((some (.int (-6)) = v ∧ ((∃ i, 12 < i ∧ n i ≠ 0) ∨ (∃ i, 12 < i ∧ d i ≠ 0)) ∧ zoutR M M' (w + 1) (w + 15)) ∨ (some (.int 0) = v ∧ ∃ a b, zf E M' q1 a b n d)))) 0 0 sz M1 75 [(0, .ref w), (1, .ref q1)] [] := by
    intro M1 ko ku o u x hw' hf hfr po pu eN eD hcop
    obtain ⟨hw0, hw1, hw3, ⟨kw5, Pw5, hw5⟩, ⟨kw7, Pw7, hw7⟩, ⟨kw9, Pw9, hw9⟩, ⟨kw11, Pw11, hw11⟩, ⟨kw13, Pw13, hw13⟩⟩ := id hw'
    have c1 := zp_lt hw1
    have c3 := zp_lt hw3
    have hku : 1 ≤ ku := by
      rcases Nat.eq_zero_or_pos ku with q | q
      · exfalso
        apply (zp_pol hw3o).2 (kd - 1) (by omega)
        rw [eD]
        exact ps_m0 (fun i => (zp_pol hw3).1 i (by omega))
      · exact q
    obtain ⟨m, hm⟩ : ∃ m, ku = m + 1 := ⟨ku - 1, by omega⟩
    have nz : u m ≠ 0 := (zp_pol hw3).2 m hm
    have ncz : ff_inv (u m) ≠ 0 := fun q => by have := ff_inv_mul nz; rw [q] at this; exact absurd this (by grind)
    have hform := formof_sc (c := ff_inv (u m)) (c' := u m) (k := m) (by have := ff_inv_mul nz; grind) eN eD po pu hcop ⟨nz, fun i hi => (zp_pol hw3).1 i (by omega)⟩ rfl
    refine z_aload_n C d_W_settle_75 rfl rfl ?_
    refine z_get C in_W hw0 rfl 0 (by decide) fl_W_16 rfl rfl d_W_settle_76 ?_
    refine z_getN C in_P (zp_c0 hw1) rfl 1 (by decide) fl_W_94 rfl rfl d_W_settle_79 ?_
    refine z_bipush (v := nI 12) C d_W_settle_82 (by decide) ?_
    refine z_icmp_gt (tgt := 99) C d_W_settle_84 (by decide) (fun c84 => ?_) (fun c84 => ?_)
    · have c84 := (tI_ltn (by omega) (by decide)).mp c84
      have hbig : (∃ i, 12 < i ∧ ps_mul (ps_C (ff_inv (u m))) o i ≠ 0) ∨ ∃ i, 12 < i ∧ ps_mul (ps_C (ff_inv (u m))) u i ≠ 0 := Or.inl ⟨ko - 1, by omega, by simp only [ps_mul, ps_mC]; exact ff_mul_ne ncz ((zp_pol hw1).2 _ (by omega))⟩
      refine z_bipush (v := -6) C d_W_settle_99 (by decide) ?_
      exact z_iret C ⟨rfl, ⟨_, _, _, _, hw'⟩, fun z z1 _ => hfr z z1, _, _, hform, Or.inl ⟨rfl, hbig, hfr⟩⟩ d_W_settle_101
    · have c84 : ko ≤ 13 := Nat.not_lt.mp (fun q => c84 ((tI_ltn (by omega) (by decide)).mpr q))
      refine z_aload_n C d_W_settle_87 rfl rfl ?_
      refine z_get C in_W hw0 rfl 1 (by decide) fl_W_20 rfl rfl d_W_settle_88 ?_
      refine z_getN C in_P (zp_c0 hw3) rfl 1 (by decide) fl_W_94 rfl rfl d_W_settle_91 ?_
      refine z_bipush (v := nI 12) C d_W_settle_94 (by decide) ?_
      refine z_icmp_le (tgt := 102) C d_W_settle_96 (by decide) (fun c96 => ?_) (fun c96 => ?_)
      · have c96 := (tI_len (by omega) (by decide)).mp c96
        refine z_aload_n C d_W_settle_102 rfl rfl ?_
        refine z_get C in_W hw0 rfl 1 (by decide) fl_W_20 rfl rfl d_W_settle_103 ?_
        refine z_callV (rest := []) (n := 0) (As := []) C (p_lead E X.2.1 sz _ hw3 hm) ⟨z_cb C k_P_lead ml_W_101 ii_P rfl rfl (by decide +kernel) ⟨by decide, by decide⟩, C.2.2.2.2.1 _ im_P_lead, C.2.2.2.2.1 _ se_P_lead⟩ (zp_c0 hw3) rfl rfl rfl (Nat.le_of_ble_eq_true rfl) d_W_settle_106 ⟨by decide, by decide⟩ ?_
        intro v_106 s_106 M_106 hp_106
        obtain ⟨rfl, rfl, rfl⟩ := hp_106
        show Z _ _ _ _ _ _ _ _ 109 _ [.int (fI (u m))]
        refine z_callSN (rest := []) (n := 1) (As := [.int (fI (u m))]) C (s_inverse E X.2.1 sz _ (u m)) ⟨z_cn C k_S_inverse ml_W_104 ii_S rfl rfl (by decide +kernel) ⟨by decide, by decide⟩, C.2.2.2.2.1 _ sm_S_inverse, trivial⟩ rfl rfl (Nat.le_of_ble_eq_true rfl) d_W_settle_109 ⟨by decide, by decide⟩ ?_
        intro v_109 s_109 M_109 hp_109
        obtain ⟨rfl, rfl, rfl⟩ := hp_109
        show Z _ _ _ _ _ _ _ _ 112 _ [.int (fI (ff_inv (u m)))]
        refine z_istore_n (L' := [(0, .ref w), (1, .ref q1), (3, .int (fI (ff_inv (u m))))]) C d_W_settle_112 rfl (by decide) rfl ?_
        refine z_aload_n C d_W_settle_113 rfl rfl ?_
        refine z_get C in_W hw0 rfl 0 (by decide) fl_W_16 rfl rfl d_W_settle_114 ?_
        refine z_iload_n C d_W_settle_117 rfl rfl ?_
        refine z_callV (rest := []) (n := 1) (As := [.int (fI (ff_inv (u m)))]) C (p_scale E X.2.1 sz _ hw1 (ff_inv (u m))) ⟨z_cb C k_P_scale ml_W_58 ii_P rfl rfl (by decide +kernel) ⟨by decide, by decide⟩, C.2.2.2.2.1 _ im_P_scale, C.2.2.2.2.1 _ se_P_scale⟩ (zp_c0 hw1) rfl rfl rfl (Nat.le_of_ble_eq_true rfl) d_W_settle_118 ⟨by decide, by decide⟩ ?_
        intro v_118 s_118 M_118 hp_118
        obtain ⟨rfl, rfl, ⟨k_118, hn_118⟩, ho_118⟩ := hp_118
        have hc0_118 := (ho_118 _ (by omega) (by omega)).trans hw0
        have hc1_118 := (ho_118 _ (by omega) (by omega)).trans hf.1
        have hq1_118 := zp_o ho_118 hw3 (by omega)
        have hq2_118 := zp_o ho_118 hw5 (by omega)
        have hq3_118 := zp_o ho_118 hw7 (by omega)
        have hq4_118 := zp_o ho_118 hw9 (by omega)
        have hq5_118 := zp_o ho_118 hw11 (by omega)
        have hq6_118 := zp_o ho_118 hw13 (by omega)
        have hq7_118 := zp_o ho_118 hf.2.1 (by omega)
        have hq8_118 := zp_o ho_118 hf.2.2 (by omega)
        show Z _ _ _ _ _ _ _ _ 121 _ []
        refine z_aload_n C d_W_settle_121 rfl rfl ?_
        refine z_get C in_W hc0_118 rfl 1 (by decide) fl_W_20 rfl rfl d_W_settle_122 ?_
        refine z_iload_n C d_W_settle_125 rfl rfl ?_
        refine z_callV (rest := []) (n := 1) (As := [.int (fI (ff_inv (u m)))]) C (p_scale E X.2.1 sz _ hq1_118 (ff_inv (u m))) ⟨z_cb C k_P_scale ml_W_58 ii_P rfl rfl (by decide +kernel) ⟨by decide, by decide⟩, C.2.2.2.2.1 _ im_P_scale, C.2.2.2.2.1 _ se_P_scale⟩ (zp_c0 hq1_118) rfl rfl rfl (Nat.le_of_ble_eq_true rfl) d_W_settle_126 ⟨by decide, by decide⟩ ?_
        intro v_126 s_126 M_126 hp_126
        obtain ⟨rfl, rfl, ⟨k_126, hn_126⟩, ho_126⟩ := hp_126
        have hc0_126 := (ho_126 _ (by omega) (by omega)).trans hc0_118
        have hc1_126 := (ho_126 _ (by omega) (by omega)).trans hc1_118
        have hq0_126 := zp_o ho_126 hn_118 (by omega)
        have hq2_126 := zp_o ho_126 hq2_118 (by omega)
        have hq3_126 := zp_o ho_126 hq3_118 (by omega)
        have hq4_126 := zp_o ho_126 hq4_118 (by omega)
        have hq5_126 := zp_o ho_126 hq5_118 (by omega)
        have hq6_126 := zp_o ho_126 hq6_118 (by omega)
        have hq7_126 := zp_o ho_126 hq7_118 (by omega)
        have hq8_126 := zp_o ho_126 hq8_118 (by omega)
        show Z _ _ _ _ _ _ _ _ 129 _ []
        refine z_aload_n C d_W_settle_129 rfl rfl ?_
        refine z_getN C in_F hc1_126 rfl 0 (by decide) fl_W_38 rfl rfl d_W_settle_130 ?_
        refine z_aload_n C d_W_settle_133 rfl rfl ?_
        refine z_get C in_W hc0_126 rfl 0 (by decide) fl_W_16 rfl rfl d_W_settle_134 ?_
        refine z_callV (rest := []) (n := 1) (As := [.ref (w + 1)]) C (p_copy E X.2.1 sz _ hq7_126 hq0_126 (by omega) (by have := zp_le hq0_126 (m := 13) (fun i hi => by simp only [ps_mul, ps_mC, (zp_pol hw1).1 i (by omega)]; grind); omega)) ⟨z_cb C k_P_copy ml_W_54 ii_P rfl rfl (by decide +kernel) ⟨by decide, by decide⟩, C.2.2.2.2.1 _ im_P_copy, C.2.2.2.2.1 _ se_P_copy⟩ (zp_c0 hq7_126) rfl rfl rfl (Nat.le_of_ble_eq_true rfl) d_W_settle_137 ⟨by decide, by decide⟩ ?_
        intro v_137 s_137 M_137 hp_137
        obtain ⟨rfl, rfl, hn_137, ho_137⟩ := hp_137
        have hc0_137 := (ho_137 _ (by omega) (by omega)).trans hc0_126
        have hc1_137 := (ho_137 _ (by omega) (by omega)).trans hc1_126
        have hq0_137 := zp_o ho_137 hq0_126 (by omega)
        have hq1_137 := zp_o ho_137 hn_126 (by omega)
        have hq2_137 := zp_o ho_137 hq2_126 (by omega)
        have hq3_137 := zp_o ho_137 hq3_126 (by omega)
        have hq4_137 := zp_o ho_137 hq4_126 (by omega)
        have hq5_137 := zp_o ho_137 hq5_126 (by omega)
        have hq6_137 := zp_o ho_137 hq6_126 (by omega)
        have hq8_137 := zp_o ho_137 hq8_126 (by omega)
        show Z _ _ _ _ _ _ _ _ 140 _ []
        refine z_aload_n C d_W_settle_140 rfl rfl ?_
        refine z_getN C in_F hc1_137 rfl 1 (by decide) fl_W_41 rfl rfl d_W_settle_141 ?_
        refine z_aload_n C d_W_settle_144 rfl rfl ?_
        refine z_get C in_W hc0_137 rfl 1 (by decide) fl_W_20 rfl rfl d_W_settle_145 ?_
        refine z_callV (rest := []) (n := 1) (As := [.ref (w + 3)]) C (p_copy E X.2.1 sz _ hq8_137 hq1_137 (by omega) (by have := zp_le hq1_137 (m := 13) (fun i hi => by simp only [ps_mul, ps_mC, (zp_pol hw3).1 i (by omega)]; grind); omega)) ⟨z_cb C k_P_copy ml_W_54 ii_P rfl rfl (by decide +kernel) ⟨by decide, by decide⟩, C.2.2.2.2.1 _ im_P_copy, C.2.2.2.2.1 _ se_P_copy⟩ (zp_c0 hq8_137) rfl rfl rfl (Nat.le_of_ble_eq_true rfl) d_W_settle_148 ⟨by decide, by decide⟩ ?_
        intro v_148 s_148 M_148 hp_148
        obtain ⟨rfl, rfl, hn_148, ho_148⟩ := hp_148
        have hc0_148 := (ho_148 _ (by omega) (by omega)).trans hc0_137
        have hc1_148 := (ho_148 _ (by omega) (by omega)).trans hc1_137
        have hq0_148 := zp_o ho_148 hq0_137 (by omega)
        have hq1_148 := zp_o ho_148 hq1_137 (by omega)
        have hq2_148 := zp_o ho_148 hq2_137 (by omega)
        have hq3_148 := zp_o ho_148 hq3_137 (by omega)
        have hq4_148 := zp_o ho_148 hq4_137 (by omega)
        have hq5_148 := zp_o ho_148 hq5_137 (by omega)
        have hq6_148 := zp_o ho_148 hq6_137 (by omega)
        have hq7_148 := zp_o ho_148 hn_137 (by omega)
        show Z _ _ _ _ _ _ _ _ 151 _ []
        refine z_iconst (v := 0) C d_W_settle_151 (by decide) ?_
        exact z_iret C ⟨rfl, ⟨_, _, _, _, ⟨hc0_148, hq0_148, hq1_148, ⟨_, _, hq2_148⟩, ⟨_, _, hq3_148⟩, ⟨_, _, hq4_148⟩, ⟨_, _, hq5_148⟩, ⟨_, _, hq6_148⟩⟩⟩, fun z z1 z2 => (ho_148 z (by omega) (by omega)).trans ((ho_137 z (by omega) (by omega)).trans ((ho_126 z (by omega) (by omega)).trans ((ho_118 z (by omega) (by omega)).trans (hfr z z1)))), _, _, hform, Or.inr ⟨rfl, _, _, hc1_148, hq7_148, hn_148⟩⟩ d_W_settle_152
      · have c96 : 13 < ku := Nat.not_le.mp (fun q => c96 ((tI_len (by omega) (by decide)).mpr q))
        have hbig : (∃ i, 12 < i ∧ ps_mul (ps_C (ff_inv (u m))) o i ≠ 0) ∨ ∃ i, 12 < i ∧ ps_mul (ps_C (ff_inv (u m))) u i ≠ 0 := Or.inr ⟨ku - 1, by omega, by simp only [ps_mul, ps_mC]; exact ff_mul_ne ncz ((zp_pol hw3).2 _ (by omega))⟩
        refine z_bipush (v := -6) C d_W_settle_99 (by decide) ?_
        exact z_iret C ⟨rfl, ⟨_, _, _, _, hw'⟩, fun z z1 _ => hfr z z1, _, _, hform, Or.inl ⟨rfl, hbig, hfr⟩⟩ d_W_settle_101
  show Z X E 4 _ 0 0 sz M 0 [(0, .ref w), (1, .ref q1)] []
  refine z_aload_n C d_W_settle_0 rfl rfl ?_
  refine z_get C in_W hw0 rfl 0 (by decide) fl_W_16 rfl rfl d_W_settle_1 ?_
  refine z_callV (rest := []) (n := 0) (As := []) C (p_isZero E X.2.1 sz _ hw1) ⟨z_cb C k_P_isZero ml_W_85 ii_P rfl rfl (by decide +kernel) ⟨by decide, by decide⟩, C.2.2.2.2.1 _ im_P_isZero, C.2.2.2.2.1 _ se_P_isZero⟩ (zp_c0 hw1) rfl rfl rfl (Nat.le_of_ble_eq_true rfl) d_W_settle_4 ⟨by decide, by decide⟩ ?_
  intro v_4 s_4 M_4 hp_4
  obtain ⟨rfl, rfl, rfl⟩ := hp_4
  show Z _ _ _ _ _ _ _ _ 7 _ [.int (if kn = 0 then 1 else 0)]
  refine z_if_eq (tgt := 17) C d_W_settle_7 (by decide) (fun c7 => ?_) (fun c7 => ?_)
  · have c7 : kn ≠ 0 := fun q => by rw [if_pos q] at c7; exact absurd c7 (by decide)
    refine z_aload_n C d_W_settle_17 rfl rfl ?_
    refine z_callV (rest := []) (n := 0) (As := []) C (w_gcd E X.2.1 sz _ hw (by omega) hkd) ⟨z_cb C k_W_commonDivisor ml_W_90 ii_W rfl rfl (by decide +kernel) ⟨by decide, by decide⟩, C.2.2.2.2.1 _ im_W_commonDivisor, C.2.2.2.2.1 _ se_W_commonDivisor⟩ hw0 rfl rfl rfl (Nat.le_of_ble_eq_true rfl) d_W_settle_18 ⟨by decide, by decide⟩ ?_
    intro v_18 s_18 M_18 hp_18
    obtain ⟨rfl, hfr18, ⟨k9, P9, h9⟩, ⟨k11, P11, h11⟩, ⟨k13, P13, h13⟩, g, rfl, eg, kg, G, hg, hG⟩ := hp_18
    have cw18 := (hfr18 w (by omega)).trans hw0
    have cq18 := (hfr18 q1 (by omega)).trans h1.1
    have p1_18 := zp_oR hfr18 hw1 (by omega)
    have p3_18 := zp_oR hfr18 hw3 (by omega)
    have p5_18 := zp_oR hfr18 hw5 (by omega)
    have p7_18 := zp_oR hfr18 hw7 (by omega)
    have f1_18 := zp_oR hfr18 h1.2.1 (by omega)
    have f3_18 := zp_oR hfr18 h1.2.2 (by omega)
    have bg := zp_lt hg
    have hfr : zoutR M M_18 (w + 1) (w + 15) := zoutR_w hfr18 (by omega) (by omega)
    show Z _ _ _ _ _ _ _ _ 21 _ [.ref g]
    refine z_astore_n (L' := [(0, .ref w), (1, .ref q1), (2, .ref g)]) C d_W_settle_21 rfl (by decide) rfl ?_
    refine z_aload_n C d_W_settle_22 rfl rfl ?_
    refine z_getN C in_P (zp_c0 hg) rfl 1 (by decide) fl_W_94 rfl rfl d_W_settle_23 ?_
    refine z_if_le (tgt := 75) C d_W_settle_26 (by decide) (fun c26 => ?_) (fun c26 => ?_)
    · have c26 := (tI_le0 (by omega)).mp c26
      have hcp : cop N D := by
        rcases hG with q | q
        · exact q.2
        · exact absurd q.1 (by omega)
      refine z_sub [0, 1] rfl ?_
      exact tail _ _ _ _ _ (ps_C 1) ⟨cw18, p1_18, p3_18, ⟨_, _, p5_18⟩, ⟨_, _, p7_18⟩, ⟨_, _, h9⟩, ⟨_, _, h11⟩, ⟨_, _, h13⟩⟩ ⟨cq18, f1_18, f3_18⟩ (hfr) (rep_pol9 hw1) (rep_pol9 hw3) (ps_mul1 N) (ps_mul1 D) hcp
    · have c26 : 1 < kg := Nat.not_le.mp (fun q => c26 ((tI_le0 (by omega)).mpr q))
      obtain ⟨-, hG1, o, u, po, pu, eo, eu, hcp⟩ : 2 ≤ kg ∧ G (kg - 1) = 1 ∧ ∃ o u : PS, pol o ∧ pol u ∧ N = ps_mul o G ∧ D = ps_mul u G ∧ cop o u := by
        rcases hG with q | q
        · exact absurd q.1 (by omega)
        · exact q
      obtain ⟨lo, hlo⟩ : ∃ lo, kg = lo + 1 := ⟨kg - 1, by omega⟩
      rw [show kg - 1 = lo by omega] at hG1
      refine z_aload_n C d_W_settle_29 rfl rfl ?_
      refine z_get C in_W cw18 rfl 0 (by decide) fl_W_16 rfl rfl d_W_settle_30 ?_
      refine z_aload_n C d_W_settle_33 rfl rfl ?_
      refine z_aload_n C d_W_settle_34 rfl rfl ?_
      refine z_get C in_W cw18 rfl 6 (by decide) fl_W_35 rfl rfl d_W_settle_35 ?_
      refine z_callV (rest := []) (n := 2) (As := [.ref g, .ref (w + 13)]) C (p_divideBy (lo := lo) E X.2.1 sz _ p1_18 (hlo ▸ hg) h13 hG1 (by omega) (by omega) (by omega) (by have := zp_lt p1_18; omega)) ⟨z_cb C k_P_divideBy ml_W_98 ii_P rfl rfl (by decide +kernel) ⟨by decide, by decide⟩, C.2.2.2.2.1 _ im_P_divideBy, C.2.2.2.2.1 _ se_P_divideBy⟩ (zp_c0 p1_18) rfl rfl rfl (Nat.le_of_ble_eq_true rfl) d_W_settle_38 ⟨by decide, by decide⟩ ?_
      intro v_38 s_38 M_38 hp_38
      obtain ⟨rfl, rfl, Q_38, R_38, kr_38, kq_38, hA_38, hR_38, hr_38, hq_38, hf_38⟩ := hp_38
      obtain ⟨rfl, eR_38⟩ := dv_exact po (rep_pol9 hq_38) (fun j hj => (zp_pol hg).1 j (by omega)) hG1 eo hA_38 hR_38
      have hc0_38 := (hf_38 _ (by omega) (by omega) (by omega) (by omega)).trans cw18
      have hc1_38 := (hf_38 _ (by omega) (by omega) (by omega) (by omega)).trans cq18
      have hq1_38 := zp_kept p3_18 (hf_38 _ (by omega) (by omega) (by omega) (by omega)) (hf_38 _ (by omega) (by omega) (by omega) (by omega))
      have hq2_38 := zp_kept p5_18 (hf_38 _ (by omega) (by omega) (by omega) (by omega)) (hf_38 _ (by omega) (by omega) (by omega) (by omega))
      have hq3_38 := zp_kept p7_18 (hf_38 _ (by omega) (by omega) (by omega) (by omega)) (hf_38 _ (by omega) (by omega) (by omega) (by omega))
      have hq4_38 := zp_kept h9 (hf_38 _ (by omega) (by omega) (by omega) (by omega)) (hf_38 _ (by omega) (by omega) (by omega) (by omega))
      have hq5_38 := zp_kept h11 (hf_38 _ (by omega) (by omega) (by omega) (by omega)) (hf_38 _ (by omega) (by omega) (by omega) (by omega))
      have hq7_38 := zp_kept f1_18 (hf_38 _ (by omega) (by omega) (by omega) (by omega)) (hf_38 _ (by omega) (by omega) (by omega) (by omega))
      have hq8_38 := zp_kept f3_18 (hf_38 _ (by omega) (by omega) (by omega) (by omega)) (hf_38 _ (by omega) (by omega) (by omega) (by omega))
      have hq9_38 := zp_kept hg (hf_38 _ (by omega) (by omega) (by omega) (by omega)) (hf_38 _ (by omega) (by omega) (by omega) (by omega))
      have hR2_38 : zoutR M_18 M_38 (w + 1) (w + 15) := fun z hz => hf_38 z (by omega) (by omega) (by omega) (by omega)
      show Z _ _ _ _ _ _ _ _ 41 _ []
      refine z_aload_n C d_W_settle_41 rfl rfl ?_
      refine z_get C in_W hc0_38 rfl 0 (by decide) fl_W_16 rfl rfl d_W_settle_42 ?_
      refine z_aload_n C d_W_settle_45 rfl rfl ?_
      refine z_get C in_W hc0_38 rfl 6 (by decide) fl_W_35 rfl rfl d_W_settle_46 ?_
      refine z_callV (rest := []) (n := 1) (As := [.ref (w + 13)]) C (p_copy E X.2.1 sz _ hr_38 hq_38 (by omega) (by have := zp_lt hq_38; omega)) ⟨z_cb C k_P_copy ml_W_54 ii_P rfl rfl (by decide +kernel) ⟨by decide, by decide⟩, C.2.2.2.2.1 _ im_P_copy, C.2.2.2.2.1 _ se_P_copy⟩ (zp_c0 hr_38) rfl rfl rfl (Nat.le_of_ble_eq_true rfl) d_W_settle_49 ⟨by decide, by decide⟩ ?_
      intro v_49 s_49 M_49 hp_49
      obtain ⟨rfl, rfl, hn_49, ho_49⟩ := hp_49
      have hc0_49 := (ho_49 _ (by omega) (by omega)).trans hc0_38
      have hc1_49 := (ho_49 _ (by omega) (by omega)).trans hc1_38
      have hq1_49 := zp_o ho_49 hq1_38 (by omega)
      have hq2_49 := zp_o ho_49 hq2_38 (by omega)
      have hq3_49 := zp_o ho_49 hq3_38 (by omega)
      have hq4_49 := zp_o ho_49 hq4_38 (by omega)
      have hq5_49 := zp_o ho_49 hq5_38 (by omega)
      have hq6_49 := zp_o ho_49 hq_38 (by omega)
      have hq7_49 := zp_o ho_49 hq7_38 (by omega)
      have hq8_49 := zp_o ho_49 hq8_38 (by omega)
      have hq9_49 := zp_o ho_49 hq9_38 (by omega)
      show Z _ _ _ _ _ _ _ _ 52 _ []
      refine z_aload_n C d_W_settle_52 rfl rfl ?_
      refine z_get C in_W hc0_49 rfl 1 (by decide) fl_W_20 rfl rfl d_W_settle_53 ?_
      refine z_aload_n C d_W_settle_56 rfl rfl ?_
      refine z_aload_n C d_W_settle_57 rfl rfl ?_
      refine z_get C in_W hc0_49 rfl 6 (by decide) fl_W_35 rfl rfl d_W_settle_58 ?_
      refine z_callV (rest := []) (n := 2) (As := [.ref g, .ref (w + 13)]) C (p_divideBy (lo := lo) E X.2.1 sz _ hq1_49 (hlo ▸ hq9_49) hq6_49 hG1 (by omega) (by omega) (by omega) (by have := zp_lt hq1_49; omega)) ⟨z_cb C k_P_divideBy ml_W_98 ii_P rfl rfl (by decide +kernel) ⟨by decide, by decide⟩, C.2.2.2.2.1 _ im_P_divideBy, C.2.2.2.2.1 _ se_P_divideBy⟩ (zp_c0 hq1_49) rfl rfl rfl (Nat.le_of_ble_eq_true rfl) d_W_settle_61 ⟨by decide, by decide⟩ ?_
      intro v_61 s_61 M_61 hp_61
      obtain ⟨rfl, rfl, Q_61, R_61, kr_61, kq_61, hA_61, hR_61, hr_61, hq_61, hf_61⟩ := hp_61
      obtain ⟨rfl, eR_61⟩ := dv_exact pu (rep_pol9 hq_61) (fun j hj => (zp_pol hg).1 j (by omega)) hG1 eu hA_61 hR_61
      have hc0_61 := (hf_61 _ (by omega) (by omega) (by omega) (by omega)).trans hc0_49
      have hc1_61 := (hf_61 _ (by omega) (by omega) (by omega) (by omega)).trans hc1_49
      have hq0_61 := zp_kept hn_49 (hf_61 _ (by omega) (by omega) (by omega) (by omega)) (hf_61 _ (by omega) (by omega) (by omega) (by omega))
      have hq2_61 := zp_kept hq2_49 (hf_61 _ (by omega) (by omega) (by omega) (by omega)) (hf_61 _ (by omega) (by omega) (by omega) (by omega))
      have hq3_61 := zp_kept hq3_49 (hf_61 _ (by omega) (by omega) (by omega) (by omega)) (hf_61 _ (by omega) (by omega) (by omega) (by omega))
      have hq4_61 := zp_kept hq4_49 (hf_61 _ (by omega) (by omega) (by omega) (by omega)) (hf_61 _ (by omega) (by omega) (by omega) (by omega))
      have hq5_61 := zp_kept hq5_49 (hf_61 _ (by omega) (by omega) (by omega) (by omega)) (hf_61 _ (by omega) (by omega) (by omega) (by omega))
      have hq7_61 := zp_kept hq7_49 (hf_61 _ (by omega) (by omega) (by omega) (by omega)) (hf_61 _ (by omega) (by omega) (by omega) (by omega))
      have hq8_61 := zp_kept hq8_49 (hf_61 _ (by omega) (by omega) (by omega) (by omega)) (hf_61 _ (by omega) (by omega) (by omega) (by omega))
      have hq9_61 := zp_kept hq9_49 (hf_61 _ (by omega) (by omega) (by omega) (by omega)) (hf_61 _ (by omega) (by omega) (by omega) (by omega))
      have hR2_61 : zoutR M_49 M_61 (w + 1) (w + 15) := fun z hz => hf_61 z (by omega) (by omega) (by omega) (by omega)
      show Z _ _ _ _ _ _ _ _ 64 _ []
      refine z_aload_n C d_W_settle_64 rfl rfl ?_
      refine z_get C in_W hc0_61 rfl 1 (by decide) fl_W_20 rfl rfl d_W_settle_65 ?_
      refine z_aload_n C d_W_settle_68 rfl rfl ?_
      refine z_get C in_W hc0_61 rfl 6 (by decide) fl_W_35 rfl rfl d_W_settle_69 ?_
      refine z_callV (rest := []) (n := 1) (As := [.ref (w + 13)]) C (p_copy E X.2.1 sz _ hr_61 hq_61 (by omega) (by have := zp_lt hq_61; omega)) ⟨z_cb C k_P_copy ml_W_54 ii_P rfl rfl (by decide +kernel) ⟨by decide, by decide⟩, C.2.2.2.2.1 _ im_P_copy, C.2.2.2.2.1 _ se_P_copy⟩ (zp_c0 hr_61) rfl rfl rfl (Nat.le_of_ble_eq_true rfl) d_W_settle_72 ⟨by decide, by decide⟩ ?_
      intro v_72 s_72 M_72 hp_72
      obtain ⟨rfl, rfl, hn_72, ho_72⟩ := hp_72
      have hc0_72 := (ho_72 _ (by omega) (by omega)).trans hc0_61
      have hc1_72 := (ho_72 _ (by omega) (by omega)).trans hc1_61
      have hq0_72 := zp_o ho_72 hq0_61 (by omega)
      have hq2_72 := zp_o ho_72 hq2_61 (by omega)
      have hq3_72 := zp_o ho_72 hq3_61 (by omega)
      have hq4_72 := zp_o ho_72 hq4_61 (by omega)
      have hq5_72 := zp_o ho_72 hq5_61 (by omega)
      have hq6_72 := zp_o ho_72 hq_61 (by omega)
      have hq7_72 := zp_o ho_72 hq7_61 (by omega)
      have hq8_72 := zp_o ho_72 hq8_61 (by omega)
      have hq9_72 := zp_o ho_72 hq9_61 (by omega)
      show Z _ _ _ _ _ _ _ _ 75 _ []
      refine z_sub [0, 1] rfl ?_
      exact tail _ _ _ _ _ G ⟨hc0_72, hq0_72, hn_72, ⟨_, _, hq2_72⟩, ⟨_, _, hq3_72⟩, ⟨_, _, hq4_72⟩, ⟨_, _, hq5_72⟩, ⟨_, _, hq6_72⟩⟩ ⟨hc1_72, hq7_72, hq8_72⟩ (zoutR_tr (zoutR_tr (zoutR_tr (zoutR_tr hfr hR2_38) (zout_R ho_49 (by omega) (by omega))) hR2_61) (zout_R ho_72 (by omega) (by omega))) po pu eo eu hcp
  · have c7 : kn = 0 := by
      by_cases q : kn = 0
      · exact q
      · exact absurd (if_neg q) c7
    refine z_aload_n C d_W_settle_10 rfl rfl ?_
    refine z_iconst (v := fI 0) C d_W_settle_11 (by decide) ?_
    refine z_callV (rest := []) (n := 1) (As := [.int (fI 0)]) C (f_setConstant E X.2.1 sz _ h1 0) ⟨z_cb C k_F_setConstant ml_W_89 ii_F rfl rfl (by decide +kernel) ⟨by decide, by decide⟩, C.2.2.2.2.1 _ im_F_setConstant, C.2.2.2.2.1 _ se_F_setConstant⟩ h1.1 rfl rfl rfl (Nat.le_of_ble_eq_true rfl) d_W_settle_12 ⟨by decide, by decide⟩ ?_
    intro v_12 s_12 M_12 hp_12
    obtain ⟨rfl, rfl, hz12, ho12⟩ := hp_12
    show Z _ _ _ _ _ _ _ _ 15 _ []
    refine z_iconst (v := 0) C d_W_settle_15 (by decide) ?_
    exact z_iret C ⟨rfl, ⟨_, _, _, _, zsh_oR ho12 hw (by omega)⟩, fun z z1 z2 => ho12 z z2, _, _, formof_0 (fun i => (zp_pol hw1).1 i (by omega)), Or.inr ⟨rfl, _, _, hz12⟩⟩ d_W_settle_16
