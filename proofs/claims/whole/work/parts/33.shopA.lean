set_option maxHeartbeats 4000000 in
/-- Workshop.add -/
theorem w_add (E : zE) (l : Launch) (sz : Nat) (M : zM) {w kw1 kw3 : Nat} {Pw1 Pw3 : PS} (hw : zsh E M w kw1 kw3 Pw1 Pw3) {q1 kn1 kd1 : Nat} {N1 D1 : PS} (h1 : zf E M q1 kn1 kd1 N1 D1) (a1 : q1 + 5 ≤ w ∨ w + 15 ≤ q1){q2 kn2 kd2 : Nat} {N2 D2 : PS} (h2 : zf E M q2 kn2 kd2 N2 D2) (a2 : q2 + 5 ≤ w ∨ w + 15 ≤ q2) (c : FF) : zMet E l y_W_add c_W_add 4 none { frames := 2, cells := 0, slots := 0, locals := 46 } 0 0 [.ref w, .ref q1, .ref q2, .int (fI c)] sz M (fun v s M' => none = v ∧ sz = s ∧ (∃ x y, zsh E M' w x y (ps_add (ps_mul N1 D2) (ps_mul (ps_C c) (ps_mul N2 D1))) (ps_mul D1 D2)) ∧ zoutR M M' (w + 1) (w + 15)) := by
  obtain ⟨hw0, hw1, hw3, ⟨kw5, Pw5, hw5⟩, ⟨kw7, Pw7, hw7⟩, ⟨kw9, Pw9, hw9⟩, ⟨kw11, Pw11, hw11⟩, ⟨kw13, Pw13, hw13⟩⟩ := id hw
  refine zMet.ofZ (by decide) (Nat.le_of_ble_eq_true rfl) ?_
  intro X hl hini C
  show Z X E 4 _ 0 0 sz M 0 [(0, .ref w), (1, .ref q1), (2, .ref q2), (3, .int (fI c))] []
  refine z_aload_n C d_W_add_0 rfl rfl ?_
  refine z_get C in_W hw0 rfl 0 (by decide) fl_W_16 rfl rfl d_W_add_1 ?_
  refine z_aload_n C d_W_add_4 rfl rfl ?_
  refine z_getN C in_F h1.1 rfl 0 (by decide) fl_W_38 rfl rfl d_W_add_5 ?_
  refine z_aload_n C d_W_add_8 rfl rfl ?_
  refine z_getN C in_F h2.1 rfl 1 (by decide) fl_W_41 rfl rfl d_W_add_9 ?_
  refine z_callV (rest := []) (n := 2) (As := [.ref (q1 + 1), .ref (q2 + 3)]) C (p_setProduct E X.2.1 sz _ hw1 h1.2.1 h2.2.2 (by omega) (by omega) (by have := zp_lt h1.2.1; have := zp_lt h2.2.2; omega)) ⟨z_cb C k_P_setProduct ml_W_42 ii_P rfl rfl (by decide +kernel) ⟨by decide, by decide⟩, C.2.2.2.2.1 _ im_P_setProduct, C.2.2.2.2.1 _ se_P_setProduct⟩ (zp_c0 hw1) rfl rfl rfl (Nat.le_of_ble_eq_true rfl) d_W_add_12 ⟨by decide, by decide⟩ ?_
  intro v_12 s_12 M_12 hp_12
  obtain ⟨rfl, rfl, ⟨k_12, hn_12⟩, ho_12⟩ := hp_12
  have hc0_12 := (ho_12 _ (by omega) (by omega)).trans hw0
  have hc1_12 := (ho_12 _ (by omega) (by omega)).trans h1.1
  have hc2_12 := (ho_12 _ (by omega) (by omega)).trans h2.1
  have hq1_12 := zp_o ho_12 hw3 (by omega)
  have hq2_12 := zp_o ho_12 hw5 (by omega)
  have hq3_12 := zp_o ho_12 hw7 (by omega)
  have hq4_12 := zp_o ho_12 hw9 (by omega)
  have hq5_12 := zp_o ho_12 hw11 (by omega)
  have hq6_12 := zp_o ho_12 hw13 (by omega)
  have hq7_12 := zp_o ho_12 h1.2.1 (by omega)
  have hq8_12 := zp_o ho_12 h1.2.2 (by omega)
  have hq9_12 := zp_o ho_12 h2.2.1 (by omega)
  have hq10_12 := zp_o ho_12 h2.2.2 (by omega)
  show Z _ _ _ _ _ _ _ _ 15 _ []
  refine z_aload_n C d_W_add_15 rfl rfl ?_
  refine z_get C in_W hc0_12 rfl 2 (by decide) fl_W_23 rfl rfl d_W_add_16 ?_
  refine z_aload_n C d_W_add_19 rfl rfl ?_
  refine z_getN C in_F hc2_12 rfl 0 (by decide) fl_W_38 rfl rfl d_W_add_20 ?_
  refine z_aload_n C d_W_add_23 rfl rfl ?_
  refine z_getN C in_F hc1_12 rfl 1 (by decide) fl_W_41 rfl rfl d_W_add_24 ?_
  refine z_callV (rest := []) (n := 2) (As := [.ref (q2 + 1), .ref (q1 + 3)]) C (p_setProduct E X.2.1 sz _ hq2_12 hq9_12 hq8_12 (by omega) (by omega) (by have := zp_lt hq9_12; have := zp_lt hq8_12; omega)) ⟨z_cb C k_P_setProduct ml_W_42 ii_P rfl rfl (by decide +kernel) ⟨by decide, by decide⟩, C.2.2.2.2.1 _ im_P_setProduct, C.2.2.2.2.1 _ se_P_setProduct⟩ (zp_c0 hq2_12) rfl rfl rfl (Nat.le_of_ble_eq_true rfl) d_W_add_27 ⟨by decide, by decide⟩ ?_
  intro v_27 s_27 M_27 hp_27
  obtain ⟨rfl, rfl, ⟨k_27, hn_27⟩, ho_27⟩ := hp_27
  have hc0_27 := (ho_27 _ (by omega) (by omega)).trans hc0_12
  have hc1_27 := (ho_27 _ (by omega) (by omega)).trans hc1_12
  have hc2_27 := (ho_27 _ (by omega) (by omega)).trans hc2_12
  have hq0_27 := zp_o ho_27 hn_12 (by omega)
  have hq1_27 := zp_o ho_27 hq1_12 (by omega)
  have hq3_27 := zp_o ho_27 hq3_12 (by omega)
  have hq4_27 := zp_o ho_27 hq4_12 (by omega)
  have hq5_27 := zp_o ho_27 hq5_12 (by omega)
  have hq6_27 := zp_o ho_27 hq6_12 (by omega)
  have hq7_27 := zp_o ho_27 hq7_12 (by omega)
  have hq8_27 := zp_o ho_27 hq8_12 (by omega)
  have hq9_27 := zp_o ho_27 hq9_12 (by omega)
  have hq10_27 := zp_o ho_27 hq10_12 (by omega)
  show Z _ _ _ _ _ _ _ _ 30 _ []
  refine z_aload_n C d_W_add_30 rfl rfl ?_
  refine z_get C in_W hc0_27 rfl 0 (by decide) fl_W_16 rfl rfl d_W_add_31 ?_
  refine z_aload_n C d_W_add_34 rfl rfl ?_
  refine z_get C in_W hc0_27 rfl 2 (by decide) fl_W_23 rfl rfl d_W_add_35 ?_
  refine z_iload_n C d_W_add_38 rfl rfl ?_
  refine z_callV (rest := []) (n := 2) (As := [.ref (w + 5), .int (fI c)]) C (p_addMultiple E X.2.1 sz _ hq0_27 hn_27 (by omega) (by have := zp_lt hn_27; omega) c) ⟨z_cb C k_P_addMultiple ml_W_46 ii_P rfl rfl (by decide +kernel) ⟨by decide, by decide⟩, C.2.2.2.2.1 _ im_P_addMultiple, C.2.2.2.2.1 _ se_P_addMultiple⟩ (zp_c0 hq0_27) rfl rfl rfl (Nat.le_of_ble_eq_true rfl) d_W_add_39 ⟨by decide, by decide⟩ ?_
  intro v_39 s_39 M_39 hp_39
  obtain ⟨rfl, rfl, ⟨k_39, hn_39⟩, ho_39⟩ := hp_39
  have hc0_39 := (ho_39 _ (by omega) (by omega)).trans hc0_27
  have hc1_39 := (ho_39 _ (by omega) (by omega)).trans hc1_27
  have hc2_39 := (ho_39 _ (by omega) (by omega)).trans hc2_27
  have hq1_39 := zp_o ho_39 hq1_27 (by omega)
  have hq2_39 := zp_o ho_39 hn_27 (by omega)
  have hq3_39 := zp_o ho_39 hq3_27 (by omega)
  have hq4_39 := zp_o ho_39 hq4_27 (by omega)
  have hq5_39 := zp_o ho_39 hq5_27 (by omega)
  have hq6_39 := zp_o ho_39 hq6_27 (by omega)
  have hq7_39 := zp_o ho_39 hq7_27 (by omega)
  have hq8_39 := zp_o ho_39 hq8_27 (by omega)
  have hq9_39 := zp_o ho_39 hq9_27 (by omega)
  have hq10_39 := zp_o ho_39 hq10_27 (by omega)
  show Z _ _ _ _ _ _ _ _ 42 _ []
  refine z_aload_n C d_W_add_42 rfl rfl ?_
  refine z_get C in_W hc0_39 rfl 1 (by decide) fl_W_20 rfl rfl d_W_add_43 ?_
  refine z_aload_n C d_W_add_46 rfl rfl ?_
  refine z_getN C in_F hc1_39 rfl 1 (by decide) fl_W_41 rfl rfl d_W_add_47 ?_
  refine z_aload_n C d_W_add_50 rfl rfl ?_
  refine z_getN C in_F hc2_39 rfl 1 (by decide) fl_W_41 rfl rfl d_W_add_51 ?_
  refine z_callV (rest := []) (n := 2) (As := [.ref (q1 + 3), .ref (q2 + 3)]) C (p_setProduct E X.2.1 sz _ hq1_39 hq8_39 hq10_39 (by omega) (by omega) (by have := zp_lt hq8_39; have := zp_lt hq10_39; omega)) ⟨z_cb C k_P_setProduct ml_W_42 ii_P rfl rfl (by decide +kernel) ⟨by decide, by decide⟩, C.2.2.2.2.1 _ im_P_setProduct, C.2.2.2.2.1 _ se_P_setProduct⟩ (zp_c0 hq1_39) rfl rfl rfl (Nat.le_of_ble_eq_true rfl) d_W_add_54 ⟨by decide, by decide⟩ ?_
  intro v_54 s_54 M_54 hp_54
  obtain ⟨rfl, rfl, ⟨k_54, hn_54⟩, ho_54⟩ := hp_54
  have hc0_54 := (ho_54 _ (by omega) (by omega)).trans hc0_39
  have hc1_54 := (ho_54 _ (by omega) (by omega)).trans hc1_39
  have hc2_54 := (ho_54 _ (by omega) (by omega)).trans hc2_39
  have hq0_54 := zp_o ho_54 hn_39 (by omega)
  have hq2_54 := zp_o ho_54 hq2_39 (by omega)
  have hq3_54 := zp_o ho_54 hq3_39 (by omega)
  have hq4_54 := zp_o ho_54 hq4_39 (by omega)
  have hq5_54 := zp_o ho_54 hq5_39 (by omega)
  have hq6_54 := zp_o ho_54 hq6_39 (by omega)
  have hq7_54 := zp_o ho_54 hq7_39 (by omega)
  have hq8_54 := zp_o ho_54 hq8_39 (by omega)
  have hq9_54 := zp_o ho_54 hq9_39 (by omega)
  have hq10_54 := zp_o ho_54 hq10_39 (by omega)
  show Z _ _ _ _ _ _ _ _ 57 _ []
  exact z_vret C ⟨rfl, rfl, ⟨_, _, ⟨hc0_54, hq0_54, hn_54, ⟨_, _, hq2_54⟩, ⟨_, _, hq3_54⟩, ⟨_, _, hq4_54⟩, ⟨_, _, hq5_54⟩, ⟨_, _, hq6_54⟩⟩⟩, zoutR_tr (zoutR_tr (zoutR_tr (zoutR_tr zoutR_rf (zout_R ho_12 (by omega) (by omega))) (zout_R ho_27 (by omega) (by omega))) (zout_R ho_39 (by omega) (by omega))) (zout_R ho_54 (by omega) (by omega))⟩ d_W_add_57
set_option maxHeartbeats 4000000 in
/-- Workshop.multiply -/
theorem w_multiply (E : zE) (l : Launch) (sz : Nat) (M : zM) {w kw1 kw3 : Nat} {Pw1 Pw3 : PS} (hw : zsh E M w kw1 kw3 Pw1 Pw3) {q1 kn1 kd1 : Nat} {N1 D1 : PS} (h1 : zf E M q1 kn1 kd1 N1 D1) (a1 : q1 + 5 ≤ w ∨ w + 15 ≤ q1){q2 kn2 kd2 : Nat} {N2 D2 : PS} (h2 : zf E M q2 kn2 kd2 N2 D2) (a2 : q2 + 5 ≤ w ∨ w + 15 ≤ q2) : zMet E l y_W_multiply c_W_multiply 3 none { frames := 2, cells := 0, slots := 0, locals := 46 } 0 0 [.ref w, .ref q1, .ref q2] sz M (fun v s M' => none = v ∧ sz = s ∧ (∃ x y, zsh E M' w x y (ps_mul N1 N2) (ps_mul D1 D2)) ∧ zoutR M M' (w + 1) (w + 15)) := by
  obtain ⟨hw0, hw1, hw3, ⟨kw5, Pw5, hw5⟩, ⟨kw7, Pw7, hw7⟩, ⟨kw9, Pw9, hw9⟩, ⟨kw11, Pw11, hw11⟩, ⟨kw13, Pw13, hw13⟩⟩ := id hw
  refine zMet.ofZ (by decide) (Nat.le_of_ble_eq_true rfl) ?_
  intro X hl hini C
  show Z X E 3 _ 0 0 sz M 0 [(0, .ref w), (1, .ref q1), (2, .ref q2)] []
  refine z_aload_n C d_W_multiply_0 rfl rfl ?_
  refine z_get C in_W hw0 rfl 0 (by decide) fl_W_16 rfl rfl d_W_multiply_1 ?_
  refine z_aload_n C d_W_multiply_4 rfl rfl ?_
  refine z_getN C in_F h1.1 rfl 0 (by decide) fl_W_38 rfl rfl d_W_multiply_5 ?_
  refine z_aload_n C d_W_multiply_8 rfl rfl ?_
  refine z_getN C in_F h2.1 rfl 0 (by decide) fl_W_38 rfl rfl d_W_multiply_9 ?_
  refine z_callV (rest := []) (n := 2) (As := [.ref (q1 + 1), .ref (q2 + 1)]) C (p_setProduct E X.2.1 sz _ hw1 h1.2.1 h2.2.1 (by omega) (by omega) (by have := zp_lt h1.2.1; have := zp_lt h2.2.1; omega)) ⟨z_cb C k_P_setProduct ml_W_42 ii_P rfl rfl (by decide +kernel) ⟨by decide, by decide⟩, C.2.2.2.2.1 _ im_P_setProduct, C.2.2.2.2.1 _ se_P_setProduct⟩ (zp_c0 hw1) rfl rfl rfl (Nat.le_of_ble_eq_true rfl) d_W_multiply_12 ⟨by decide, by decide⟩ ?_
  intro v_12 s_12 M_12 hp_12
  obtain ⟨rfl, rfl, ⟨k_12, hn_12⟩, ho_12⟩ := hp_12
  have hc0_12 := (ho_12 _ (by omega) (by omega)).trans hw0
  have hc1_12 := (ho_12 _ (by omega) (by omega)).trans h1.1
  have hc2_12 := (ho_12 _ (by omega) (by omega)).trans h2.1
  have hq1_12 := zp_o ho_12 hw3 (by omega)
  have hq2_12 := zp_o ho_12 hw5 (by omega)
  have hq3_12 := zp_o ho_12 hw7 (by omega)
  have hq4_12 := zp_o ho_12 hw9 (by omega)
  have hq5_12 := zp_o ho_12 hw11 (by omega)
  have hq6_12 := zp_o ho_12 hw13 (by omega)
  have hq7_12 := zp_o ho_12 h1.2.1 (by omega)
  have hq8_12 := zp_o ho_12 h1.2.2 (by omega)
  have hq9_12 := zp_o ho_12 h2.2.1 (by omega)
  have hq10_12 := zp_o ho_12 h2.2.2 (by omega)
  show Z _ _ _ _ _ _ _ _ 15 _ []
  refine z_aload_n C d_W_multiply_15 rfl rfl ?_
  refine z_get C in_W hc0_12 rfl 1 (by decide) fl_W_20 rfl rfl d_W_multiply_16 ?_
  refine z_aload_n C d_W_multiply_19 rfl rfl ?_
  refine z_getN C in_F hc1_12 rfl 1 (by decide) fl_W_41 rfl rfl d_W_multiply_20 ?_
  refine z_aload_n C d_W_multiply_23 rfl rfl ?_
  refine z_getN C in_F hc2_12 rfl 1 (by decide) fl_W_41 rfl rfl d_W_multiply_24 ?_
  refine z_callV (rest := []) (n := 2) (As := [.ref (q1 + 3), .ref (q2 + 3)]) C (p_setProduct E X.2.1 sz _ hq1_12 hq8_12 hq10_12 (by omega) (by omega) (by have := zp_lt hq8_12; have := zp_lt hq10_12; omega)) ⟨z_cb C k_P_setProduct ml_W_42 ii_P rfl rfl (by decide +kernel) ⟨by decide, by decide⟩, C.2.2.2.2.1 _ im_P_setProduct, C.2.2.2.2.1 _ se_P_setProduct⟩ (zp_c0 hq1_12) rfl rfl rfl (Nat.le_of_ble_eq_true rfl) d_W_multiply_27 ⟨by decide, by decide⟩ ?_
  intro v_27 s_27 M_27 hp_27
  obtain ⟨rfl, rfl, ⟨k_27, hn_27⟩, ho_27⟩ := hp_27
  have hc0_27 := (ho_27 _ (by omega) (by omega)).trans hc0_12
  have hc1_27 := (ho_27 _ (by omega) (by omega)).trans hc1_12
  have hc2_27 := (ho_27 _ (by omega) (by omega)).trans hc2_12
  have hq0_27 := zp_o ho_27 hn_12 (by omega)
  have hq2_27 := zp_o ho_27 hq2_12 (by omega)
  have hq3_27 := zp_o ho_27 hq3_12 (by omega)
  have hq4_27 := zp_o ho_27 hq4_12 (by omega)
  have hq5_27 := zp_o ho_27 hq5_12 (by omega)
  have hq6_27 := zp_o ho_27 hq6_12 (by omega)
  have hq7_27 := zp_o ho_27 hq7_12 (by omega)
  have hq8_27 := zp_o ho_27 hq8_12 (by omega)
  have hq9_27 := zp_o ho_27 hq9_12 (by omega)
  have hq10_27 := zp_o ho_27 hq10_12 (by omega)
  show Z _ _ _ _ _ _ _ _ 30 _ []
  exact z_vret C ⟨rfl, rfl, ⟨_, _, ⟨hc0_27, hq0_27, hn_27, ⟨_, _, hq2_27⟩, ⟨_, _, hq3_27⟩, ⟨_, _, hq4_27⟩, ⟨_, _, hq5_27⟩, ⟨_, _, hq6_27⟩⟩⟩, zoutR_tr (zoutR_tr zoutR_rf (zout_R ho_12 (by omega) (by omega))) (zout_R ho_27 (by omega) (by omega))⟩ d_W_multiply_30
set_option maxHeartbeats 4000000 in
/-- Workshop.divide -/
theorem w_divide (E : zE) (l : Launch) (sz : Nat) (M : zM) {w kw1 kw3 : Nat} {Pw1 Pw3 : PS} (hw : zsh E M w kw1 kw3 Pw1 Pw3) {q1 kn1 kd1 : Nat} {N1 D1 : PS} (h1 : zf E M q1 kn1 kd1 N1 D1) (a1 : q1 + 5 ≤ w ∨ w + 15 ≤ q1){q2 kn2 kd2 : Nat} {N2 D2 : PS} (h2 : zf E M q2 kn2 kd2 N2 D2) (a2 : q2 + 5 ≤ w ∨ w + 15 ≤ q2) : zMet E l y_W_divide c_W_divide 3 (some .int) { frames := 2, cells := 0, slots := 0, locals := 46 } 0 0 [.ref w, .ref q1, .ref q2] sz M (fun v s M' => (kn2 = 0 ∧ some (.int (-5)) = v ∧ sz = s ∧ M = M') ∨ (kn2 ≠ 0 ∧ some (.int 0) = v ∧ sz = s ∧ (∃ x y, zsh E M' w x y (ps_mul N1 D2) (ps_mul D1 N2)) ∧ zoutR M M' (w + 1) (w + 15))) := by
  obtain ⟨hw0, hw1, hw3, ⟨kw5, Pw5, hw5⟩, ⟨kw7, Pw7, hw7⟩, ⟨kw9, Pw9, hw9⟩, ⟨kw11, Pw11, hw11⟩, ⟨kw13, Pw13, hw13⟩⟩ := id hw
  refine zMet.ofZ (by decide) (Nat.le_of_ble_eq_true rfl) ?_
  intro X hl hini C
  show Z X E 3 _ 0 0 sz M 0 [(0, .ref w), (1, .ref q1), (2, .ref q2)] []
  refine z_aload_n C d_W_divide_0 rfl rfl ?_
  refine z_callV (rest := []) (n := 0) (As := []) C (f_isZero E X.2.1 sz _ h2) ⟨z_cb C k_F_isZero ml_W_50 ii_F rfl rfl (by decide +kernel) ⟨by decide, by decide⟩, C.2.2.2.2.1 _ im_F_isZero, C.2.2.2.2.1 _ se_F_isZero⟩ h2.1 rfl rfl rfl (Nat.le_of_ble_eq_true rfl) d_W_divide_1 ⟨by decide, by decide⟩ ?_
  intro v_1 s_1 M_1 hp_1
  obtain ⟨rfl, rfl, rfl⟩ := hp_1
  show Z _ _ _ _ _ _ _ _ 4 _ [.int (if kn2 = 0 then 1 else 0)]
  refine z_if_eq (tgt := 10) C d_W_divide_4 (by decide) (fun c4 => ?_) (fun c4 => ?_)
  · have c4 : kn2 ≠ 0 := fun q => by rw [if_pos q] at c4; exact absurd c4 (by decide)
    refine z_aload_n C d_W_divide_10 rfl rfl ?_
    refine z_get C in_W hw0 rfl 0 (by decide) fl_W_16 rfl rfl d_W_divide_11 ?_
    refine z_aload_n C d_W_divide_14 rfl rfl ?_
    refine z_getN C in_F h1.1 rfl 0 (by decide) fl_W_38 rfl rfl d_W_divide_15 ?_
    refine z_aload_n C d_W_divide_18 rfl rfl ?_
    refine z_getN C in_F h2.1 rfl 1 (by decide) fl_W_41 rfl rfl d_W_divide_19 ?_
    refine z_callV (rest := []) (n := 2) (As := [.ref (q1 + 1), .ref (q2 + 3)]) C (p_setProduct E X.2.1 sz _ hw1 h1.2.1 h2.2.2 (by omega) (by omega) (by have := zp_lt h1.2.1; have := zp_lt h2.2.2; omega)) ⟨z_cb C k_P_setProduct ml_W_42 ii_P rfl rfl (by decide +kernel) ⟨by decide, by decide⟩, C.2.2.2.2.1 _ im_P_setProduct, C.2.2.2.2.1 _ se_P_setProduct⟩ (zp_c0 hw1) rfl rfl rfl (Nat.le_of_ble_eq_true rfl) d_W_divide_22 ⟨by decide, by decide⟩ ?_
    intro v_22 s_22 M_22 hp_22
    obtain ⟨rfl, rfl, ⟨k_22, hn_22⟩, ho_22⟩ := hp_22
    have hc0_22 := (ho_22 _ (by omega) (by omega)).trans hw0
    have hc1_22 := (ho_22 _ (by omega) (by omega)).trans h1.1
    have hc2_22 := (ho_22 _ (by omega) (by omega)).trans h2.1
    have hq1_22 := zp_o ho_22 hw3 (by omega)
    have hq2_22 := zp_o ho_22 hw5 (by omega)
    have hq3_22 := zp_o ho_22 hw7 (by omega)
    have hq4_22 := zp_o ho_22 hw9 (by omega)
    have hq5_22 := zp_o ho_22 hw11 (by omega)
    have hq6_22 := zp_o ho_22 hw13 (by omega)
    have hq7_22 := zp_o ho_22 h1.2.1 (by omega)
    have hq8_22 := zp_o ho_22 h1.2.2 (by omega)
    have hq9_22 := zp_o ho_22 h2.2.1 (by omega)
    have hq10_22 := zp_o ho_22 h2.2.2 (by omega)
    show Z _ _ _ _ _ _ _ _ 25 _ []
    refine z_aload_n C d_W_divide_25 rfl rfl ?_
    refine z_get C in_W hc0_22 rfl 1 (by decide) fl_W_20 rfl rfl d_W_divide_26 ?_
    refine z_aload_n C d_W_divide_29 rfl rfl ?_
    refine z_getN C in_F hc1_22 rfl 1 (by decide) fl_W_41 rfl rfl d_W_divide_30 ?_
    refine z_aload_n C d_W_divide_33 rfl rfl ?_
    refine z_getN C in_F hc2_22 rfl 0 (by decide) fl_W_38 rfl rfl d_W_divide_34 ?_
    refine z_callV (rest := []) (n := 2) (As := [.ref (q1 + 3), .ref (q2 + 1)]) C (p_setProduct E X.2.1 sz _ hq1_22 hq8_22 hq9_22 (by omega) (by omega) (by have := zp_lt hq8_22; have := zp_lt hq9_22; omega)) ⟨z_cb C k_P_setProduct ml_W_42 ii_P rfl rfl (by decide +kernel) ⟨by decide, by decide⟩, C.2.2.2.2.1 _ im_P_setProduct, C.2.2.2.2.1 _ se_P_setProduct⟩ (zp_c0 hq1_22) rfl rfl rfl (Nat.le_of_ble_eq_true rfl) d_W_divide_37 ⟨by decide, by decide⟩ ?_
    intro v_37 s_37 M_37 hp_37
    obtain ⟨rfl, rfl, ⟨k_37, hn_37⟩, ho_37⟩ := hp_37
    have hc0_37 := (ho_37 _ (by omega) (by omega)).trans hc0_22
    have hc1_37 := (ho_37 _ (by omega) (by omega)).trans hc1_22
    have hc2_37 := (ho_37 _ (by omega) (by omega)).trans hc2_22
    have hq0_37 := zp_o ho_37 hn_22 (by omega)
    have hq2_37 := zp_o ho_37 hq2_22 (by omega)
    have hq3_37 := zp_o ho_37 hq3_22 (by omega)
    have hq4_37 := zp_o ho_37 hq4_22 (by omega)
    have hq5_37 := zp_o ho_37 hq5_22 (by omega)
    have hq6_37 := zp_o ho_37 hq6_22 (by omega)
    have hq7_37 := zp_o ho_37 hq7_22 (by omega)
    have hq8_37 := zp_o ho_37 hq8_22 (by omega)
    have hq9_37 := zp_o ho_37 hq9_22 (by omega)
    have hq10_37 := zp_o ho_37 hq10_22 (by omega)
    show Z _ _ _ _ _ _ _ _ 40 _ []
    refine z_iconst (v := 0) C d_W_divide_40 (by decide) ?_
    exact z_iret C (Or.inr ⟨c4, rfl, rfl, ⟨_, _, ⟨hc0_37, hq0_37, hn_37, ⟨_, _, hq2_37⟩, ⟨_, _, hq3_37⟩, ⟨_, _, hq4_37⟩, ⟨_, _, hq5_37⟩, ⟨_, _, hq6_37⟩⟩⟩, zoutR_tr (zoutR_tr zoutR_rf (zout_R ho_22 (by omega) (by omega))) (zout_R ho_37 (by omega) (by omega))⟩) d_W_divide_41
  · have c4 : kn2 = 0 := by
      by_cases q : kn2 = 0
      · exact q
      · exact absurd (if_neg q) c4
    refine z_bipush (v := -5) C d_W_divide_7 (by decide) ?_
    exact z_iret C (Or.inl ⟨c4, rfl, rfl, rfl⟩) d_W_divide_9
set_option maxHeartbeats 4000000 in
/-- Workshop.negate -/
theorem w_negate (E : zE) (l : Launch) (sz : Nat) (M : zM) {w kw1 kw3 : Nat} {Pw1 Pw3 : PS} (hw : zsh E M w kw1 kw3 Pw1 Pw3) {q1 kn1 kd1 : Nat} {N1 D1 : PS} (h1 : zf E M q1 kn1 kd1 N1 D1) (a1 : q1 + 5 ≤ w ∨ w + 15 ≤ q1) : zMet E l y_W_negate c_W_negate 2 none { frames := 2, cells := 0, slots := 0, locals := 44 } 0 0 [.ref w, .ref q1] sz M (fun v s M' => none = v ∧ sz = s ∧ (∃ x y, zsh E M' w x y (ps_mul (ps_C 10006) N1) D1) ∧ zoutR M M' (w + 1) (w + 15)) := by
  obtain ⟨hw0, hw1, hw3, ⟨kw5, Pw5, hw5⟩, ⟨kw7, Pw7, hw7⟩, ⟨kw9, Pw9, hw9⟩, ⟨kw11, Pw11, hw11⟩, ⟨kw13, Pw13, hw13⟩⟩ := id hw
  refine zMet.ofZ (by decide) (Nat.le_of_ble_eq_true rfl) ?_
  intro X hl hini C
  show Z X E 2 _ 0 0 sz M 0 [(0, .ref w), (1, .ref q1)] []
  refine z_aload_n C d_W_negate_0 rfl rfl ?_
  refine z_get C in_W hw0 rfl 0 (by decide) fl_W_16 rfl rfl d_W_negate_1 ?_
  refine z_aload_n C d_W_negate_4 rfl rfl ?_
  refine z_getN C in_F h1.1 rfl 0 (by decide) fl_W_38 rfl rfl d_W_negate_5 ?_
  refine z_callV (rest := []) (n := 1) (As := [.ref (q1 + 1)]) C (p_copy E X.2.1 sz _ hw1 h1.2.1 (by omega) (by have := zp_lt h1.2.1; omega)) ⟨z_cb C k_P_copy ml_W_54 ii_P rfl rfl (by decide +kernel) ⟨by decide, by decide⟩, C.2.2.2.2.1 _ im_P_copy, C.2.2.2.2.1 _ se_P_copy⟩ (zp_c0 hw1) rfl rfl rfl (Nat.le_of_ble_eq_true rfl) d_W_negate_8 ⟨by decide, by decide⟩ ?_
  intro v_8 s_8 M_8 hp_8
  obtain ⟨rfl, rfl, hn_8, ho_8⟩ := hp_8
  have hc0_8 := (ho_8 _ (by omega) (by omega)).trans hw0
  have hc1_8 := (ho_8 _ (by omega) (by omega)).trans h1.1
  have hq1_8 := zp_o ho_8 hw3 (by omega)
  have hq2_8 := zp_o ho_8 hw5 (by omega)
  have hq3_8 := zp_o ho_8 hw7 (by omega)
  have hq4_8 := zp_o ho_8 hw9 (by omega)
  have hq5_8 := zp_o ho_8 hw11 (by omega)
  have hq6_8 := zp_o ho_8 hw13 (by omega)
  have hq7_8 := zp_o ho_8 h1.2.1 (by omega)
  have hq8_8 := zp_o ho_8 h1.2.2 (by omega)
  show Z _ _ _ _ _ _ _ _ 11 _ []
  refine z_aload_n C d_W_negate_11 rfl rfl ?_
  refine z_get C in_W hc0_8 rfl 0 (by decide) fl_W_16 rfl rfl d_W_negate_12 ?_
  refine z_sipush (v := fI 10006) C d_W_negate_15 (by decide) ?_
  refine z_callV (rest := []) (n := 1) (As := [.int (fI 10006)]) C (p_scale E X.2.1 sz _ hn_8 10006) ⟨z_cb C k_P_scale ml_W_58 ii_P rfl rfl (by decide +kernel) ⟨by decide, by decide⟩, C.2.2.2.2.1 _ im_P_scale, C.2.2.2.2.1 _ se_P_scale⟩ (zp_c0 hn_8) rfl rfl rfl (Nat.le_of_ble_eq_true rfl) d_W_negate_18 ⟨by decide, by decide⟩ ?_
  intro v_18 s_18 M_18 hp_18
  obtain ⟨rfl, rfl, ⟨k_18, hn_18⟩, ho_18⟩ := hp_18
  have hc0_18 := (ho_18 _ (by omega) (by omega)).trans hc0_8
  have hc1_18 := (ho_18 _ (by omega) (by omega)).trans hc1_8
  have hq1_18 := zp_o ho_18 hq1_8 (by omega)
  have hq2_18 := zp_o ho_18 hq2_8 (by omega)
  have hq3_18 := zp_o ho_18 hq3_8 (by omega)
  have hq4_18 := zp_o ho_18 hq4_8 (by omega)
  have hq5_18 := zp_o ho_18 hq5_8 (by omega)
  have hq6_18 := zp_o ho_18 hq6_8 (by omega)
  have hq7_18 := zp_o ho_18 hq7_8 (by omega)
  have hq8_18 := zp_o ho_18 hq8_8 (by omega)
  show Z _ _ _ _ _ _ _ _ 21 _ []
  refine z_aload_n C d_W_negate_21 rfl rfl ?_
  refine z_get C in_W hc0_18 rfl 1 (by decide) fl_W_20 rfl rfl d_W_negate_22 ?_
  refine z_aload_n C d_W_negate_25 rfl rfl ?_
  refine z_getN C in_F hc1_18 rfl 1 (by decide) fl_W_41 rfl rfl d_W_negate_26 ?_
  refine z_callV (rest := []) (n := 1) (As := [.ref (q1 + 3)]) C (p_copy E X.2.1 sz _ hq1_18 hq8_18 (by omega) (by have := zp_lt hq8_18; omega)) ⟨z_cb C k_P_copy ml_W_54 ii_P rfl rfl (by decide +kernel) ⟨by decide, by decide⟩, C.2.2.2.2.1 _ im_P_copy, C.2.2.2.2.1 _ se_P_copy⟩ (zp_c0 hq1_18) rfl rfl rfl (Nat.le_of_ble_eq_true rfl) d_W_negate_29 ⟨by decide, by decide⟩ ?_
  intro v_29 s_29 M_29 hp_29
  obtain ⟨rfl, rfl, hn_29, ho_29⟩ := hp_29
  have hc0_29 := (ho_29 _ (by omega) (by omega)).trans hc0_18
  have hc1_29 := (ho_29 _ (by omega) (by omega)).trans hc1_18
  have hq0_29 := zp_o ho_29 hn_18 (by omega)
  have hq2_29 := zp_o ho_29 hq2_18 (by omega)
  have hq3_29 := zp_o ho_29 hq3_18 (by omega)
  have hq4_29 := zp_o ho_29 hq4_18 (by omega)
  have hq5_29 := zp_o ho_29 hq5_18 (by omega)
  have hq6_29 := zp_o ho_29 hq6_18 (by omega)
  have hq7_29 := zp_o ho_29 hq7_18 (by omega)
  have hq8_29 := zp_o ho_29 hq8_18 (by omega)
  show Z _ _ _ _ _ _ _ _ 32 _ []
  exact z_vret C ⟨rfl, rfl, ⟨_, _, ⟨hc0_29, hq0_29, hn_29, ⟨_, _, hq2_29⟩, ⟨_, _, hq3_29⟩, ⟨_, _, hq4_29⟩, ⟨_, _, hq5_29⟩, ⟨_, _, hq6_29⟩⟩⟩, zoutR_tr (zoutR_tr (zoutR_tr zoutR_rf (zout_R ho_8 (by omega) (by omega))) (zout_R ho_18 (by omega) (by omega))) (zout_R ho_29 (by omega) (by omega))⟩ d_W_negate_32
set_option maxHeartbeats 4000000 in
/-- Workshop.derive -/
theorem w_derive (E : zE) (l : Launch) (sz : Nat) (M : zM) {w kw1 kw3 : Nat} {Pw1 Pw3 : PS} (hw : zsh E M w kw1 kw3 Pw1 Pw3) {q1 kn1 kd1 : Nat} {N1 D1 : PS} (h1 : zf E M q1 kn1 kd1 N1 D1) (a1 : q1 + 5 ≤ w ∨ w + 15 ≤ q1) : zMet E l y_W_derive c_W_derive 2 none { frames := 2, cells := 0, slots := 0, locals := 46 } 0 0 [.ref w, .ref q1] sz M (fun v s M' => none = v ∧ sz = s ∧ (∃ x y, zsh E M' w x y (ps_add (ps_mul (ps_der N1) D1) (ps_mul (ps_C 10006) (ps_mul N1 (ps_der D1)))) (ps_mul D1 D1)) ∧ zoutR M M' (w + 1) (w + 15)) := by
  obtain ⟨hw0, hw1, hw3, ⟨kw5, Pw5, hw5⟩, ⟨kw7, Pw7, hw7⟩, ⟨kw9, Pw9, hw9⟩, ⟨kw11, Pw11, hw11⟩, ⟨kw13, Pw13, hw13⟩⟩ := id hw
  have b1 := zp_lt h1.2.1
  have b2 := zp_lt h1.2.2
  refine zMet.ofZ (by decide) (Nat.le_of_ble_eq_true rfl) ?_
  intro X hl hini C
  show Z X E 2 _ 0 0 sz M 0 [(0, .ref w), (1, .ref q1)] []
  refine z_aload_n C d_W_derive_0 rfl rfl ?_
  refine z_get C in_W hw0 rfl 2 (by decide) fl_W_23 rfl rfl d_W_derive_1 ?_
  refine z_aload_n C d_W_derive_4 rfl rfl ?_
  refine z_getN C in_F h1.1 rfl 0 (by decide) fl_W_38 rfl rfl d_W_derive_5 ?_
  refine z_callV (rest := []) (n := 1) (As := [.ref (q1 + 1)]) C (p_setDerivative E X.2.1 sz _ hw5 h1.2.1 (by omega) (by have := zp_lt h1.2.1; omega)) ⟨z_cb C k_P_setDerivative ml_W_61 ii_P rfl rfl (by decide +kernel) ⟨by decide, by decide⟩, C.2.2.2.2.1 _ im_P_setDerivative, C.2.2.2.2.1 _ se_P_setDerivative⟩ (zp_c0 hw5) rfl rfl rfl (Nat.le_of_ble_eq_true rfl) d_W_derive_8 ⟨by decide, by decide⟩ ?_
  intro v_8 s_8 M_8 hp_8
  obtain ⟨rfl, rfl, ⟨k_8, hn_8⟩, ho_8⟩ := hp_8
  have hc0_8 := (ho_8 _ (by omega) (by omega)).trans hw0
  have hc1_8 := (ho_8 _ (by omega) (by omega)).trans h1.1
  have hq0_8 := zp_o ho_8 hw1 (by omega)
  have hq1_8 := zp_o ho_8 hw3 (by omega)
  have hq3_8 := zp_o ho_8 hw7 (by omega)
  have hq4_8 := zp_o ho_8 hw9 (by omega)
  have hq5_8 := zp_o ho_8 hw11 (by omega)
  have hq6_8 := zp_o ho_8 hw13 (by omega)
  have hq7_8 := zp_o ho_8 h1.2.1 (by omega)
  have hq8_8 := zp_o ho_8 h1.2.2 (by omega)
  show Z _ _ _ _ _ _ _ _ 11 _ []
  refine z_aload_n C d_W_derive_11 rfl rfl ?_
  refine z_get C in_W hc0_8 rfl 0 (by decide) fl_W_16 rfl rfl d_W_derive_12 ?_
  refine z_aload_n C d_W_derive_15 rfl rfl ?_
  refine z_get C in_W hc0_8 rfl 2 (by decide) fl_W_23 rfl rfl d_W_derive_16 ?_
  refine z_aload_n C d_W_derive_19 rfl rfl ?_
  refine z_getN C in_F hc1_8 rfl 1 (by decide) fl_W_41 rfl rfl d_W_derive_20 ?_
  refine z_callV (rest := []) (n := 2) (As := [.ref (w + 5), .ref (q1 + 3)]) C (p_setProduct E X.2.1 sz _ hq0_8 hn_8 hq8_8 (by omega) (by omega) (by have := zp_le hn_8 (der_z (m := 12) (zp_pol h1.2.1).1 (by omega)); omega)) ⟨z_cb C k_P_setProduct ml_W_42 ii_P rfl rfl (by decide +kernel) ⟨by decide, by decide⟩, C.2.2.2.2.1 _ im_P_setProduct, C.2.2.2.2.1 _ se_P_setProduct⟩ (zp_c0 hq0_8) rfl rfl rfl (Nat.le_of_ble_eq_true rfl) d_W_derive_23 ⟨by decide, by decide⟩ ?_
  intro v_23 s_23 M_23 hp_23
  obtain ⟨rfl, rfl, ⟨k_23, hn_23⟩, ho_23⟩ := hp_23
  have hc0_23 := (ho_23 _ (by omega) (by omega)).trans hc0_8
  have hc1_23 := (ho_23 _ (by omega) (by omega)).trans hc1_8
  have hq1_23 := zp_o ho_23 hq1_8 (by omega)
  have hq2_23 := zp_o ho_23 hn_8 (by omega)
  have hq3_23 := zp_o ho_23 hq3_8 (by omega)
  have hq4_23 := zp_o ho_23 hq4_8 (by omega)
  have hq5_23 := zp_o ho_23 hq5_8 (by omega)
  have hq6_23 := zp_o ho_23 hq6_8 (by omega)
  have hq7_23 := zp_o ho_23 hq7_8 (by omega)
  have hq8_23 := zp_o ho_23 hq8_8 (by omega)
  show Z _ _ _ _ _ _ _ _ 26 _ []
  refine z_aload_n C d_W_derive_26 rfl rfl ?_
  refine z_get C in_W hc0_23 rfl 2 (by decide) fl_W_23 rfl rfl d_W_derive_27 ?_
  refine z_aload_n C d_W_derive_30 rfl rfl ?_
  refine z_getN C in_F hc1_23 rfl 1 (by decide) fl_W_41 rfl rfl d_W_derive_31 ?_
  refine z_callV (rest := []) (n := 1) (As := [.ref (q1 + 3)]) C (p_setDerivative E X.2.1 sz _ hq2_23 hq8_23 (by omega) (by have := zp_lt hq8_23; omega)) ⟨z_cb C k_P_setDerivative ml_W_61 ii_P rfl rfl (by decide +kernel) ⟨by decide, by decide⟩, C.2.2.2.2.1 _ im_P_setDerivative, C.2.2.2.2.1 _ se_P_setDerivative⟩ (zp_c0 hq2_23) rfl rfl rfl (Nat.le_of_ble_eq_true rfl) d_W_derive_34 ⟨by decide, by decide⟩ ?_
  intro v_34 s_34 M_34 hp_34
  obtain ⟨rfl, rfl, ⟨k_34, hn_34⟩, ho_34⟩ := hp_34
  have hc0_34 := (ho_34 _ (by omega) (by omega)).trans hc0_23
  have hc1_34 := (ho_34 _ (by omega) (by omega)).trans hc1_23
  have hq0_34 := zp_o ho_34 hn_23 (by omega)
  have hq1_34 := zp_o ho_34 hq1_23 (by omega)
  have hq3_34 := zp_o ho_34 hq3_23 (by omega)
  have hq4_34 := zp_o ho_34 hq4_23 (by omega)
  have hq5_34 := zp_o ho_34 hq5_23 (by omega)
  have hq6_34 := zp_o ho_34 hq6_23 (by omega)
  have hq7_34 := zp_o ho_34 hq7_23 (by omega)
  have hq8_34 := zp_o ho_34 hq8_23 (by omega)
  show Z _ _ _ _ _ _ _ _ 37 _ []
  refine z_aload_n C d_W_derive_37 rfl rfl ?_
  refine z_get C in_W hc0_34 rfl 3 (by decide) fl_W_26 rfl rfl d_W_derive_38 ?_
  refine z_aload_n C d_W_derive_41 rfl rfl ?_
  refine z_getN C in_F hc1_34 rfl 0 (by decide) fl_W_38 rfl rfl d_W_derive_42 ?_
  refine z_aload_n C d_W_derive_45 rfl rfl ?_
  refine z_get C in_W hc0_34 rfl 2 (by decide) fl_W_23 rfl rfl d_W_derive_46 ?_
  refine z_callV (rest := []) (n := 2) (As := [.ref (q1 + 1), .ref (w + 5)]) C (p_setProduct E X.2.1 sz _ hq3_34 hq7_34 hn_34 (by omega) (by omega) (by have := zp_le hn_34 (der_z (m := 12) (zp_pol h1.2.2).1 (by omega)); omega)) ⟨z_cb C k_P_setProduct ml_W_42 ii_P rfl rfl (by decide +kernel) ⟨by decide, by decide⟩, C.2.2.2.2.1 _ im_P_setProduct, C.2.2.2.2.1 _ se_P_setProduct⟩ (zp_c0 hq3_34) rfl rfl rfl (Nat.le_of_ble_eq_true rfl) d_W_derive_49 ⟨by decide, by decide⟩ ?_
  intro v_49 s_49 M_49 hp_49
  obtain ⟨rfl, rfl, ⟨k_49, hn_49⟩, ho_49⟩ := hp_49
  have hc0_49 := (ho_49 _ (by omega) (by omega)).trans hc0_34
  have hc1_49 := (ho_49 _ (by omega) (by omega)).trans hc1_34
  have hq0_49 := zp_o ho_49 hq0_34 (by omega)
  have hq1_49 := zp_o ho_49 hq1_34 (by omega)
  have hq2_49 := zp_o ho_49 hn_34 (by omega)
  have hq4_49 := zp_o ho_49 hq4_34 (by omega)
  have hq5_49 := zp_o ho_49 hq5_34 (by omega)
  have hq6_49 := zp_o ho_49 hq6_34 (by omega)
  have hq7_49 := zp_o ho_49 hq7_34 (by omega)
  have hq8_49 := zp_o ho_49 hq8_34 (by omega)
  show Z _ _ _ _ _ _ _ _ 52 _ []
  refine z_aload_n C d_W_derive_52 rfl rfl ?_
  refine z_get C in_W hc0_49 rfl 0 (by decide) fl_W_16 rfl rfl d_W_derive_53 ?_
  refine z_aload_n C d_W_derive_56 rfl rfl ?_
  refine z_get C in_W hc0_49 rfl 3 (by decide) fl_W_26 rfl rfl d_W_derive_57 ?_
  refine z_sipush (v := fI 10006) C d_W_derive_60 (by decide) ?_
  refine z_callV (rest := []) (n := 2) (As := [.ref (w + 7), .int (fI 10006)]) C (p_addMultiple E X.2.1 sz _ hq0_49 hn_49 (by omega) (by have := zp_lt hn_49; omega) 10006) ⟨z_cb C k_P_addMultiple ml_W_46 ii_P rfl rfl (by decide +kernel) ⟨by decide, by decide⟩, C.2.2.2.2.1 _ im_P_addMultiple, C.2.2.2.2.1 _ se_P_addMultiple⟩ (zp_c0 hq0_49) rfl rfl rfl (Nat.le_of_ble_eq_true rfl) d_W_derive_63 ⟨by decide, by decide⟩ ?_
  intro v_63 s_63 M_63 hp_63
  obtain ⟨rfl, rfl, ⟨k_63, hn_63⟩, ho_63⟩ := hp_63
  have hc0_63 := (ho_63 _ (by omega) (by omega)).trans hc0_49
  have hc1_63 := (ho_63 _ (by omega) (by omega)).trans hc1_49
  have hq1_63 := zp_o ho_63 hq1_49 (by omega)
  have hq2_63 := zp_o ho_63 hq2_49 (by omega)
  have hq3_63 := zp_o ho_63 hn_49 (by omega)
  have hq4_63 := zp_o ho_63 hq4_49 (by omega)
  have hq5_63 := zp_o ho_63 hq5_49 (by omega)
  have hq6_63 := zp_o ho_63 hq6_49 (by omega)
  have hq7_63 := zp_o ho_63 hq7_49 (by omega)
  have hq8_63 := zp_o ho_63 hq8_49 (by omega)
  show Z _ _ _ _ _ _ _ _ 66 _ []
  refine z_aload_n C d_W_derive_66 rfl rfl ?_
  refine z_get C in_W hc0_63 rfl 1 (by decide) fl_W_20 rfl rfl d_W_derive_67 ?_
  refine z_aload_n C d_W_derive_70 rfl rfl ?_
  refine z_getN C in_F hc1_63 rfl 1 (by decide) fl_W_41 rfl rfl d_W_derive_71 ?_
  refine z_aload_n C d_W_derive_74 rfl rfl ?_
  refine z_getN C in_F hc1_63 rfl 1 (by decide) fl_W_41 rfl rfl d_W_derive_75 ?_
  refine z_callV (rest := []) (n := 2) (As := [.ref (q1 + 3), .ref (q1 + 3)]) C (p_setProduct E X.2.1 sz _ hq1_63 hq8_63 hq8_63 (by omega) (by omega) (by have := zp_lt hq8_63; have := zp_lt hq8_63; omega)) ⟨z_cb C k_P_setProduct ml_W_42 ii_P rfl rfl (by decide +kernel) ⟨by decide, by decide⟩, C.2.2.2.2.1 _ im_P_setProduct, C.2.2.2.2.1 _ se_P_setProduct⟩ (zp_c0 hq1_63) rfl rfl rfl (Nat.le_of_ble_eq_true rfl) d_W_derive_78 ⟨by decide, by decide⟩ ?_
  intro v_78 s_78 M_78 hp_78
  obtain ⟨rfl, rfl, ⟨k_78, hn_78⟩, ho_78⟩ := hp_78
  have hc0_78 := (ho_78 _ (by omega) (by omega)).trans hc0_63
  have hc1_78 := (ho_78 _ (by omega) (by omega)).trans hc1_63
  have hq0_78 := zp_o ho_78 hn_63 (by omega)
  have hq2_78 := zp_o ho_78 hq2_63 (by omega)
  have hq3_78 := zp_o ho_78 hq3_63 (by omega)
  have hq4_78 := zp_o ho_78 hq4_63 (by omega)
  have hq5_78 := zp_o ho_78 hq5_63 (by omega)
  have hq6_78 := zp_o ho_78 hq6_63 (by omega)
  have hq7_78 := zp_o ho_78 hq7_63 (by omega)
  have hq8_78 := zp_o ho_78 hq8_63 (by omega)
  show Z _ _ _ _ _ _ _ _ 81 _ []
  exact z_vret C ⟨rfl, rfl, ⟨_, _, ⟨hc0_78, hq0_78, hn_78, ⟨_, _, hq2_78⟩, ⟨_, _, hq3_78⟩, ⟨_, _, hq4_78⟩, ⟨_, _, hq5_78⟩, ⟨_, _, hq6_78⟩⟩⟩, zoutR_tr (zoutR_tr (zoutR_tr (zoutR_tr (zoutR_tr (zoutR_tr zoutR_rf (zout_R ho_8 (by omega) (by omega))) (zout_R ho_23 (by omega) (by omega))) (zout_R ho_34 (by omega) (by omega))) (zout_R ho_49 (by omega) (by omega))) (zout_R ho_63 (by omega) (by omega))) (zout_R ho_78 (by omega) (by omega))⟩ d_W_derive_81
