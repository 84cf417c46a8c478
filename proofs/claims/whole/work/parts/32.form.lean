set_option maxHeartbeats 4000000 in
/-- Form.part -/
theorem f_part (E : zE) (l : Launch) (sz : Nat) (M : zM) {q kn kd : Nat} {N D : PS} (h : zf E M q kn kd N D) (b : Bool) : zMet E l y_F_part c_F_part 2 (some (FieldType.object "RationalSession$Polynomial")) { frames := 0, cells := 0, slots := 0, locals := 0 } 0 0 [.ref q, .int (if b then 1 else 0)] sz M (zRet (some (.ref (if b then q + 3 else q + 1))) sz M) := by
  refine zMet.ofZ (by decide) (Nat.le_of_ble_eq_true rfl) ?_
  intro X hl hini C
  cases b
  · show Z X E 2 (zQ X E 0 0 (zRet (some (.ref (q + 1))) sz M)) 0 0 sz M 0 [(0, .ref q), (1, .int 0)] []
    refine z_iload_n C d_F_part_0 rfl rfl ?_
    refine z_if_eq (tgt := 11) C d_F_part_1 (by decide) (fun _ => ?_) (fun c_1 => absurd (by decide) c_1)
    refine z_aload_n C d_F_part_11 rfl rfl ?_
    refine z_get C in_F h.1 rfl 0 (by decide) fl_F_14 rfl rfl d_F_part_12 ?_
    exact z_aret C (Or.inl ⟨_, rfl⟩) (Or.inr ⟨_, rfl⟩) ⟨rfl, rfl, rfl⟩ d_F_part_15
  · show Z X E 2 (zQ X E 0 0 (zRet (some (.ref (q + 3))) sz M)) 0 0 sz M 0 [(0, .ref q), (1, .int 1)] []
    refine z_iload_n C d_F_part_0 rfl rfl ?_
    refine z_if_eq (tgt := 11) C d_F_part_1 (by decide) (fun c_1 => absurd c_1 (by decide)) (fun _ => ?_)
    refine z_aload_n C d_F_part_4 rfl rfl ?_
    refine z_get C in_F h.1 rfl 1 (by decide) fl_F_20 rfl rfl d_F_part_5 ?_
    refine z_goto (tgt := 15) C d_F_part_8 (by decide) ?_
    exact z_aret C (Or.inl ⟨_, rfl⟩) (Or.inr ⟨_, rfl⟩) ⟨rfl, rfl, rfl⟩ d_F_part_15
set_option maxHeartbeats 4000000 in
/-- Form.isZero -/
theorem f_isZero (E : zE) (l : Launch) (sz : Nat) (M : zM) {q kn kd : Nat} {N D : PS} (h : zf E M q kn kd N D) : zMet E l y_F_isZero c_F_isZero 1 (some .boolean) { frames := 1, cells := 0, slots := 0, locals := 20 } 0 0 [.ref q] sz M (zRet (some (.int (if kn = 0 then 1 else 0))) sz M) := by
  refine zMet.ofZ (by decide) (Nat.le_of_ble_eq_true rfl) ?_
  intro X hl hini C
  show Z X E 1 _ 0 0 sz M 0 [(0, .ref q)] []
  refine z_aload_n C d_F_isZero_0 rfl rfl ?_
  refine z_get C in_F h.1 rfl 0 (by decide) fl_F_14 rfl rfl d_F_isZero_1 ?_
  refine z_callV (rest := []) (n := 0) (As := []) C (p_isZero E X.2.1 sz _ h.2.1) ⟨z_cb C k_P_isZero ml_F_23 ii_P rfl rfl (by decide +kernel) ⟨by decide, by decide⟩, C.2.2.2.2.1 _ im_P_isZero, C.2.2.2.2.1 _ se_P_isZero⟩ (zp_c0 h.2.1) rfl rfl rfl (Nat.le_of_ble_eq_true rfl) d_F_isZero_4 ⟨by decide, by decide⟩ ?_
  intro v_4 s_4 M_4 hp_4
  obtain ⟨rfl, rfl, rfl⟩ := hp_4
  show Z _ _ _ _ _ _ _ _ 7 _ [.int (if kn = 0 then 1 else 0)]
  exact z_zret C (by split <;> rfl) ⟨rfl, rfl, rfl⟩ d_F_isZero_7
set_option maxHeartbeats 4000000 in
/-- Form.height -/
theorem f_height (E : zE) (l : Launch) (sz : Nat) (M : zM) {q kn kd : Nat} {N D : PS} (h : zf E M q kn kd N D) : zMet E l y_F_height c_F_height 1 (some .int) { frames := 1, cells := 0, slots := 0, locals := 21 } 0 0 [.ref q] sz M (zRet (some (.int (tI (max kn kd)))) sz M) := by
  refine zMet.ofZ (by decide) (Nat.le_of_ble_eq_true rfl) ?_
  intro X hl hini C
  show Z X E 1 _ 0 0 sz M 0 [(0, .ref q)] []
  refine z_aload_n C d_F_height_0 rfl rfl ?_
  refine z_get C in_F h.1 rfl 0 (by decide) fl_F_14 rfl rfl d_F_height_1 ?_
  refine z_getN C in_P (zp_c0 h.2.1) rfl 1 (by decide) fl_F_27 rfl rfl d_F_height_4 ?_
  refine z_aload_n C d_F_height_7 rfl rfl ?_
  refine z_get C in_F h.1 rfl 1 (by decide) fl_F_20 rfl rfl d_F_height_8 ?_
  refine z_getN C in_P (zp_c0 h.2.2) rfl 1 (by decide) fl_F_27 rfl rfl d_F_height_11 ?_
  refine z_mmax C ml_F_31 sm_jM_max ii_jM k_jM_max (by decide) (Nat.le_of_ble_eq_true rfl) (Nat.zero_le _) (Nat.zero_le _) d_F_height_14 ?_
  refine z_top (y := tI (max kn kd)) (tI_max (by have := zp_lt h.2.1; omega) (by have := zp_lt h.2.2; omega)) ?_
  exact z_iret C ⟨rfl, rfl, rfl⟩ d_F_height_17
set_option maxHeartbeats 4000000 in
/-- Form.setConstant -/
theorem f_setConstant (E : zE) (l : Launch) (sz : Nat) (M : zM) {q kn kd : Nat} {N D : PS} (h : zf E M q kn kd N D) (c : FF) : zMet E l y_F_setConstant c_F_setConstant 2 none { frames := 1, cells := 0, slots := 0, locals := 21 } 0 0 [.ref q, .int (fI c)] sz M (fun v s M' => none = v ∧ sz = s ∧ zf E M' q (if c = 0 then 0 else 1) (if (1 : FF) = 0 then 0 else 1) (ps_C c) (ps_C 1) ∧ zoutR M M' (q + 1) (q + 5)) := by
  refine zMet.ofZ (by decide) (Nat.le_of_ble_eq_true rfl) ?_
  intro X hl hini C
  show Z X E 2 _ 0 0 sz M 0 [(0, .ref q), (1, .int (fI c))] []
  refine z_aload_n C d_F_setConstant_0 rfl rfl ?_
  refine z_get C in_F h.1 rfl 0 (by decide) fl_F_14 rfl rfl d_F_setConstant_1 ?_
  refine z_iload_n C d_F_setConstant_4 rfl rfl ?_
  refine z_callV (rest := []) (n := 1) (As := [.int (fI c)]) C (p_setConstant E X.2.1 sz _ h.2.1 (by omega) c) ⟨z_cb C k_P_setConstant ml_F_37 ii_P rfl rfl (by decide +kernel) ⟨by decide, by decide⟩, C.2.2.2.2.1 _ im_P_setConstant, C.2.2.2.2.1 _ se_P_setConstant⟩ (zp_c0 h.2.1) rfl rfl rfl (Nat.le_of_ble_eq_true rfl) d_F_setConstant_5 ⟨by decide, by decide⟩ ?_
  intro v_5 s_5 M_5 hp_5
  obtain ⟨rfl, rfl, hn_5, ho_5⟩ := hp_5
  have hc0_5 := (ho_5 _ (by omega) (by omega)).trans h.1
  have hq1_5 := zp_o ho_5 h.2.2 (by omega)
  show Z _ _ _ _ _ _ _ _ 8 _ []
  refine z_aload_n C d_F_setConstant_8 rfl rfl ?_
  refine z_get C in_F hc0_5 rfl 1 (by decide) fl_F_20 rfl rfl d_F_setConstant_9 ?_
  refine z_iconst (v := fI 1) C d_F_setConstant_12 (by decide) ?_
  refine z_callV (rest := []) (n := 1) (As := [.int (fI 1)]) C (p_setConstant E X.2.1 sz _ hq1_5 (by omega) 1) ⟨z_cb C k_P_setConstant ml_F_37 ii_P rfl rfl (by decide +kernel) ⟨by decide, by decide⟩, C.2.2.2.2.1 _ im_P_setConstant, C.2.2.2.2.1 _ se_P_setConstant⟩ (zp_c0 hq1_5) rfl rfl rfl (Nat.le_of_ble_eq_true rfl) d_F_setConstant_13 ⟨by decide, by decide⟩ ?_
  intro v_13 s_13 M_13 hp_13
  obtain ⟨rfl, rfl, hn_13, ho_13⟩ := hp_13
  have hc0_13 := (ho_13 _ (by omega) (by omega)).trans hc0_5
  have hq0_13 := zp_o ho_13 hn_5 (by omega)
  show Z _ _ _ _ _ _ _ _ 16 _ []
  exact z_vret C ⟨rfl, rfl, ⟨hc0_13, hq0_13, hn_13⟩, zoutR_tr (zoutR_tr zoutR_rf (zout_R ho_5 (by omega) (by omega))) (zout_R ho_13 (by omega) (by omega))⟩ d_F_setConstant_16
set_option maxHeartbeats 4000000 in
/-- Form.setLetter -/
theorem f_setLetter (E : zE) (l : Launch) (sz : Nat) (M : zM) {q kn kd : Nat} {N D : PS} (h : zf E M q kn kd N D) : zMet E l y_F_setLetter c_F_setLetter 1 none { frames := 1, cells := 0, slots := 0, locals := 21 } 0 0 [.ref q] sz M (fun v s M' => none = v ∧ sz = s ∧ zf E M' q 2 (if (1 : FF) = 0 then 0 else 1) (mono 1 1) (ps_C 1) ∧ zoutR M M' (q + 1) (q + 5)) := by
  refine zMet.ofZ (by decide) (Nat.le_of_ble_eq_true rfl) ?_
  intro X hl hini C
  show Z X E 1 _ 0 0 sz M 0 [(0, .ref q)] []
  refine z_aload_n C d_F_setLetter_0 rfl rfl ?_
  refine z_get C in_F h.1 rfl 0 (by decide) fl_F_14 rfl rfl d_F_setLetter_1 ?_
  refine z_callV (rest := []) (n := 0) (As := []) C (p_setLetter E X.2.1 sz _ h.2.1 (by omega)) ⟨z_cb C k_P_setLetter ml_F_40 ii_P rfl rfl (by decide +kernel) ⟨by decide, by decide⟩, C.2.2.2.2.1 _ im_P_setLetter, C.2.2.2.2.1 _ se_P_setLetter⟩ (zp_c0 h.2.1) rfl rfl rfl (Nat.le_of_ble_eq_true rfl) d_F_setLetter_4 ⟨by decide, by decide⟩ ?_
  intro v_4 s_4 M_4 hp_4
  obtain ⟨rfl, rfl, hn_4, ho_4⟩ := hp_4
  have hc0_4 := (ho_4 _ (by omega) (by omega)).trans h.1
  have hq1_4 := zp_o ho_4 h.2.2 (by omega)
  show Z _ _ _ _ _ _ _ _ 7 _ []
  refine z_aload_n C d_F_setLetter_7 rfl rfl ?_
  refine z_get C in_F hc0_4 rfl 1 (by decide) fl_F_20 rfl rfl d_F_setLetter_8 ?_
  refine z_iconst (v := fI 1) C d_F_setLetter_11 (by decide) ?_
  refine z_callV (rest := []) (n := 1) (As := [.int (fI 1)]) C (p_setConstant E X.2.1 sz _ hq1_4 (by omega) 1) ⟨z_cb C k_P_setConstant ml_F_37 ii_P rfl rfl (by decide +kernel) ⟨by decide, by decide⟩, C.2.2.2.2.1 _ im_P_setConstant, C.2.2.2.2.1 _ se_P_setConstant⟩ (zp_c0 hq1_4) rfl rfl rfl (Nat.le_of_ble_eq_true rfl) d_F_setLetter_12 ⟨by decide, by decide⟩ ?_
  intro v_12 s_12 M_12 hp_12
  obtain ⟨rfl, rfl, hn_12, ho_12⟩ := hp_12
  have hc0_12 := (ho_12 _ (by omega) (by omega)).trans hc0_4
  have hq0_12 := zp_o ho_12 hn_4 (by omega)
  show Z _ _ _ _ _ _ _ _ 15 _ []
  exact z_vret C ⟨rfl, rfl, ⟨hc0_12, hq0_12, hn_12⟩, zoutR_tr (zoutR_tr zoutR_rf (zout_R ho_4 (by omega) (by omega))) (zout_R ho_12 (by omega) (by omega))⟩ d_F_setLetter_15
set_option maxHeartbeats 4000000 in
/-- Form.copy -/
theorem f_copy (E : zE) (l : Launch) (sz : Nat) (M : zM) {q kn kd : Nat} {N D : PS} (h : zf E M q kn kd N D) {r km ke : Nat} {A B : PS} (g : zf E M r km ke A B) (hqr : q + 5 ≤ r ∨ r + 5 ≤ q) : zMet E l y_F_copy c_F_copy 2 none { frames := 2, cells := 0, slots := 0, locals := 43 } 0 0 [.ref q, .ref r] sz M (fun v s M' => none = v ∧ sz = s ∧ zf E M' q km ke A B ∧ zoutR M M' (q + 1) (q + 5)) := by
  refine zMet.ofZ (by decide) (Nat.le_of_ble_eq_true rfl) ?_
  intro X hl hini C
  show Z X E 2 _ 0 0 sz M 0 [(0, .ref q), (1, .ref r)] []
  refine z_aload_n C d_F_copy_0 rfl rfl ?_
  refine z_get C in_F h.1 rfl 0 (by decide) fl_F_14 rfl rfl d_F_copy_1 ?_
  refine z_aload_n C d_F_copy_4 rfl rfl ?_
  refine z_get C in_F g.1 rfl 0 (by decide) fl_F_14 rfl rfl d_F_copy_5 ?_
  refine z_callV (rest := []) (n := 1) (As := [.ref (r + 1)]) C (p_copy E X.2.1 sz _ h.2.1 g.2.1 (by omega) (by have := zp_lt g.2.1; omega)) ⟨z_cb C k_P_copy ml_F_43 ii_P rfl rfl (by decide +kernel) ⟨by decide, by decide⟩, C.2.2.2.2.1 _ im_P_copy, C.2.2.2.2.1 _ se_P_copy⟩ (zp_c0 h.2.1) rfl rfl rfl (Nat.le_of_ble_eq_true rfl) d_F_copy_8 ⟨by decide, by decide⟩ ?_
  intro v_8 s_8 M_8 hp_8
  obtain ⟨rfl, rfl, hn_8, ho_8⟩ := hp_8
  have hc0_8 := (ho_8 _ (by omega) (by omega)).trans h.1
  have hc1_8 := (ho_8 _ (by omega) (by omega)).trans g.1
  have hq1_8 := zp_o ho_8 h.2.2 (by omega)
  have hq2_8 := zp_o ho_8 g.2.1 (by omega)
  have hq3_8 := zp_o ho_8 g.2.2 (by omega)
  show Z _ _ _ _ _ _ _ _ 11 _ []
  refine z_aload_n C d_F_copy_11 rfl rfl ?_
  refine z_get C in_F hc0_8 rfl 1 (by decide) fl_F_20 rfl rfl d_F_copy_12 ?_
  refine z_aload_n C d_F_copy_15 rfl rfl ?_
  refine z_get C in_F hc1_8 rfl 1 (by decide) fl_F_20 rfl rfl d_F_copy_16 ?_
  refine z_callV (rest := []) (n := 1) (As := [.ref (r + 3)]) C (p_copy E X.2.1 sz _ hq1_8 hq3_8 (by omega) (by have := zp_lt hq3_8; omega)) ⟨z_cb C k_P_copy ml_F_43 ii_P rfl rfl (by decide +kernel) ⟨by decide, by decide⟩, C.2.2.2.2.1 _ im_P_copy, C.2.2.2.2.1 _ se_P_copy⟩ (zp_c0 hq1_8) rfl rfl rfl (Nat.le_of_ble_eq_true rfl) d_F_copy_19 ⟨by decide, by decide⟩ ?_
  intro v_19 s_19 M_19 hp_19
  obtain ⟨rfl, rfl, hn_19, ho_19⟩ := hp_19
  have hc0_19 := (ho_19 _ (by omega) (by omega)).trans hc0_8
  have hc1_19 := (ho_19 _ (by omega) (by omega)).trans hc1_8
  have hq0_19 := zp_o ho_19 hn_8 (by omega)
  have hq2_19 := zp_o ho_19 hq2_8 (by omega)
  have hq3_19 := zp_o ho_19 hq3_8 (by omega)
  show Z _ _ _ _ _ _ _ _ 22 _ []
  exact z_vret C ⟨rfl, rfl, ⟨hc0_19, hq0_19, hn_19⟩, zoutR_tr (zoutR_tr zoutR_rf (zout_R ho_8 (by omega) (by omega))) (zout_R ho_19 (by omega) (by omega))⟩ d_F_copy_22
set_option maxHeartbeats 4000000 in
/-- Form.isSame -/
theorem f_isSame (E : zE) (l : Launch) (sz : Nat) (M : zM) {q kn kd : Nat} {N D : PS} (h : zf E M q kn kd N D) {r km ke : Nat} {A B : PS} (g : zf E M r km ke A B) : zMet E l y_F_isSame c_F_isSame 2 (some .boolean) { frames := 2, cells := 0, slots := 0, locals := 43 } 0 0 [.ref q, .ref r] sz M (fun v s M' => sz = s ∧ M = M' ∧ (((N = A ∧ D = B) ∧ some (.int 1) = v) ∨ (¬ (N = A ∧ D = B) ∧ some (.int 0) = v))) := by
  refine zMet.ofZ (by decide) (Nat.le_of_ble_eq_true rfl) ?_
  intro X hl hini C
  show Z X E 2 _ 0 0 sz M 0 [(0, .ref q), (1, .ref r)] []
  refine z_aload_n C d_F_isSame_0 rfl rfl ?_
  refine z_get C in_F h.1 rfl 0 (by decide) fl_F_14 rfl rfl d_F_isSame_1 ?_
  refine z_aload_n C d_F_isSame_4 rfl rfl ?_
  refine z_get C in_F g.1 rfl 0 (by decide) fl_F_14 rfl rfl d_F_isSame_5 ?_
  refine z_callV (rest := []) (n := 1) (As := [.ref (r + 1)]) C (p_isSame E X.2.1 sz _ h.2.1 g.2.1) ⟨z_cb C k_P_isSame ml_F_47 ii_P rfl rfl (by decide +kernel) ⟨by decide, by decide⟩, C.2.2.2.2.1 _ im_P_isSame, C.2.2.2.2.1 _ se_P_isSame⟩ (zp_c0 h.2.1) rfl rfl rfl (Nat.le_of_ble_eq_true rfl) d_F_isSame_8 ⟨by decide, by decide⟩ ?_
  intro v_8 s_8 M_8 hp_8
  obtain ⟨rfl, rfl, ⟨e_8, rfl⟩ | ⟨e_8, rfl⟩⟩ := hp_8
  · show Z _ _ _ _ _ _ _ _ 11 _ [.int 1]
    refine z_if_eq (tgt := 32) C d_F_isSame_11 (by decide) (fun c_11 => absurd c_11 (by decide)) (fun _ => ?_)
    refine z_aload_n C d_F_isSame_14 rfl rfl ?_
    refine z_get C in_F h.1 rfl 1 (by decide) fl_F_20 rfl rfl d_F_isSame_15 ?_
    refine z_aload_n C d_F_isSame_18 rfl rfl ?_
    refine z_get C in_F g.1 rfl 1 (by decide) fl_F_20 rfl rfl d_F_isSame_19 ?_
    refine z_callV (rest := []) (n := 1) (As := [.ref (r + 3)]) C (p_isSame E X.2.1 sz _ h.2.2 g.2.2) ⟨z_cb C k_P_isSame ml_F_47 ii_P rfl rfl (by decide +kernel) ⟨by decide, by decide⟩, C.2.2.2.2.1 _ im_P_isSame, C.2.2.2.2.1 _ se_P_isSame⟩ (zp_c0 h.2.2) rfl rfl rfl (Nat.le_of_ble_eq_true rfl) d_F_isSame_22 ⟨by decide, by decide⟩ ?_
    intro v_22 s_22 M_22 hp_22
    obtain ⟨rfl, rfl, ⟨e_22, rfl⟩ | ⟨e_22, rfl⟩⟩ := hp_22
    · show Z _ _ _ _ _ _ _ _ 25 _ [.int 1]
      refine z_if_eq (tgt := 32) C d_F_isSame_25 (by decide) (fun c_25 => absurd c_25 (by decide)) (fun _ => ?_)
      refine z_iconst (v := 1) C d_F_isSame_28 (by decide) ?_
      refine z_goto (tgt := 33) C d_F_isSame_29 (by decide) ?_
      exact z_zret C rfl ⟨rfl, rfl, Or.inl ⟨⟨e_8, e_22⟩, rfl⟩⟩ d_F_isSame_33
    · show Z _ _ _ _ _ _ _ _ 25 _ [.int 0]
      refine z_if_eq (tgt := 32) C d_F_isSame_25 (by decide) (fun _ => ?_) (fun c_25 => absurd (by decide) c_25)
      refine z_iconst (v := 0) C d_F_isSame_32 (by decide) ?_
      exact z_zret C rfl ⟨rfl, rfl, Or.inr ⟨by first | exact fun q => e_8 q.1 | exact fun q => e_22 q.2, rfl⟩⟩ d_F_isSame_33
  · show Z _ _ _ _ _ _ _ _ 11 _ [.int 0]
    refine z_if_eq (tgt := 32) C d_F_isSame_11 (by decide) (fun _ => ?_) (fun c_11 => absurd (by decide) c_11)
    refine z_iconst (v := 0) C d_F_isSame_32 (by decide) ?_
    exact z_zret C rfl ⟨rfl, rfl, Or.inr ⟨by first | exact fun q => e_8 q.1 | exact fun q => e_22 q.2, rfl⟩⟩ d_F_isSame_33
