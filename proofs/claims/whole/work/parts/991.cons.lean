theorem dflt_P : ∀ j, j < 2 → defaultValue (ty_P j) = vp_V [.null, .int 0] j := by
  intro j hj
  rcases (by omega : j = 0 ∨ j = 1) with e | e <;> subst e <;> rfl
theorem dflt_F : ∀ j, j < 2 → defaultValue (ty_F j) = vp_V [.null, .null] j := by
  intro j hj
  rcases (by omega : j = 0 ∨ j = 1) with e | e <;> subst e <;> rfl
theorem dflt_W : ∀ j, j < 7 → defaultValue (ty_W j) = vp_V [.null, .null, .null, .null, .null, .null, .null] j := by
  intro j hj
  rcases (by omega : j = 0 ∨ j = 1 ∨ j = 2 ∨ j = 3 ∨ j = 4 ∨ j = 5 ∨ j = 6) with e | e | e | e | e | e | e <;> subst e <;> rfl
theorem dflt_K : ∀ j, j < 3 → defaultValue (ty_K j) = vp_V [.null, .null, .int 0] j := by
  intro j hj
  rcases (by omega : j = 0 ∨ j = 1 ∨ j = 2) with e | e | e <;> subst e <;> rfl
theorem dflt_H : ∀ j, j < 5 → defaultValue (ty_H j) = vp_V [.null, .null, .null, .int 0, .int 0] j := by
  intro j hj
  rcases (by omega : j = 0 ∨ j = 1 ∨ j = 2 ∨ j = 3 ∨ j = 4) with e | e | e | e | e <;> subst e <;> rfl
theorem dflt_L : ∀ j, j < 2 → defaultValue (ty_L j) = vp_V [.null, .int 0] j := by
  intro j hj
  rcases (by omega : j = 0 ∨ j = 1) with e | e <;> subst e <;> rfl
theorem dflt_R : ∀ j, j < 11 → defaultValue (ty_R j) = vp_V [.null, .null, .null, .int 0, .null, .null, .int 0, .int 0, .int 0, .int 0, .int 0] j := by
  intro j hj
  rcases (by omega : j = 0 ∨ j = 1 ∨ j = 2 ∨ j = 3 ∨ j = 4 ∨ j = 5 ∨ j = 6 ∨ j = 7 ∨ j = 8 ∨ j = 9 ∨ j = 10) with e | e | e | e | e | e | e | e | e | e | e <;> subst e <;> rfl
theorem dflt_G : ∀ j, j < 4 → defaultValue (ty_G j) = vp_V [.null, .null, .int 0, .int 0] j := by
  intro j hj
  rcases (by omega : j = 0 ∨ j = 1 ∨ j = 2 ∨ j = 3) with e | e | e | e <;> subst e <;> rfl
theorem dflt_T : ∀ j, j < 3 → defaultValue (ty_T j) = vp_V [.int 0, .int 0, .int 0] j := by
  intro j hj
  rcases (by omega : j = 0 ∨ j = 1 ∨ j = 2) with e | e | e <;> subst e <;> rfl
set_option maxHeartbeats 4000000 in
theorem f_init (E : zE) (l : Launch) (M : zM) {a : Nat} (h0 : M a = some (.inr (1, [.null, .null]))) : zMet E l y_F_init c_F_init 1 none { frames := 2, cells := 4, slots := 30, locals := 41 } 4 30 [.ref a] (a + 1) M (fun v s M' => none = v ∧ a + 5 = s ∧ zf E M' a 0 0 ps_0 ps_0 ∧ zoutR M M' a (a + 5)) := by
  refine zMet.ofZ (by decide) (Nat.le_of_ble_eq_true rfl) ?_
  intro X hl hini C
  show Z X E 1 _ 0 0 (a + 1) M 0 [(0, .ref a)] []
  refine z_aload_n C d_F_init_0 rfl rfl ?_
  refine z_obj C ml_F_3 im_jO_init k_jO_init d_F_init_1 (Nat.le_of_ble_eq_true rfl) (Nat.le_of_ble_eq_true rfl) ?_
  refine z_aload_n C d_F_init_4 rfl rfl ?_
  refine z_new (ci := 3) (fs := [.null, .int 0]) C in_P ty_P tok_P cl_F_9 in_P_made ii_P rfl (dflt_P) (Nat.le_of_ble_eq_true rfl) (Nat.le_of_ble_eq_true rfl) d_F_init_5 ?_
  obtain ⟨N_1, hN_1⟩ : ∃ N : zM, N = zU M (a + 1) (.inr (3, [.null, .int 0])) := ⟨_, rfl⟩
  refine z_world (M' := N_1) hN_1.symm ?_
  have hn_1 : N_1 (a + 1) = some (.inr (3, [.null, .int 0])) := by rw [hN_1]; exact zU_eq
  have ho_1 : zoutR M N_1 (a + 1) (a + 1 + 1) := by rw [hN_1]; exact fun q hq => zU_ne (by omega)
  have hc0_2 := (ho_1 (a) (by omega)).trans h0
  have hf_1 : zoutR M N_1 (a) (a + 5) := zoutR_tr zoutR_rf (zoutR_w ho_1 (by omega) (by omega))
  refine z_dup C d_F_init_8 rfl ?_
  refine z_bipush (v := nI 12) C d_F_init_9 (by decide) ?_
  refine z_callI (rest := [.ref (a + 1), .ref a]) (n := 1) (As := [.int (nI 12)]) (b := a + 1) C (p_init E X.2.1 _ hn_1 (by decide)) ⟨z_cb C k_P_init ml_F_11 ii_P rfl rfl (by decide +kernel) ⟨by decide, by decide⟩, rfl, C.2.2.2.2.1 _ im_P_init⟩ rfl rfl (Nat.le_of_ble_eq_true rfl) d_F_init_11 ⟨by decide, by decide⟩ ?_
  intro v_3 s_3 N_3 hq_3
  obtain ⟨rfl, rfl, hr_3, hs_3⟩ := hq_3
  have ho_3 : zoutR N_1 N_3 (a + 1) (a + 1 + 2) := zout_R hs_3 (Nat.le_refl _) (Nat.le_refl _)
  have hc0_4 := (ho_3 (a) (by omega)).trans hc0_2
  have hf_3 : zoutR M N_3 (a) (a + 5) := zoutR_tr hf_1 (zoutR_w ho_3 (by omega) (by omega))
  show Z _ _ _ _ _ _ _ _ 14 _ [.ref (a + 1), .ref a]
  refine z_putF C in_F ty_F tok_F nm_F hini hc0_4 rfl 0 (by decide) fl_F_14 rfl rfl rfl rfl (rfl) (rfl) (Nat.le_of_ble_eq_true rfl) d_F_init_14 ?_
  obtain ⟨N_5, hN_5⟩ : ∃ N : zM, N = zU N_3 a (.inr (1, [.ref (a + 1), .null])) := ⟨_, rfl⟩
  refine z_world (M' := N_5) hN_5.symm ?_
  have hn_5 : N_5 (a) = some (.inr (1, [.ref (a + 1), .null])) := by rw [hN_5]; exact zU_eq
  have ho_5 : zoutR N_3 N_5 (a) (a + 1) := by rw [hN_5]; exact fun q hq => zU_ne (by omega)
  have hc1_6 := (ho_5 (a + 1) (by omega)).trans (zp_c0 hr_3)
  have hp0_6 := zp_oR ho_5 hr_3 (by omega)
  have hf_5 : zoutR M N_5 (a) (a + 5) := zoutR_tr hf_3 (zoutR_w ho_5 (by omega) (by omega))
  refine z_aload_n C d_F_init_17 rfl rfl ?_
  refine z_new (ci := 3) (fs := [.null, .int 0]) C in_P ty_P tok_P cl_F_9 in_P_made ii_P rfl (dflt_P) (Nat.le_of_ble_eq_true rfl) (Nat.le_of_ble_eq_true rfl) d_F_init_18 ?_
  obtain ⟨N_7, hN_7⟩ : ∃ N : zM, N = zU N_5 (a + 3) (.inr (3, [.null, .int 0])) := ⟨_, rfl⟩
  refine z_world (M' := N_7) hN_7.symm ?_
  have hn_7 : N_7 (a + 3) = some (.inr (3, [.null, .int 0])) := by rw [hN_7]; exact zU_eq
  have ho_7 : zoutR N_5 N_7 (a + 3) (a + 3 + 1) := by rw [hN_7]; exact fun q hq => zU_ne (by omega)
  have hc0_8 := (ho_7 (a + 1) (by omega)).trans hc1_6
  have hc1_8 := (ho_7 (a) (by omega)).trans hn_5
  have hp0_8 := zp_oR ho_7 hp0_6 (by omega)
  have hf_7 : zoutR M N_7 (a) (a + 5) := zoutR_tr hf_5 (zoutR_w ho_7 (by omega) (by omega))
  refine z_dup C d_F_init_21 rfl ?_
  refine z_bipush (v := nI 12) C d_F_init_22 (by decide) ?_
  refine z_callI (rest := [.ref (a + 3), .ref a]) (n := 1) (As := [.int (nI 12)]) (b := a + 3) C (p_init E X.2.1 _ hn_7 (by decide)) ⟨z_cb C k_P_init ml_F_11 ii_P rfl rfl (by decide +kernel) ⟨by decide, by decide⟩, rfl, C.2.2.2.2.1 _ im_P_init⟩ rfl rfl (Nat.le_of_ble_eq_true rfl) d_F_init_24 ⟨by decide, by decide⟩ ?_
  intro v_9 s_9 N_9 hq_9
  obtain ⟨rfl, rfl, hr_9, hs_9⟩ := hq_9
  have ho_9 : zoutR N_7 N_9 (a + 3) (a + 3 + 2) := zout_R hs_9 (Nat.le_refl _) (Nat.le_refl _)
  have hc0_10 := (ho_9 (a + 1) (by omega)).trans hc0_8
  have hc1_10 := (ho_9 (a) (by omega)).trans hc1_8
  have hp0_10 := zp_oR ho_9 hp0_8 (by omega)
  have hf_9 : zoutR M N_9 (a) (a + 5) := zoutR_tr hf_7 (zoutR_w ho_9 (by omega) (by omega))
  show Z _ _ _ _ _ _ _ _ 27 _ [.ref (a + 3), .ref a]
  refine z_putF C in_F ty_F tok_F nm_F hini hc1_10 rfl 1 (by decide) fl_F_20 rfl rfl rfl rfl (rfl) (rfl) (Nat.le_of_ble_eq_true rfl) d_F_init_27 ?_
  obtain ⟨N_11, hN_11⟩ : ∃ N : zM, N = zU N_9 a (.inr (1, [.ref (a + 1), .ref (a + 3)])) := ⟨_, rfl⟩
  refine z_world (M' := N_11) hN_11.symm ?_
  have hn_11 : N_11 (a) = some (.inr (1, [.ref (a + 1), .ref (a + 3)])) := by rw [hN_11]; exact zU_eq
  have ho_11 : zoutR N_9 N_11 (a) (a + 1) := by rw [hN_11]; exact fun q hq => zU_ne (by omega)
  have hc0_12 := (ho_11 (a + 1) (by omega)).trans hc0_10
  have hc2_12 := (ho_11 (a + 3) (by omega)).trans (zp_c0 hr_9)
  have hp0_12 := zp_oR ho_11 hp0_10 (by omega)
  have hp1_12 := zp_oR ho_11 hr_9 (by omega)
  have hf_11 : zoutR M N_11 (a) (a + 5) := zoutR_tr hf_9 (zoutR_w ho_11 (by omega) (by omega))
  refine z_widen (k := 4) (n := 30) (by omega) (by omega) ?_
  exact z_vret C ⟨rfl, rfl, ⟨hn_11, hp0_12, hp1_12⟩, hf_11⟩ d_F_init_30
set_option maxHeartbeats 4000000 in
theorem w_init (E : zE) (l : Launch) (M : zM) {a : Nat} (h0 : M a = some (.inr (9, [.null, .null, .null, .null, .null, .null, .null]))) : zMet E l y_W_init c_W_init 1 none { frames := 2, cells := 14, slots := 189, locals := 41 } 14 189 [.ref a] (a + 1) M (fun v s M' => none = v ∧ a + 15 = s ∧ zsh E M' a 0 0 ps_0 ps_0 ∧ zoutR M M' a (a + 15)) := by
  refine zMet.ofZ (by decide) (Nat.le_of_ble_eq_true rfl) ?_
  intro X hl hini C
  show Z X E 1 _ 0 0 (a + 1) M 0 [(0, .ref a)] []
  refine z_aload_n C d_W_init_0 rfl rfl ?_
  refine z_obj C ml_W_3 im_jO_init k_jO_init d_W_init_1 (Nat.le_of_ble_eq_true rfl) (Nat.le_of_ble_eq_true rfl) ?_
  refine z_aload_n C d_W_init_4 rfl rfl ?_
  refine z_new (ci := 3) (fs := [.null, .int 0]) C in_P ty_P tok_P cl_W_9 in_P_made ii_P rfl (dflt_P) (Nat.le_of_ble_eq_true rfl) (Nat.le_of_ble_eq_true rfl) d_W_init_5 ?_
  obtain ⟨N_13, hN_13⟩ : ∃ N : zM, N = zU M (a + 1) (.inr (3, [.null, .int 0])) := ⟨_, rfl⟩
  refine z_world (M' := N_13) hN_13.symm ?_
  have hn_13 : N_13 (a + 1) = some (.inr (3, [.null, .int 0])) := by rw [hN_13]; exact zU_eq
  have ho_13 : zoutR M N_13 (a + 1) (a + 1 + 1) := by rw [hN_13]; exact fun q hq => zU_ne (by omega)
  have hc0_14 := (ho_13 (a) (by omega)).trans h0
  have hf_13 : zoutR M N_13 (a) (a + 15) := zoutR_tr zoutR_rf (zoutR_w ho_13 (by omega) (by omega))
  refine z_dup C d_W_init_8 rfl ?_
  refine z_bipush (v := nI 24) C d_W_init_9 (by decide) ?_
  refine z_callI (rest := [.ref (a + 1), .ref a]) (n := 1) (As := [.int (nI 24)]) (b := a + 1) C (p_init E X.2.1 _ hn_13 (by decide)) ⟨z_cb C k_P_init ml_W_13 ii_P rfl rfl (by decide +kernel) ⟨by decide, by decide⟩, rfl, C.2.2.2.2.1 _ im_P_init⟩ rfl rfl (Nat.le_of_ble_eq_true rfl) d_W_init_11 ⟨by decide, by decide⟩ ?_
  intro v_15 s_15 N_15 hq_15
  obtain ⟨rfl, rfl, hr_15, hs_15⟩ := hq_15
  have ho_15 : zoutR N_13 N_15 (a + 1) (a + 1 + 2) := zout_R hs_15 (Nat.le_refl _) (Nat.le_refl _)
  have hc0_16 := (ho_15 (a) (by omega)).trans hc0_14
  have hf_15 : zoutR M N_15 (a) (a + 15) := zoutR_tr hf_13 (zoutR_w ho_15 (by omega) (by omega))
  show Z _ _ _ _ _ _ _ _ 14 _ [.ref (a + 1), .ref a]
  refine z_putF C in_W ty_W tok_W nm_W hini hc0_16 rfl 0 (by decide) fl_W_16 rfl rfl rfl rfl (rfl) (rfl) (Nat.le_of_ble_eq_true rfl) d_W_init_14 ?_
  obtain ⟨N_17, hN_17⟩ : ∃ N : zM, N = zU N_15 a (.inr (9, [.ref (a + 1), .null, .null, .null, .null, .null, .null])) := ⟨_, rfl⟩
  refine z_world (M' := N_17) hN_17.symm ?_
  have hn_17 : N_17 (a) = some (.inr (9, [.ref (a + 1), .null, .null, .null, .null, .null, .null])) := by rw [hN_17]; exact zU_eq
  have ho_17 : zoutR N_15 N_17 (a) (a + 1) := by rw [hN_17]; exact fun q hq => zU_ne (by omega)
  have hc1_18 := (ho_17 (a + 1) (by omega)).trans (zp_c0 hr_15)
  have hp0_18 := zp_oR ho_17 hr_15 (by omega)
  have hf_17 : zoutR M N_17 (a) (a + 15) := zoutR_tr hf_15 (zoutR_w ho_17 (by omega) (by omega))
  refine z_aload_n C d_W_init_17 rfl rfl ?_
  refine z_new (ci := 3) (fs := [.null, .int 0]) C in_P ty_P tok_P cl_W_9 in_P_made ii_P rfl (dflt_P) (Nat.le_of_ble_eq_true rfl) (Nat.le_of_ble_eq_true rfl) d_W_init_18 ?_
  obtain ⟨N_19, hN_19⟩ : ∃ N : zM, N = zU N_17 (a + 3) (.inr (3, [.null, .int 0])) := ⟨_, rfl⟩
  refine z_world (M' := N_19) hN_19.symm ?_
  have hn_19 : N_19 (a + 3) = some (.inr (3, [.null, .int 0])) := by rw [hN_19]; exact zU_eq
  have ho_19 : zoutR N_17 N_19 (a + 3) (a + 3 + 1) := by rw [hN_19]; exact fun q hq => zU_ne (by omega)
  have hc0_20 := (ho_19 (a + 1) (by omega)).trans hc1_18
  have hc1_20 := (ho_19 (a) (by omega)).trans hn_17
  have hp0_20 := zp_oR ho_19 hp0_18 (by omega)
  have hf_19 : zoutR M N_19 (a) (a + 15) := zoutR_tr hf_17 (zoutR_w ho_19 (by omega) (by omega))
  refine z_dup C d_W_init_21 rfl ?_
  refine z_bipush (v := nI 24) C d_W_init_22 (by decide) ?_
  refine z_callI (rest := [.ref (a + 3), .ref a]) (n := 1) (As := [.int (nI 24)]) (b := a + 3) C (p_init E X.2.1 _ hn_19 (by decide)) ⟨z_cb C k_P_init ml_W_13 ii_P rfl rfl (by decide +kernel) ⟨by decide, by decide⟩, rfl, C.2.2.2.2.1 _ im_P_init⟩ rfl rfl (Nat.le_of_ble_eq_true rfl) d_W_init_24 ⟨by decide, by decide⟩ ?_
  intro v_21 s_21 N_21 hq_21
  obtain ⟨rfl, rfl, hr_21, hs_21⟩ := hq_21
  have ho_21 : zoutR N_19 N_21 (a + 3) (a + 3 + 2) := zout_R hs_21 (Nat.le_refl _) (Nat.le_refl _)
  have hc0_22 := (ho_21 (a + 1) (by omega)).trans hc0_20
  have hc1_22 := (ho_21 (a) (by omega)).trans hc1_20
  have hp0_22 := zp_oR ho_21 hp0_20 (by omega)
  have hf_21 : zoutR M N_21 (a) (a + 15) := zoutR_tr hf_19 (zoutR_w ho_21 (by omega) (by omega))
  show Z _ _ _ _ _ _ _ _ 27 _ [.ref (a + 3), .ref a]
  refine z_putF C in_W ty_W tok_W nm_W hini hc1_22 rfl 1 (by decide) fl_W_20 rfl rfl rfl rfl (rfl) (rfl) (Nat.le_of_ble_eq_true rfl) d_W_init_27 ?_
  obtain ⟨N_23, hN_23⟩ : ∃ N : zM, N = zU N_21 a (.inr (9, [.ref (a + 1), .ref (a + 3), .null, .null, .null, .null, .null])) := ⟨_, rfl⟩
  refine z_world (M' := N_23) hN_23.symm ?_
  have hn_23 : N_23 (a) = some (.inr (9, [.ref (a + 1), .ref (a + 3), .null, .null, .null, .null, .null])) := by rw [hN_23]; exact zU_eq
  have ho_23 : zoutR N_21 N_23 (a) (a + 1) := by rw [hN_23]; exact fun q hq => zU_ne (by omega)
  have hc0_24 := (ho_23 (a + 1) (by omega)).trans hc0_22
  have hc2_24 := (ho_23 (a + 3) (by omega)).trans (zp_c0 hr_21)
  have hp0_24 := zp_oR ho_23 hp0_22 (by omega)
  have hp1_24 := zp_oR ho_23 hr_21 (by omega)
  have hf_23 : zoutR M N_23 (a) (a + 15) := zoutR_tr hf_21 (zoutR_w ho_23 (by omega) (by omega))
  refine z_aload_n C d_W_init_30 rfl rfl ?_
  refine z_new (ci := 3) (fs := [.null, .int 0]) C in_P ty_P tok_P cl_W_9 in_P_made ii_P rfl (dflt_P) (Nat.le_of_ble_eq_true rfl) (Nat.le_of_ble_eq_true rfl) d_W_init_31 ?_
  obtain ⟨N_25, hN_25⟩ : ∃ N : zM, N = zU N_23 (a + 5) (.inr (3, [.null, .int 0])) := ⟨_, rfl⟩
  refine z_world (M' := N_25) hN_25.symm ?_
  have hn_25 : N_25 (a + 5) = some (.inr (3, [.null, .int 0])) := by rw [hN_25]; exact zU_eq
  have ho_25 : zoutR N_23 N_25 (a + 5) (a + 5 + 1) := by rw [hN_25]; exact fun q hq => zU_ne (by omega)
  have hc0_26 := (ho_25 (a + 1) (by omega)).trans hc0_24
  have hc1_26 := (ho_25 (a + 3) (by omega)).trans hc2_24
  have hc2_26 := (ho_25 (a) (by omega)).trans hn_23
  have hp0_26 := zp_oR ho_25 hp0_24 (by omega)
  have hp1_26 := zp_oR ho_25 hp1_24 (by omega)
  have hf_25 : zoutR M N_25 (a) (a + 15) := zoutR_tr hf_23 (zoutR_w ho_25 (by omega) (by omega))
  refine z_dup C d_W_init_34 rfl ?_
  refine z_bipush (v := nI 24) C d_W_init_35 (by decide) ?_
  refine z_callI (rest := [.ref (a + 5), .ref a]) (n := 1) (As := [.int (nI 24)]) (b := a + 5) C (p_init E X.2.1 _ hn_25 (by decide)) ⟨z_cb C k_P_init ml_W_13 ii_P rfl rfl (by decide +kernel) ⟨by decide, by decide⟩, rfl, C.2.2.2.2.1 _ im_P_init⟩ rfl rfl (Nat.le_of_ble_eq_true rfl) d_W_init_37 ⟨by decide, by decide⟩ ?_
  intro v_27 s_27 N_27 hq_27
  obtain ⟨rfl, rfl, hr_27, hs_27⟩ := hq_27
  have ho_27 : zoutR N_25 N_27 (a + 5) (a + 5 + 2) := zout_R hs_27 (Nat.le_refl _) (Nat.le_refl _)
  have hc0_28 := (ho_27 (a + 1) (by omega)).trans hc0_26
  have hc1_28 := (ho_27 (a + 3) (by omega)).trans hc1_26
  have hc2_28 := (ho_27 (a) (by omega)).trans hc2_26
  have hp0_28 := zp_oR ho_27 hp0_26 (by omega)
  have hp1_28 := zp_oR ho_27 hp1_26 (by omega)
  have hf_27 : zoutR M N_27 (a) (a + 15) := zoutR_tr hf_25 (zoutR_w ho_27 (by omega) (by omega))
  show Z _ _ _ _ _ _ _ _ 40 _ [.ref (a + 5), .ref a]
  refine z_putF C in_W ty_W tok_W nm_W hini hc2_28 rfl 2 (by decide) fl_W_23 rfl rfl rfl rfl (rfl) (rfl) (Nat.le_of_ble_eq_true rfl) d_W_init_40 ?_
  obtain ⟨N_29, hN_29⟩ : ∃ N : zM, N = zU N_27 a (.inr (9, [.ref (a + 1), .ref (a + 3), .ref (a + 5), .null, .null, .null, .null])) := ⟨_, rfl⟩
  refine z_world (M' := N_29) hN_29.symm ?_
  have hn_29 : N_29 (a) = some (.inr (9, [.ref (a + 1), .ref (a + 3), .ref (a + 5), .null, .null, .null, .null])) := by rw [hN_29]; exact zU_eq
  have ho_29 : zoutR N_27 N_29 (a) (a + 1) := by rw [hN_29]; exact fun q hq => zU_ne (by omega)
  have hc0_30 := (ho_29 (a + 1) (by omega)).trans hc0_28
  have hc1_30 := (ho_29 (a + 3) (by omega)).trans hc1_28
  have hc3_30 := (ho_29 (a + 5) (by omega)).trans (zp_c0 hr_27)
  have hp0_30 := zp_oR ho_29 hp0_28 (by omega)
  have hp1_30 := zp_oR ho_29 hp1_28 (by omega)
  have hp2_30 := zp_oR ho_29 hr_27 (by omega)
  have hf_29 : zoutR M N_29 (a) (a + 15) := zoutR_tr hf_27 (zoutR_w ho_29 (by omega) (by omega))
  refine z_aload_n C d_W_init_43 rfl rfl ?_
  refine z_new (ci := 3) (fs := [.null, .int 0]) C in_P ty_P tok_P cl_W_9 in_P_made ii_P rfl (dflt_P) (Nat.le_of_ble_eq_true rfl) (Nat.le_of_ble_eq_true rfl) d_W_init_44 ?_
  obtain ⟨N_31, hN_31⟩ : ∃ N : zM, N = zU N_29 (a + 7) (.inr (3, [.null, .int 0])) := ⟨_, rfl⟩
  refine z_world (M' := N_31) hN_31.symm ?_
  have hn_31 : N_31 (a + 7) = some (.inr (3, [.null, .int 0])) := by rw [hN_31]; exact zU_eq
  have ho_31 : zoutR N_29 N_31 (a + 7) (a + 7 + 1) := by rw [hN_31]; exact fun q hq => zU_ne (by omega)
  have hc0_32 := (ho_31 (a + 1) (by omega)).trans hc0_30
  have hc1_32 := (ho_31 (a + 3) (by omega)).trans hc1_30
  have hc2_32 := (ho_31 (a + 5) (by omega)).trans hc3_30
  have hc3_32 := (ho_31 (a) (by omega)).trans hn_29
  have hp0_32 := zp_oR ho_31 hp0_30 (by omega)
  have hp1_32 := zp_oR ho_31 hp1_30 (by omega)
  have hp2_32 := zp_oR ho_31 hp2_30 (by omega)
  have hf_31 : zoutR M N_31 (a) (a + 15) := zoutR_tr hf_29 (zoutR_w ho_31 (by omega) (by omega))
  refine z_dup C d_W_init_47 rfl ?_
  refine z_bipush (v := nI 24) C d_W_init_48 (by decide) ?_
  refine z_callI (rest := [.ref (a + 7), .ref a]) (n := 1) (As := [.int (nI 24)]) (b := a + 7) C (p_init E X.2.1 _ hn_31 (by decide)) ⟨z_cb C k_P_init ml_W_13 ii_P rfl rfl (by decide +kernel) ⟨by decide, by decide⟩, rfl, C.2.2.2.2.1 _ im_P_init⟩ rfl rfl (Nat.le_of_ble_eq_true rfl) d_W_init_50 ⟨by decide, by decide⟩ ?_
  intro v_33 s_33 N_33 hq_33
  obtain ⟨rfl, rfl, hr_33, hs_33⟩ := hq_33
  have ho_33 : zoutR N_31 N_33 (a + 7) (a + 7 + 2) := zout_R hs_33 (Nat.le_refl _) (Nat.le_refl _)
  have hc0_34 := (ho_33 (a + 1) (by omega)).trans hc0_32
  have hc1_34 := (ho_33 (a + 3) (by omega)).trans hc1_32
  have hc2_34 := (ho_33 (a + 5) (by omega)).trans hc2_32
  have hc3_34 := (ho_33 (a) (by omega)).trans hc3_32
  have hp0_34 := zp_oR ho_33 hp0_32 (by omega)
  have hp1_34 := zp_oR ho_33 hp1_32 (by omega)
  have hp2_34 := zp_oR ho_33 hp2_32 (by omega)
  have hf_33 : zoutR M N_33 (a) (a + 15) := zoutR_tr hf_31 (zoutR_w ho_33 (by omega) (by omega))
  show Z _ _ _ _ _ _ _ _ 53 _ [.ref (a + 7), .ref a]
  refine z_putF C in_W ty_W tok_W nm_W hini hc3_34 rfl 3 (by decide) fl_W_26 rfl rfl rfl rfl (rfl) (rfl) (Nat.le_of_ble_eq_true rfl) d_W_init_53 ?_
  obtain ⟨N_35, hN_35⟩ : ∃ N : zM, N = zU N_33 a (.inr (9, [.ref (a + 1), .ref (a + 3), .ref (a + 5), .ref (a + 7), .null, .null, .null])) := ⟨_, rfl⟩
  refine z_world (M' := N_35) hN_35.symm ?_
  have hn_35 : N_35 (a) = some (.inr (9, [.ref (a + 1), .ref (a + 3), .ref (a + 5), .ref (a + 7), .null, .null, .null])) := by rw [hN_35]; exact zU_eq
  have ho_35 : zoutR N_33 N_35 (a) (a + 1) := by rw [hN_35]; exact fun q hq => zU_ne (by omega)
  have hc0_36 := (ho_35 (a + 1) (by omega)).trans hc0_34
  have hc1_36 := (ho_35 (a + 3) (by omega)).trans hc1_34
  have hc2_36 := (ho_35 (a + 5) (by omega)).trans hc2_34
  have hc4_36 := (ho_35 (a + 7) (by omega)).trans (zp_c0 hr_33)
  have hp0_36 := zp_oR ho_35 hp0_34 (by omega)
  have hp1_36 := zp_oR ho_35 hp1_34 (by omega)
  have hp2_36 := zp_oR ho_35 hp2_34 (by omega)
  have hp3_36 := zp_oR ho_35 hr_33 (by omega)
  have hf_35 : zoutR M N_35 (a) (a + 15) := zoutR_tr hf_33 (zoutR_w ho_35 (by omega) (by omega))
  refine z_aload_n C d_W_init_56 rfl rfl ?_
  refine z_new (ci := 3) (fs := [.null, .int 0]) C in_P ty_P tok_P cl_W_9 in_P_made ii_P rfl (dflt_P) (Nat.le_of_ble_eq_true rfl) (Nat.le_of_ble_eq_true rfl) d_W_init_57 ?_
  obtain ⟨N_37, hN_37⟩ : ∃ N : zM, N = zU N_35 (a + 9) (.inr (3, [.null, .int 0])) := ⟨_, rfl⟩
  refine z_world (M' := N_37) hN_37.symm ?_
  have hn_37 : N_37 (a + 9) = some (.inr (3, [.null, .int 0])) := by rw [hN_37]; exact zU_eq
  have ho_37 : zoutR N_35 N_37 (a + 9) (a + 9 + 1) := by rw [hN_37]; exact fun q hq => zU_ne (by omega)
  have hc0_38 := (ho_37 (a + 1) (by omega)).trans hc0_36
  have hc1_38 := (ho_37 (a + 3) (by omega)).trans hc1_36
  have hc2_38 := (ho_37 (a + 5) (by omega)).trans hc2_36
  have hc3_38 := (ho_37 (a + 7) (by omega)).trans hc4_36
  have hc4_38 := (ho_37 (a) (by omega)).trans hn_35
  have hp0_38 := zp_oR ho_37 hp0_36 (by omega)
  have hp1_38 := zp_oR ho_37 hp1_36 (by omega)
  have hp2_38 := zp_oR ho_37 hp2_36 (by omega)
  have hp3_38 := zp_oR ho_37 hp3_36 (by omega)
  have hf_37 : zoutR M N_37 (a) (a + 15) := zoutR_tr hf_35 (zoutR_w ho_37 (by omega) (by omega))
  refine z_dup C d_W_init_60 rfl ?_
  refine z_bipush (v := nI 24) C d_W_init_61 (by decide) ?_
  refine z_callI (rest := [.ref (a + 9), .ref a]) (n := 1) (As := [.int (nI 24)]) (b := a + 9) C (p_init E X.2.1 _ hn_37 (by decide)) ⟨z_cb C k_P_init ml_W_13 ii_P rfl rfl (by decide +kernel) ⟨by decide, by decide⟩, rfl, C.2.2.2.2.1 _ im_P_init⟩ rfl rfl (Nat.le_of_ble_eq_true rfl) d_W_init_63 ⟨by decide, by decide⟩ ?_
  intro v_39 s_39 N_39 hq_39
  obtain ⟨rfl, rfl, hr_39, hs_39⟩ := hq_39
  have ho_39 : zoutR N_37 N_39 (a + 9) (a + 9 + 2) := zout_R hs_39 (Nat.le_refl _) (Nat.le_refl _)
  have hc0_40 := (ho_39 (a + 1) (by omega)).trans hc0_38
  have hc1_40 := (ho_39 (a + 3) (by omega)).trans hc1_38
  have hc2_40 := (ho_39 (a + 5) (by omega)).trans hc2_38
  have hc3_40 := (ho_39 (a + 7) (by omega)).trans hc3_38
  have hc4_40 := (ho_39 (a) (by omega)).trans hc4_38
  have hp0_40 := zp_oR ho_39 hp0_38 (by omega)
  have hp1_40 := zp_oR ho_39 hp1_38 (by omega)
  have hp2_40 := zp_oR ho_39 hp2_38 (by omega)
  have hp3_40 := zp_oR ho_39 hp3_38 (by omega)
  have hf_39 : zoutR M N_39 (a) (a + 15) := zoutR_tr hf_37 (zoutR_w ho_39 (by omega) (by omega))
  show Z _ _ _ _ _ _ _ _ 66 _ [.ref (a + 9), .ref a]
  refine z_putF C in_W ty_W tok_W nm_W hini hc4_40 rfl 4 (by decide) fl_W_29 rfl rfl rfl rfl (rfl) (rfl) (Nat.le_of_ble_eq_true rfl) d_W_init_66 ?_
  obtain ⟨N_41, hN_41⟩ : ∃ N : zM, N = zU N_39 a (.inr (9, [.ref (a + 1), .ref (a + 3), .ref (a + 5), .ref (a + 7), .ref (a + 9), .null, .null])) := ⟨_, rfl⟩
  refine z_world (M' := N_41) hN_41.symm ?_
  have hn_41 : N_41 (a) = some (.inr (9, [.ref (a + 1), .ref (a + 3), .ref (a + 5), .ref (a + 7), .ref (a + 9), .null, .null])) := by rw [hN_41]; exact zU_eq
  have ho_41 : zoutR N_39 N_41 (a) (a + 1) := by rw [hN_41]; exact fun q hq => zU_ne (by omega)
  have hc0_42 := (ho_41 (a + 1) (by omega)).trans hc0_40
  have hc1_42 := (ho_41 (a + 3) (by omega)).trans hc1_40
  have hc2_42 := (ho_41 (a + 5) (by omega)).trans hc2_40
  have hc3_42 := (ho_41 (a + 7) (by omega)).trans hc3_40
  have hc5_42 := (ho_41 (a + 9) (by omega)).trans (zp_c0 hr_39)
  have hp0_42 := zp_oR ho_41 hp0_40 (by omega)
  have hp1_42 := zp_oR ho_41 hp1_40 (by omega)
  have hp2_42 := zp_oR ho_41 hp2_40 (by omega)
  have hp3_42 := zp_oR ho_41 hp3_40 (by omega)
  have hp4_42 := zp_oR ho_41 hr_39 (by omega)
  have hf_41 : zoutR M N_41 (a) (a + 15) := zoutR_tr hf_39 (zoutR_w ho_41 (by omega) (by omega))
  refine z_aload_n C d_W_init_69 rfl rfl ?_
  refine z_new (ci := 3) (fs := [.null, .int 0]) C in_P ty_P tok_P cl_W_9 in_P_made ii_P rfl (dflt_P) (Nat.le_of_ble_eq_true rfl) (Nat.le_of_ble_eq_true rfl) d_W_init_70 ?_
  obtain ⟨N_43, hN_43⟩ : ∃ N : zM, N = zU N_41 (a + 11) (.inr (3, [.null, .int 0])) := ⟨_, rfl⟩
  refine z_world (M' := N_43) hN_43.symm ?_
  have hn_43 : N_43 (a + 11) = some (.inr (3, [.null, .int 0])) := by rw [hN_43]; exact zU_eq
  have ho_43 : zoutR N_41 N_43 (a + 11) (a + 11 + 1) := by rw [hN_43]; exact fun q hq => zU_ne (by omega)
  have hc0_44 := (ho_43 (a + 1) (by omega)).trans hc0_42
  have hc1_44 := (ho_43 (a + 3) (by omega)).trans hc1_42
  have hc2_44 := (ho_43 (a + 5) (by omega)).trans hc2_42
  have hc3_44 := (ho_43 (a + 7) (by omega)).trans hc3_42
  have hc4_44 := (ho_43 (a + 9) (by omega)).trans hc5_42
  have hc5_44 := (ho_43 (a) (by omega)).trans hn_41
  have hp0_44 := zp_oR ho_43 hp0_42 (by omega)
  have hp1_44 := zp_oR ho_43 hp1_42 (by omega)
  have hp2_44 := zp_oR ho_43 hp2_42 (by omega)
  have hp3_44 := zp_oR ho_43 hp3_42 (by omega)
  have hp4_44 := zp_oR ho_43 hp4_42 (by omega)
  have hf_43 : zoutR M N_43 (a) (a + 15) := zoutR_tr hf_41 (zoutR_w ho_43 (by omega) (by omega))
  refine z_dup C d_W_init_73 rfl ?_
  refine z_bipush (v := nI 24) C d_W_init_74 (by decide) ?_
  refine z_callI (rest := [.ref (a + 11), .ref a]) (n := 1) (As := [.int (nI 24)]) (b := a + 11) C (p_init E X.2.1 _ hn_43 (by decide)) ⟨z_cb C k_P_init ml_W_13 ii_P rfl rfl (by decide +kernel) ⟨by decide, by decide⟩, rfl, C.2.2.2.2.1 _ im_P_init⟩ rfl rfl (Nat.le_of_ble_eq_true rfl) d_W_init_76 ⟨by decide, by decide⟩ ?_
  intro v_45 s_45 N_45 hq_45
  obtain ⟨rfl, rfl, hr_45, hs_45⟩ := hq_45
  have ho_45 : zoutR N_43 N_45 (a + 11) (a + 11 + 2) := zout_R hs_45 (Nat.le_refl _) (Nat.le_refl _)
  have hc0_46 := (ho_45 (a + 1) (by omega)).trans hc0_44
  have hc1_46 := (ho_45 (a + 3) (by omega)).trans hc1_44
  have hc2_46 := (ho_45 (a + 5) (by omega)).trans hc2_44
  have hc3_46 := (ho_45 (a + 7) (by omega)).trans hc3_44
  have hc4_46 := (ho_45 (a + 9) (by omega)).trans hc4_44
  have hc5_46 := (ho_45 (a) (by omega)).trans hc5_44
  have hp0_46 := zp_oR ho_45 hp0_44 (by omega)
  have hp1_46 := zp_oR ho_45 hp1_44 (by omega)
  have hp2_46 := zp_oR ho_45 hp2_44 (by omega)
  have hp3_46 := zp_oR ho_45 hp3_44 (by omega)
  have hp4_46 := zp_oR ho_45 hp4_44 (by omega)
  have hf_45 : zoutR M N_45 (a) (a + 15) := zoutR_tr hf_43 (zoutR_w ho_45 (by omega) (by omega))
  show Z _ _ _ _ _ _ _ _ 79 _ [.ref (a + 11), .ref a]
  refine z_putF C in_W ty_W tok_W nm_W hini hc5_46 rfl 5 (by decide) fl_W_32 rfl rfl rfl rfl (rfl) (rfl) (Nat.le_of_ble_eq_true rfl) d_W_init_79 ?_
  obtain ⟨N_47, hN_47⟩ : ∃ N : zM, N = zU N_45 a (.inr (9, [.ref (a + 1), .ref (a + 3), .ref (a + 5), .ref (a + 7), .ref (a + 9), .ref (a + 11), .null])) := ⟨_, rfl⟩
  refine z_world (M' := N_47) hN_47.symm ?_
  have hn_47 : N_47 (a) = some (.inr (9, [.ref (a + 1), .ref (a + 3), .ref (a + 5), .ref (a + 7), .ref (a + 9), .ref (a + 11), .null])) := by rw [hN_47]; exact zU_eq
  have ho_47 : zoutR N_45 N_47 (a) (a + 1) := by rw [hN_47]; exact fun q hq => zU_ne (by omega)
  have hc0_48 := (ho_47 (a + 1) (by omega)).trans hc0_46
  have hc1_48 := (ho_47 (a + 3) (by omega)).trans hc1_46
  have hc2_48 := (ho_47 (a + 5) (by omega)).trans hc2_46
  have hc3_48 := (ho_47 (a + 7) (by omega)).trans hc3_46
  have hc4_48 := (ho_47 (a + 9) (by omega)).trans hc4_46
  have hc6_48 := (ho_47 (a + 11) (by omega)).trans (zp_c0 hr_45)
  have hp0_48 := zp_oR ho_47 hp0_46 (by omega)
  have hp1_48 := zp_oR ho_47 hp1_46 (by omega)
  have hp2_48 := zp_oR ho_47 hp2_46 (by omega)
  have hp3_48 := zp_oR ho_47 hp3_46 (by omega)
  have hp4_48 := zp_oR ho_47 hp4_46 (by omega)
  have hp5_48 := zp_oR ho_47 hr_45 (by omega)
  have hf_47 : zoutR M N_47 (a) (a + 15) := zoutR_tr hf_45 (zoutR_w ho_47 (by omega) (by omega))
  refine z_aload_n C d_W_init_82 rfl rfl ?_
  refine z_new (ci := 3) (fs := [.null, .int 0]) C in_P ty_P tok_P cl_W_9 in_P_made ii_P rfl (dflt_P) (Nat.le_of_ble_eq_true rfl) (Nat.le_of_ble_eq_true rfl) d_W_init_83 ?_
  obtain ⟨N_49, hN_49⟩ : ∃ N : zM, N = zU N_47 (a + 13) (.inr (3, [.null, .int 0])) := ⟨_, rfl⟩
  refine z_world (M' := N_49) hN_49.symm ?_
  have hn_49 : N_49 (a + 13) = some (.inr (3, [.null, .int 0])) := by rw [hN_49]; exact zU_eq
  have ho_49 : zoutR N_47 N_49 (a + 13) (a + 13 + 1) := by rw [hN_49]; exact fun q hq => zU_ne (by omega)
  have hc0_50 := (ho_49 (a + 1) (by omega)).trans hc0_48
  have hc1_50 := (ho_49 (a + 3) (by omega)).trans hc1_48
  have hc2_50 := (ho_49 (a + 5) (by omega)).trans hc2_48
  have hc3_50 := (ho_49 (a + 7) (by omega)).trans hc3_48
  have hc4_50 := (ho_49 (a + 9) (by omega)).trans hc4_48
  have hc5_50 := (ho_49 (a + 11) (by omega)).trans hc6_48
  have hc6_50 := (ho_49 (a) (by omega)).trans hn_47
  have hp0_50 := zp_oR ho_49 hp0_48 (by omega)
  have hp1_50 := zp_oR ho_49 hp1_48 (by omega)
  have hp2_50 := zp_oR ho_49 hp2_48 (by omega)
  have hp3_50 := zp_oR ho_49 hp3_48 (by omega)
  have hp4_50 := zp_oR ho_49 hp4_48 (by omega)
  have hp5_50 := zp_oR ho_49 hp5_48 (by omega)
  have hf_49 : zoutR M N_49 (a) (a + 15) := zoutR_tr hf_47 (zoutR_w ho_49 (by omega) (by omega))
  refine z_dup C d_W_init_86 rfl ?_
  refine z_bipush (v := nI 24) C d_W_init_87 (by decide) ?_
  refine z_callI (rest := [.ref (a + 13), .ref a]) (n := 1) (As := [.int (nI 24)]) (b := a + 13) C (p_init E X.2.1 _ hn_49 (by decide)) ⟨z_cb C k_P_init ml_W_13 ii_P rfl rfl (by decide +kernel) ⟨by decide, by decide⟩, rfl, C.2.2.2.2.1 _ im_P_init⟩ rfl rfl (Nat.le_of_ble_eq_true rfl) d_W_init_89 ⟨by decide, by decide⟩ ?_
  intro v_51 s_51 N_51 hq_51
  obtain ⟨rfl, rfl, hr_51, hs_51⟩ := hq_51
  have ho_51 : zoutR N_49 N_51 (a + 13) (a + 13 + 2) := zout_R hs_51 (Nat.le_refl _) (Nat.le_refl _)
  have hc0_52 := (ho_51 (a + 1) (by omega)).trans hc0_50
  have hc1_52 := (ho_51 (a + 3) (by omega)).trans hc1_50
  have hc2_52 := (ho_51 (a + 5) (by omega)).trans hc2_50
  have hc3_52 := (ho_51 (a + 7) (by omega)).trans hc3_50
  have hc4_52 := (ho_51 (a + 9) (by omega)).trans hc4_50
  have hc5_52 := (ho_51 (a + 11) (by omega)).trans hc5_50
  have hc6_52 := (ho_51 (a) (by omega)).trans hc6_50
  have hp0_52 := zp_oR ho_51 hp0_50 (by omega)
  have hp1_52 := zp_oR ho_51 hp1_50 (by omega)
  have hp2_52 := zp_oR ho_51 hp2_50 (by omega)
  have hp3_52 := zp_oR ho_51 hp3_50 (by omega)
  have hp4_52 := zp_oR ho_51 hp4_50 (by omega)
  have hp5_52 := zp_oR ho_51 hp5_50 (by omega)
  have hf_51 : zoutR M N_51 (a) (a + 15) := zoutR_tr hf_49 (zoutR_w ho_51 (by omega) (by omega))
  show Z _ _ _ _ _ _ _ _ 92 _ [.ref (a + 13), .ref a]
  refine z_putF C in_W ty_W tok_W nm_W hini hc6_52 rfl 6 (by decide) fl_W_35 rfl rfl rfl rfl (rfl) (rfl) (Nat.le_of_ble_eq_true rfl) d_W_init_92 ?_
  obtain ⟨N_53, hN_53⟩ : ∃ N : zM, N = zU N_51 a (.inr (9, [.ref (a + 1), .ref (a + 3), .ref (a + 5), .ref (a + 7), .ref (a + 9), .ref (a + 11), .ref (a + 13)])) := ⟨_, rfl⟩
  refine z_world (M' := N_53) hN_53.symm ?_
  have hn_53 : N_53 (a) = some (.inr (9, [.ref (a + 1), .ref (a + 3), .ref (a + 5), .ref (a + 7), .ref (a + 9), .ref (a + 11), .ref (a + 13)])) := by rw [hN_53]; exact zU_eq
  have ho_53 : zoutR N_51 N_53 (a) (a + 1) := by rw [hN_53]; exact fun q hq => zU_ne (by omega)
  have hc0_54 := (ho_53 (a + 1) (by omega)).trans hc0_52
  have hc1_54 := (ho_53 (a + 3) (by omega)).trans hc1_52
  have hc2_54 := (ho_53 (a + 5) (by omega)).trans hc2_52
  have hc3_54 := (ho_53 (a + 7) (by omega)).trans hc3_52
  have hc4_54 := (ho_53 (a + 9) (by omega)).trans hc4_52
  have hc5_54 := (ho_53 (a + 11) (by omega)).trans hc5_52
  have hc7_54 := (ho_53 (a + 13) (by omega)).trans (zp_c0 hr_51)
  have hp0_54 := zp_oR ho_53 hp0_52 (by omega)
  have hp1_54 := zp_oR ho_53 hp1_52 (by omega)
  have hp2_54 := zp_oR ho_53 hp2_52 (by omega)
  have hp3_54 := zp_oR ho_53 hp3_52 (by omega)
  have hp4_54 := zp_oR ho_53 hp4_52 (by omega)
  have hp5_54 := zp_oR ho_53 hp5_52 (by omega)
  have hp6_54 := zp_oR ho_53 hr_51 (by omega)
  have hf_53 : zoutR M N_53 (a) (a + 15) := zoutR_tr hf_51 (zoutR_w ho_53 (by omega) (by omega))
  refine z_widen (k := 14) (n := 189) (by omega) (by omega) ?_
  exact z_vret C ⟨rfl, rfl, ⟨hn_53, hp0_54, hp1_54, ⟨_, _, hp2_54⟩, ⟨_, _, hp3_54⟩, ⟨_, _, hp4_54⟩, ⟨_, _, hp5_54⟩, ⟨_, _, hp6_54⟩⟩, hf_53⟩ d_W_init_95
set_option maxHeartbeats 4000000 in
theorem l_init (E : zE) (l : Launch) (M : zM) {a : Nat} (h0 : M a = some (.inr (2, [.null, .int 0]))) : zMet E l y_L_init c_L_init 1 none { frames := 1, cells := 1, slots := 32, locals := 20 } 1 32 [.ref a] (a + 1) M (fun v s M' => none = v ∧ a + 2 = s ∧ zln E M' a [] ∧ zoutR M M' a (a + 2)) := by
  refine zMet.ofZ (by decide) (Nat.le_of_ble_eq_true rfl) ?_
  intro X hl hini C
  show Z X E 1 _ 0 0 (a + 1) M 0 [(0, .ref a)] []
  refine z_aload_n C d_L_init_0 rfl rfl ?_
  refine z_obj C ml_L_3 im_jO_init k_jO_init d_L_init_1 (Nat.le_of_ble_eq_true rfl) (Nat.le_of_ble_eq_true rfl) ?_
  refine z_aload_n C d_L_init_4 rfl rfl ?_
  refine z_bipush (v := nI 32) C d_L_init_5 (by decide) ?_
  refine z_newa (atype := .char) (a0 := (32, .inl (fun _ => 0))) C ac_char rfl 1 rfl (fun _ q => by cases q) 32 rfl (rfl) (by decide) (by decide) (Nat.le_of_ble_eq_true rfl) (Nat.le_of_ble_eq_true rfl) d_L_init_7 ?_
  obtain ⟨N_55, hN_55⟩ : ∃ N : zM, N = zU M (a + 1) (.inl (E.2.1 1, 32, .inl (fun _ => 0))) := ⟨_, rfl⟩
  refine z_world (M' := N_55) hN_55.symm ?_
  have hn_55 : N_55 (a + 1) = some (.inl (E.2.1 1, 32, .inl (fun _ => 0))) := by rw [hN_55]; exact zU_eq
  have ho_55 : zoutR M N_55 (a + 1) (a + 1 + 1) := by rw [hN_55]; exact fun q hq => zU_ne (by omega)
  have hc0_56 := (ho_55 (a) (by omega)).trans h0
  have hf_55 : zoutR M N_55 (a) (a + 2) := zoutR_tr zoutR_rf (zoutR_w ho_55 (by omega) (by omega))
  refine z_putF C in_L ty_L tok_L nm_L hini hc0_56 rfl 0 (by decide) fl_L_9 rfl rfl rfl rfl (rfl) (rfl) (Nat.le_of_ble_eq_true rfl) d_L_init_9 ?_
  obtain ⟨N_57, hN_57⟩ : ∃ N : zM, N = zU N_55 a (.inr (2, [.ref (a + 1), .int 0])) := ⟨_, rfl⟩
  refine z_world (M' := N_57) hN_57.symm ?_
  have hn_57 : N_57 (a) = some (.inr (2, [.ref (a + 1), .int 0])) := by rw [hN_57]; exact zU_eq
  have ho_57 : zoutR N_55 N_57 (a) (a + 1) := by rw [hN_57]; exact fun q hq => zU_ne (by omega)
  have hc1_58 := (ho_57 (a + 1) (by omega)).trans hn_55
  have hf_57 : zoutR M N_57 (a) (a + 2) := zoutR_tr hf_55 (zoutR_w ho_57 (by omega) (by omega))
  refine z_aload_n C d_L_init_12 rfl rfl ?_
  refine z_iconst (v := nI 0) C d_L_init_13 (by decide) ?_
  refine z_put C in_L ty_L tok_L nm_L hn_57 rfl 1 (by decide) fl_L_15 rfl rfl rfl (rfl) (rfl) (Nat.le_of_ble_eq_true rfl) d_L_init_14 ?_
  obtain ⟨N_59, hN_59⟩ : ∃ N : zM, N = zU N_57 a (.inr (2, [.ref (a + 1), .int (nI 0)])) := ⟨_, rfl⟩
  refine z_world (M' := N_59) hN_59.symm ?_
  have hn_59 : N_59 (a) = some (.inr (2, [.ref (a + 1), .int (nI 0)])) := by rw [hN_59]; exact zU_eq
  have ho_59 : zoutR N_57 N_59 (a) (a + 1) := by rw [hN_59]; exact fun q hq => zU_ne (by omega)
  have hc0_60 := (ho_59 (a + 1) (by omega)).trans hc1_58
  have hf_59 : zoutR M N_59 (a) (a + 2) := zoutR_tr hf_57 (zoutR_w ho_59 (by omega) (by omega))
  refine z_widen (k := 1) (n := 32) (by omega) (by omega) ?_
  exact z_vret C ⟨rfl, rfl, ⟨_, hn_59, hc0_60, by decide, fun i c h => (by cases h), fun c h => (by cases h)⟩, hf_59⟩ d_L_init_17
set_option maxHeartbeats 4000000 in
theorem g_init (E : zE) (l : Launch) (M : zM) {a : Nat} (h0 : M a = some (.inr (4, [.null, .null, .int 0, .int 0]))) : zMet E l y_G_init c_G_init 1 none { frames := 1, cells := 2, slots := 64, locals := 20 } 2 64 [.ref a] (a + 1) M (fun v s M' => none = v ∧ a + 3 = s ∧ zpg E M' a [] (-1) ∧ zoutR M M' a (a + 3)) := by
  refine zMet.ofZ (by decide) (Nat.le_of_ble_eq_true rfl) ?_
  intro X hl hini C
  show Z X E 1 _ 0 0 (a + 1) M 0 [(0, .ref a)] []
  refine z_aload_n C d_G_init_0 rfl rfl ?_
  refine z_obj C ml_G_3 im_jO_init k_jO_init d_G_init_1 (Nat.le_of_ble_eq_true rfl) (Nat.le_of_ble_eq_true rfl) ?_
  refine z_aload_n C d_G_init_4 rfl rfl ?_
  refine z_bipush (v := nI 32) C d_G_init_5 (by decide) ?_
  refine z_newa (atype := .int) (a0 := (32, .inl (fun _ => 0))) C ac_int rfl 0 rfl (fun _ q => by cases q) 32 rfl (rfl) (by decide) (by decide) (Nat.le_of_ble_eq_true rfl) (Nat.le_of_ble_eq_true rfl) d_G_init_7 ?_
  obtain ⟨N_61, hN_61⟩ : ∃ N : zM, N = zU M (a + 1) (.inl (E.2.1 0, 32, .inl (fun _ => 0))) := ⟨_, rfl⟩
  refine z_world (M' := N_61) hN_61.symm ?_
  have hn_61 : N_61 (a + 1) = some (.inl (E.2.1 0, 32, .inl (fun _ => 0))) := by rw [hN_61]; exact zU_eq
  have ho_61 : zoutR M N_61 (a + 1) (a + 1 + 1) := by rw [hN_61]; exact fun q hq => zU_ne (by omega)
  have hc0_62 := (ho_61 (a) (by omega)).trans h0
  have hf_61 : zoutR M N_61 (a) (a + 3) := zoutR_tr zoutR_rf (zoutR_w ho_61 (by omega) (by omega))
  refine z_putF C in_G ty_G tok_G nm_G hini hc0_62 rfl 0 (by decide) fl_G_9 rfl rfl rfl rfl (rfl) (rfl) (Nat.le_of_ble_eq_true rfl) d_G_init_9 ?_
  obtain ⟨N_63, hN_63⟩ : ∃ N : zM, N = zU N_61 a (.inr (4, [.ref (a + 1), .null, .int 0, .int 0])) := ⟨_, rfl⟩
  refine z_world (M' := N_63) hN_63.symm ?_
  have hn_63 : N_63 (a) = some (.inr (4, [.ref (a + 1), .null, .int 0, .int 0])) := by rw [hN_63]; exact zU_eq
  have ho_63 : zoutR N_61 N_63 (a) (a + 1) := by rw [hN_63]; exact fun q hq => zU_ne (by omega)
  have hc1_64 := (ho_63 (a + 1) (by omega)).trans hn_61
  have hf_63 : zoutR M N_63 (a) (a + 3) := zoutR_tr hf_61 (zoutR_w ho_63 (by omega) (by omega))
  refine z_aload_n C d_G_init_12 rfl rfl ?_
  refine z_bipush (v := nI 32) C d_G_init_13 (by decide) ?_
  refine z_newa (atype := .int) (a0 := (32, .inl (fun _ => 0))) C ac_int rfl 0 rfl (fun _ q => by cases q) 32 rfl (rfl) (by decide) (by decide) (Nat.le_of_ble_eq_true rfl) (Nat.le_of_ble_eq_true rfl) d_G_init_15 ?_
  obtain ⟨N_65, hN_65⟩ : ∃ N : zM, N = zU N_63 (a + 2) (.inl (E.2.1 0, 32, .inl (fun _ => 0))) := ⟨_, rfl⟩
  refine z_world (M' := N_65) hN_65.symm ?_
  have hn_65 : N_65 (a + 2) = some (.inl (E.2.1 0, 32, .inl (fun _ => 0))) := by rw [hN_65]; exact zU_eq
  have ho_65 : zoutR N_63 N_65 (a + 2) (a + 2 + 1) := by rw [hN_65]; exact fun q hq => zU_ne (by omega)
  have hc0_66 := (ho_65 (a + 1) (by omega)).trans hc1_64
  have hc1_66 := (ho_65 (a) (by omega)).trans hn_63
  have hf_65 : zoutR M N_65 (a) (a + 3) := zoutR_tr hf_63 (zoutR_w ho_65 (by omega) (by omega))
  refine z_putF C in_G ty_G tok_G nm_G hini hc1_66 rfl 1 (by decide) fl_G_15 rfl rfl rfl rfl (rfl) (rfl) (Nat.le_of_ble_eq_true rfl) d_G_init_17 ?_
  obtain ⟨N_67, hN_67⟩ : ∃ N : zM, N = zU N_65 a (.inr (4, [.ref (a + 1), .ref (a + 2), .int 0, .int 0])) := ⟨_, rfl⟩
  refine z_world (M' := N_67) hN_67.symm ?_
  have hn_67 : N_67 (a) = some (.inr (4, [.ref (a + 1), .ref (a + 2), .int 0, .int 0])) := by rw [hN_67]; exact zU_eq
  have ho_67 : zoutR N_65 N_67 (a) (a + 1) := by rw [hN_67]; exact fun q hq => zU_ne (by omega)
  have hc0_68 := (ho_67 (a + 1) (by omega)).trans hc0_66
  have hc2_68 := (ho_67 (a + 2) (by omega)).trans hn_65
  have hf_67 : zoutR M N_67 (a) (a + 3) := zoutR_tr hf_65 (zoutR_w ho_67 (by omega) (by omega))
  refine z_aload_n C d_G_init_20 rfl rfl ?_
  refine z_iconst (v := nI 0) C d_G_init_21 (by decide) ?_
  refine z_put C in_G ty_G tok_G nm_G hn_67 rfl 2 (by decide) fl_G_18 rfl rfl rfl (rfl) (rfl) (Nat.le_of_ble_eq_true rfl) d_G_init_22 ?_
  obtain ⟨N_69, hN_69⟩ : ∃ N : zM, N = zU N_67 a (.inr (4, [.ref (a + 1), .ref (a + 2), .int (nI 0), .int 0])) := ⟨_, rfl⟩
  refine z_world (M' := N_69) hN_69.symm ?_
  have hn_69 : N_69 (a) = some (.inr (4, [.ref (a + 1), .ref (a + 2), .int (nI 0), .int 0])) := by rw [hN_69]; exact zU_eq
  have ho_69 : zoutR N_67 N_69 (a) (a + 1) := by rw [hN_69]; exact fun q hq => zU_ne (by omega)
  have hc0_70 := (ho_69 (a + 1) (by omega)).trans hc0_68
  have hc1_70 := (ho_69 (a + 2) (by omega)).trans hc2_68
  have hf_69 : zoutR M N_69 (a) (a + 3) := zoutR_tr hf_67 (zoutR_w ho_69 (by omega) (by omega))
  refine z_aload_n C d_G_init_25 rfl rfl ?_
  refine z_iconst (v := (-1)) C d_G_init_26 (by decide) ?_
  refine z_put C in_G ty_G tok_G nm_G hn_69 rfl 3 (by decide) fl_G_22 rfl rfl rfl (rfl) (rfl) (Nat.le_of_ble_eq_true rfl) d_G_init_27 ?_
  obtain ⟨N_71, hN_71⟩ : ∃ N : zM, N = zU N_69 a (.inr (4, [.ref (a + 1), .ref (a + 2), .int (nI 0), .int (-1)])) := ⟨_, rfl⟩
  refine z_world (M' := N_71) hN_71.symm ?_
  have hn_71 : N_71 (a) = some (.inr (4, [.ref (a + 1), .ref (a + 2), .int (nI 0), .int (-1)])) := by rw [hN_71]; exact zU_eq
  have ho_71 : zoutR N_69 N_71 (a) (a + 1) := by rw [hN_71]; exact fun q hq => zU_ne (by omega)
  have hc0_72 := (ho_71 (a + 1) (by omega)).trans hc0_70
  have hc1_72 := (ho_71 (a + 2) (by omega)).trans hc1_70
  have hf_71 : zoutR M N_71 (a) (a + 3) := zoutR_tr hf_69 (zoutR_w ho_71 (by omega) (by omega))
  refine z_widen (k := 2) (n := 64) (by omega) (by omega) ?_
  exact z_vret C ⟨rfl, rfl, ⟨_, _, hn_71, hc0_72, hc1_72, by decide, fun i c h => (by cases h)⟩, hf_71⟩ d_G_init_30
set_option maxHeartbeats 4000000 in
theorem r_init (E : zE) (l : Launch) (M : zM) {a p g : Nat} (h0 : M a = some (.inr (5, [.null, .null, .null, .int 0, .null, .null, .int 0, .int 0, .int 0, .int 0, .int 0]))) : zMet E l y_R_init c_R_init 3 none { frames := 1, cells := 3, slots := 27, locals := 20 } 3 27 [.ref a, .ref p, .ref g] (a + 1) M (fun v s M' => none = v ∧ a + 4 = s ∧ (M' a = some (.inr (5, [.ref (a + 1), .ref (a + 2), .ref (a + 3), .int 0, .ref p, .ref g, .int 0, .int 0, .int 0, .int 0, .int 0])) ∧ M' (a + 1) = some (.inl (E.2.1 1, 9, .inl (fun _ => 0))) ∧ M' (a + 2) = some (.inl (E.2.1 0, 9, .inl (fun _ => 0))) ∧ M' (a + 3) = some (.inl (E.2.1 0, 9, .inl (fun _ => 0)))) ∧ zoutR M M' a (a + 4)) := by
  refine zMet.ofZ (by decide) (Nat.le_of_ble_eq_true rfl) ?_
  intro X hl hini C
  show Z X E 3 _ 0 0 (a + 1) M 0 [(0, .ref a), (1, .ref p), (2, .ref g)] []
  refine z_aload_n C d_R_init_0 rfl rfl ?_
  refine z_obj C ml_R_3 im_jO_init k_jO_init d_R_init_1 (Nat.le_of_ble_eq_true rfl) (Nat.le_of_ble_eq_true rfl) ?_
  refine z_aload_n C d_R_init_4 rfl rfl ?_
  refine z_bipush (v := nI 9) C d_R_init_5 (by decide) ?_
  refine z_newa (atype := .char) (a0 := (9, .inl (fun _ => 0))) C ac_char rfl 1 rfl (fun _ q => by cases q) 9 rfl (rfl) (by decide) (by decide) (Nat.le_of_ble_eq_true rfl) (Nat.le_of_ble_eq_true rfl) d_R_init_7 ?_
  obtain ⟨N_73, hN_73⟩ : ∃ N : zM, N = zU M (a + 1) (.inl (E.2.1 1, 9, .inl (fun _ => 0))) := ⟨_, rfl⟩
  refine z_world (M' := N_73) hN_73.symm ?_
  have hn_73 : N_73 (a + 1) = some (.inl (E.2.1 1, 9, .inl (fun _ => 0))) := by rw [hN_73]; exact zU_eq
  have ho_73 : zoutR M N_73 (a + 1) (a + 1 + 1) := by rw [hN_73]; exact fun q hq => zU_ne (by omega)
  have hc0_74 := (ho_73 (a) (by omega)).trans h0
  have hf_73 : zoutR M N_73 (a) (a + 4) := zoutR_tr zoutR_rf (zoutR_w ho_73 (by omega) (by omega))
  refine z_putF C in_R ty_R tok_R nm_R hini hc0_74 rfl 0 (by decide) fl_R_9 rfl rfl rfl rfl (rfl) (rfl) (Nat.le_of_ble_eq_true rfl) d_R_init_9 ?_
  obtain ⟨N_75, hN_75⟩ : ∃ N : zM, N = zU N_73 a (.inr (5, [.ref (a + 1), .null, .null, .int 0, .null, .null, .int 0, .int 0, .int 0, .int 0, .int 0])) := ⟨_, rfl⟩
  refine z_world (M' := N_75) hN_75.symm ?_
  have hn_75 : N_75 (a) = some (.inr (5, [.ref (a + 1), .null, .null, .int 0, .null, .null, .int 0, .int 0, .int 0, .int 0, .int 0])) := by rw [hN_75]; exact zU_eq
  have ho_75 : zoutR N_73 N_75 (a) (a + 1) := by rw [hN_75]; exact fun q hq => zU_ne (by omega)
  have hc1_76 := (ho_75 (a + 1) (by omega)).trans hn_73
  have hf_75 : zoutR M N_75 (a) (a + 4) := zoutR_tr hf_73 (zoutR_w ho_75 (by omega) (by omega))
  refine z_aload_n C d_R_init_12 rfl rfl ?_
  refine z_bipush (v := nI 9) C d_R_init_13 (by decide) ?_
  refine z_newa (atype := .int) (a0 := (9, .inl (fun _ => 0))) C ac_int rfl 0 rfl (fun _ q => by cases q) 9 rfl (rfl) (by decide) (by decide) (Nat.le_of_ble_eq_true rfl) (Nat.le_of_ble_eq_true rfl) d_R_init_15 ?_
  obtain ⟨N_77, hN_77⟩ : ∃ N : zM, N = zU N_75 (a + 2) (.inl (E.2.1 0, 9, .inl (fun _ => 0))) := ⟨_, rfl⟩
  refine z_world (M' := N_77) hN_77.symm ?_
  have hn_77 : N_77 (a + 2) = some (.inl (E.2.1 0, 9, .inl (fun _ => 0))) := by rw [hN_77]; exact zU_eq
  have ho_77 : zoutR N_75 N_77 (a + 2) (a + 2 + 1) := by rw [hN_77]; exact fun q hq => zU_ne (by omega)
  have hc0_78 := (ho_77 (a + 1) (by omega)).trans hc1_76
  have hc1_78 := (ho_77 (a) (by omega)).trans hn_75
  have hf_77 : zoutR M N_77 (a) (a + 4) := zoutR_tr hf_75 (zoutR_w ho_77 (by omega) (by omega))
  refine z_putF C in_R ty_R tok_R nm_R hini hc1_78 rfl 1 (by decide) fl_R_15 rfl rfl rfl rfl (rfl) (rfl) (Nat.le_of_ble_eq_true rfl) d_R_init_17 ?_
  obtain ⟨N_79, hN_79⟩ : ∃ N : zM, N = zU N_77 a (.inr (5, [.ref (a + 1), .ref (a + 2), .null, .int 0, .null, .null, .int 0, .int 0, .int 0, .int 0, .int 0])) := ⟨_, rfl⟩
  refine z_world (M' := N_79) hN_79.symm ?_
  have hn_79 : N_79 (a) = some (.inr (5, [.ref (a + 1), .ref (a + 2), .null, .int 0, .null, .null, .int 0, .int 0, .int 0, .int 0, .int 0])) := by rw [hN_79]; exact zU_eq
  have ho_79 : zoutR N_77 N_79 (a) (a + 1) := by rw [hN_79]; exact fun q hq => zU_ne (by omega)
  have hc0_80 := (ho_79 (a + 1) (by omega)).trans hc0_78
  have hc2_80 := (ho_79 (a + 2) (by omega)).trans hn_77
  have hf_79 : zoutR M N_79 (a) (a + 4) := zoutR_tr hf_77 (zoutR_w ho_79 (by omega) (by omega))
  refine z_aload_n C d_R_init_20 rfl rfl ?_
  refine z_bipush (v := nI 9) C d_R_init_21 (by decide) ?_
  refine z_newa (atype := .int) (a0 := (9, .inl (fun _ => 0))) C ac_int rfl 0 rfl (fun _ q => by cases q) 9 rfl (rfl) (by decide) (by decide) (Nat.le_of_ble_eq_true rfl) (Nat.le_of_ble_eq_true rfl) d_R_init_23 ?_
  obtain ⟨N_81, hN_81⟩ : ∃ N : zM, N = zU N_79 (a + 3) (.inl (E.2.1 0, 9, .inl (fun _ => 0))) := ⟨_, rfl⟩
  refine z_world (M' := N_81) hN_81.symm ?_
  have hn_81 : N_81 (a + 3) = some (.inl (E.2.1 0, 9, .inl (fun _ => 0))) := by rw [hN_81]; exact zU_eq
  have ho_81 : zoutR N_79 N_81 (a + 3) (a + 3 + 1) := by rw [hN_81]; exact fun q hq => zU_ne (by omega)
  have hc0_82 := (ho_81 (a + 1) (by omega)).trans hc0_80
  have hc1_82 := (ho_81 (a + 2) (by omega)).trans hc2_80
  have hc2_82 := (ho_81 (a) (by omega)).trans hn_79
  have hf_81 : zoutR M N_81 (a) (a + 4) := zoutR_tr hf_79 (zoutR_w ho_81 (by omega) (by omega))
  refine z_putF C in_R ty_R tok_R nm_R hini hc2_82 rfl 2 (by decide) fl_R_19 rfl rfl rfl rfl (rfl) (rfl) (Nat.le_of_ble_eq_true rfl) d_R_init_25 ?_
  obtain ⟨N_83, hN_83⟩ : ∃ N : zM, N = zU N_81 a (.inr (5, [.ref (a + 1), .ref (a + 2), .ref (a + 3), .int 0, .null, .null, .int 0, .int 0, .int 0, .int 0, .int 0])) := ⟨_, rfl⟩
  refine z_world (M' := N_83) hN_83.symm ?_
  have hn_83 : N_83 (a) = some (.inr (5, [.ref (a + 1), .ref (a + 2), .ref (a + 3), .int 0, .null, .null, .int 0, .int 0, .int 0, .int 0, .int 0])) := by rw [hN_83]; exact zU_eq
  have ho_83 : zoutR N_81 N_83 (a) (a + 1) := by rw [hN_83]; exact fun q hq => zU_ne (by omega)
  have hc0_84 := (ho_83 (a + 1) (by omega)).trans hc0_82
  have hc1_84 := (ho_83 (a + 2) (by omega)).trans hc1_82
  have hc3_84 := (ho_83 (a + 3) (by omega)).trans hn_81
  have hf_83 : zoutR M N_83 (a) (a + 4) := zoutR_tr hf_81 (zoutR_w ho_83 (by omega) (by omega))
  refine z_aload_n C d_R_init_28 rfl rfl ?_
  refine z_aload_n C d_R_init_29 rfl rfl ?_
  refine z_putF C in_R ty_R tok_R nm_R hini hn_83 rfl 4 (by decide) fl_R_22 rfl rfl rfl rfl (rfl) (rfl) (Nat.le_of_ble_eq_true rfl) d_R_init_30 ?_
  obtain ⟨N_85, hN_85⟩ : ∃ N : zM, N = zU N_83 a (.inr (5, [.ref (a + 1), .ref (a + 2), .ref (a + 3), .int 0, .ref p, .null, .int 0, .int 0, .int 0, .int 0, .int 0])) := ⟨_, rfl⟩
  refine z_world (M' := N_85) hN_85.symm ?_
  have hn_85 : N_85 (a) = some (.inr (5, [.ref (a + 1), .ref (a + 2), .ref (a + 3), .int 0, .ref p, .null, .int 0, .int 0, .int 0, .int 0, .int 0])) := by rw [hN_85]; exact zU_eq
  have ho_85 : zoutR N_83 N_85 (a) (a + 1) := by rw [hN_85]; exact fun q hq => zU_ne (by omega)
  have hc0_86 := (ho_85 (a + 1) (by omega)).trans hc0_84
  have hc1_86 := (ho_85 (a + 2) (by omega)).trans hc1_84
  have hc2_86 := (ho_85 (a + 3) (by omega)).trans hc3_84
  have hf_85 : zoutR M N_85 (a) (a + 4) := zoutR_tr hf_83 (zoutR_w ho_85 (by omega) (by omega))
  refine z_aload_n C d_R_init_33 rfl rfl ?_
  refine z_aload_n C d_R_init_34 rfl rfl ?_
  refine z_putF C in_R ty_R tok_R nm_R hini hn_85 rfl 5 (by decide) fl_R_26 rfl rfl rfl rfl (rfl) (rfl) (Nat.le_of_ble_eq_true rfl) d_R_init_35 ?_
  obtain ⟨N_87, hN_87⟩ : ∃ N : zM, N = zU N_85 a (.inr (5, [.ref (a + 1), .ref (a + 2), .ref (a + 3), .int 0, .ref p, .ref g, .int 0, .int 0, .int 0, .int 0, .int 0])) := ⟨_, rfl⟩
  refine z_world (M' := N_87) hN_87.symm ?_
  have hn_87 : N_87 (a) = some (.inr (5, [.ref (a + 1), .ref (a + 2), .ref (a + 3), .int 0, .ref p, .ref g, .int 0, .int 0, .int 0, .int 0, .int 0])) := by rw [hN_87]; exact zU_eq
  have ho_87 : zoutR N_85 N_87 (a) (a + 1) := by rw [hN_87]; exact fun q hq => zU_ne (by omega)
  have hc0_88 := (ho_87 (a + 1) (by omega)).trans hc0_86
  have hc1_88 := (ho_87 (a + 2) (by omega)).trans hc1_86
  have hc2_88 := (ho_87 (a + 3) (by omega)).trans hc2_86
  have hf_87 : zoutR M N_87 (a) (a + 4) := zoutR_tr hf_85 (zoutR_w ho_87 (by omega) (by omega))
  refine z_widen (k := 3) (n := 27) (by omega) (by omega) ?_
  exact z_vret C ⟨rfl, rfl, ⟨hn_87, hc0_88, hc1_88, hc2_88⟩, hf_87⟩ d_R_init_38
set_option maxHeartbeats 4000000 in
theorem t_init (E : zE) (l : Launch) (M : zM) {a : Nat} (h0 : M a = some (.inr (7, [.int 0, .int 0, .int 0]))) : zMet E l y_T_init c_T_init 1 none { frames := 1, cells := 0, slots := 0, locals := 20 } 0 0 [.ref a] (a + 1) M (fun v s M' => none = v ∧ a + 1 = s ∧ M' a = some (.inr (7, [.int 0, .int 0, .int 0])) ∧ zoutR M M' a (a + 1)) := by
  refine zMet.ofZ (by decide) (Nat.le_of_ble_eq_true rfl) ?_
  intro X hl hini C
  show Z X E 1 _ 0 0 (a + 1) M 0 [(0, .ref a)] []
  refine z_aload_n C d_T_init_0 rfl rfl ?_
  refine z_obj C ml_T_1 im_jO_init k_jO_init d_T_init_1 (Nat.le_of_ble_eq_true rfl) (Nat.le_of_ble_eq_true rfl) ?_
  refine z_widen (k := 0) (n := 0) (by omega) (by omega) ?_
  exact z_vret C ⟨rfl, rfl, h0, zoutR_rf⟩ d_T_init_4
theorem z_szeq {X : zX} {E : zE} {nL : Nat} {Q : State → Prop} {kc ks sz sz2 : Nat} {M : zM} {pc : Nat} {L : List (Nat × Value)} {st : List Value} (h : sz = sz2) (kk : Z X E nL Q kc ks sz2 M pc L st) : Z X E nL Q kc ks sz M pc L st := h ▸ kk
theorem isfz {E : zE} {M : zM} {q : Nat} (h : zf E M q 0 0 ps_0 ps_0) : ∃ kn kd N D, zf E M q kn kd N D := ⟨_, _, _, _, h⟩
set_option maxHeartbeats 4000000 in
theorem k_init (E : zE) (l : Launch) (M : zM) {a : Nat} (h0 : M a = some (.inr (8, [.null, .null, .int 0]))) : zMet E l y_K_init c_K_init 2 none { frames := 3, cells := 96, slots := 724, locals := 61 } 96 724 [.ref a] (a + 1) M (fun v s M' => none = v ∧ a + 97 = s ∧ zwk E M' a [] ∧ zoutR M M' a (a + 97)) := by
  refine zMet.ofZ (by decide) (Nat.le_of_ble_eq_true rfl) ?_
  intro X hl hini C
  have loop : ∀ (q i : Nat) (M1 : zM) (ff : Nat → Option Nat), i + q = 16 → M1 a = some (.inr (8, [.ref (a + 1), .ref (a + 16), .int (nI 0)])) → M1 (a + 16) = some (.inl (E.2.1 3, 16, .inr (.inr (.inr (.inr ff))))) → zsh E M1 (a + 1) 0 0 ps_0 ps_0 → (∀ j, j < i → ff j = some (a + 17 + 5 * j)) → (∀ j, j < i → zf E M1 (a + 17 + 5 * j) 0 0 ps_0 ps_0) → zoutR M M1 a (a + 97) → Z X E 2 (zQ X E 96 724 (fun v s M' => none = v ∧ a + 97 = s ∧ zwk E M' a [] ∧ zoutR M M' a (a + 97))) (16 + 5 * i) (212 + 32 * i) (a + 17 + 5 * i) M1 31 [(0, .ref a), (1, .int (nI i))] [] := by
    intro q
    induction q with
    | zero =>
      intro i M1 ff hi g0 g1 hsh hff hzf hf
      have hi : i = 16 := by omega
      subst hi
      refine z_iload_n C d_K_init_31 rfl rfl ?_
      refine z_bipush (v := nI 16) C d_K_init_32 (by decide) ?_
      refine z_icmp_ge (tgt := 56) C d_K_init_34 (by decide) (fun _ => ?_) (fun c_34 => absurd (by decide) c_34)
      refine z_widen (k := 96) (n := 724) (by omega) (by omega) ?_
      exact z_vret C ⟨rfl, rfl, ⟨ff, g0, g1, by decide, hff, ⟨_, _, _, _, hsh⟩, fun i x h => (by cases h), fun i hi => isfz (hzf i hi)⟩, hf⟩ d_K_init_56
    | succ q ih =>
      intro i M1 ff hi g0 g1 hsh hff hzf hf
      refine z_iload_n C d_K_init_31 rfl rfl ?_
      refine z_bipush (v := nI 16) C d_K_init_32 (by decide) ?_
      refine z_icmp_ge (tgt := 56) C d_K_init_34 (by decide) (fun c_34 => absurd c_34 (fun q => absurd ((nI_leI (a := 16) (b := i) (by omega) (by omega)).mp q) (by omega))) (fun _ => ?_)
      refine z_aload_n C d_K_init_37 rfl rfl ?_
      refine z_get C in_K g0 rfl 1 (by decide) fl_K_20 rfl rfl d_K_init_38 ?_
      refine z_iload_n C d_K_init_41 rfl rfl ?_
      refine z_new (ci := 1) (fs := [.null, .null]) C in_F ty_F tok_F cl_K_18 in_F_made ii_F rfl (dflt_F) (by show _ ≤ 96; omega) (by show _ ≤ 724; omega) d_K_init_42 ?_
      obtain ⟨N_89, hN_89⟩ : ∃ N : zM, N = zU M1 (a + 17 + 5 * i) (.inr (1, [.null, .null])) := ⟨_, rfl⟩
      refine z_world (M' := N_89) hN_89.symm ?_
      have hn_89 : N_89 (a + 17 + 5 * i) = some (.inr (1, [.null, .null])) := by rw [hN_89]; exact zU_eq
      have ho_89 : zoutR M1 N_89 (a + 17 + 5 * i) (a + 17 + 5 * i + 1) := by rw [hN_89]; exact fun q hq => zU_ne (by omega)
      have hc0_90 := (ho_89 (a) (by omega)).trans g0
      have hc1_90 := (ho_89 (a + 16) (by omega)).trans g1
      have hp0_90 := zsh_oR ho_89 hsh (by omega)
      have hp1_90 : ∀ j, j < i → zf E N_89 (a + 17 + 5 * j) 0 0 ps_0 ps_0 := fun j hj => zf_oR ho_89 (hzf j hj) (by omega)
      have hf_89 : zoutR M N_89 (a) (a + 97) := zoutR_tr hf (zoutR_w ho_89 (by omega) (by omega))
      refine z_dup C d_K_init_45 rfl ?_
      refine z_callIN (rest := [.ref (a + 17 + 5 * i), .int (nI i), .ref (a + 16)]) (n := 0) (As := []) (b := a + 17 + 5 * i) C (f_init E X.2.1 _ hn_89) ⟨z_cn C k_F_init ml_K_28 ii_F rfl rfl (by decide +kernel) ⟨by decide, by decide⟩, rfl, C.2.2.2.2.1 _ im_F_init⟩ rfl rfl (Nat.le_of_ble_eq_true rfl) d_K_init_46 ⟨by show _ ≤ 96; omega, by show _ ≤ 724; omega⟩ ?_
      intro v_91 s_91 N_91 hq_91
      obtain ⟨rfl, rfl, hr_91, hs_91⟩ := hq_91
      have ho_91 : zoutR N_89 N_91 (a + 17 + 5 * i) (a + 17 + 5 * i + 5) := hs_91
      have hc0_92 := (ho_91 (a) (by omega)).trans hc0_90
      have hc1_92 := (ho_91 (a + 16) (by omega)).trans hc1_90
      have hp0_92 := zsh_oR ho_91 hp0_90 (by omega)
      have hp1_92 : ∀ j, j < i → zf E N_91 (a + 17 + 5 * j) 0 0 ps_0 ps_0 := fun j hj => zf_oR ho_91 (hp1_90 j hj) (by omega)
      have hf_91 : zoutR M N_91 (a) (a + 97) := zoutR_tr hf_89 (zoutR_w ho_91 (by omega) (by omega))
      show Z _ _ _ _ _ _ _ _ 49 _ [.ref (a + 17 + 5 * i), .int (nI i), .ref (a + 16)]
      refine z_aast C hc1_92 3 rfl hr_91.1 rfl i rfl (by omega) (by decide) d_K_init_49 ?_
      obtain ⟨N_93, hN_93⟩ : ∃ N : zM, N = zU N_91 (a + 16) (.inl (E.2.1 3, 16, .inr (.inr (.inr (.inr (va_up ff i (some (a + 17 + 5 * i)))))))) := ⟨_, rfl⟩
      refine z_world (M' := N_93) hN_93.symm ?_
      have hn_93 : N_93 (a + 16) = some (.inl (E.2.1 3, 16, .inr (.inr (.inr (.inr (va_up ff i (some (a + 17 + 5 * i)))))))) := by rw [hN_93]; exact zU_eq
      have ho_93 : zoutR N_91 N_93 (a + 16) (a + 16 + 1) := by rw [hN_93]; exact fun q hq => zU_ne (by omega)
      have hc0_94 := (ho_93 (a) (by omega)).trans hc0_92
      have hc2_94 := (ho_93 (a + 17 + 5 * i) (by omega)).trans hr_91.1
      have hp0_94 := zsh_oR ho_93 hp0_92 (by omega)
      have hp1_94 : ∀ j, j < i → zf E N_93 (a + 17 + 5 * j) 0 0 ps_0 ps_0 := fun j hj => zf_oR ho_93 (hp1_92 j hj) (by omega)
      have hp2_94 := zf_oR ho_93 hr_91 (by omega)
      have hf_93 : zoutR M N_93 (a) (a + 97) := zoutR_tr hf_91 (zoutR_w ho_93 (by omega) (by omega))
      refine z_iinc (v := nI (i + 1)) (L' := [(0, .ref a), (1, .int (nI (i + 1)))]) C d_K_init_50 rfl (nI_1 i) (by decide) rfl ?_
      refine z_goto (tgt := 31) C d_K_init_53 (by decide) ?_
      have hff2 : ∀ j, j < i + 1 → va_up ff i (some (a + 17 + 5 * i)) j = some (a + 17 + 5 * j) := by
        intro j hj
        by_cases e9 : j = i
        · rw [e9]; unfold va_up; exact if_pos rfl
        · unfold va_up; rw [if_neg e9]; exact hff j (by omega)
      have hzf2 : ∀ j, j < i + 1 → zf E N_93 (a + 17 + 5 * j) 0 0 ps_0 ps_0 := by
        intro j hj
        by_cases e9 : j = i
        · rw [e9]; exact hp2_94
        · exact hp1_94 j (by omega)
      refine z_widen (k := 16 + 5 * (i + 1)) (n := 212 + 32 * (i + 1)) (by omega) (by omega) ?_
      refine z_szeq (sz2 := a + 17 + 5 * (i + 1)) (by omega) ?_
      exact ih (i + 1) N_93 _ (by omega) hc0_94 hn_93 hp0_94 hff2 hzf2 hf_93
  show Z X E 2 _ 0 0 (a + 1) M 0 [(0, .ref a)] []
  refine z_aload_n C d_K_init_0 rfl rfl ?_
  refine z_obj C ml_K_3 im_jO_init k_jO_init d_K_init_1 (Nat.le_of_ble_eq_true rfl) (Nat.le_of_ble_eq_true rfl) ?_
  refine z_aload_n C d_K_init_4 rfl rfl ?_
  refine z_new (ci := 9) (fs := [.null, .null, .null, .null, .null, .null, .null]) C in_W ty_W tok_W cl_K_9 in_W_made ii_W rfl (dflt_W) (Nat.le_of_ble_eq_true rfl) (Nat.le_of_ble_eq_true rfl) d_K_init_5 ?_
  obtain ⟨N_95, hN_95⟩ : ∃ N : zM, N = zU M (a + 1) (.inr (9, [.null, .null, .null, .null, .null, .null, .null])) := ⟨_, rfl⟩
  refine z_world (M' := N_95) hN_95.symm ?_
  have hn_95 : N_95 (a + 1) = some (.inr (9, [.null, .null, .null, .null, .null, .null, .null])) := by rw [hN_95]; exact zU_eq
  have ho_95 : zoutR M N_95 (a + 1) (a + 1 + 1) := by rw [hN_95]; exact fun q hq => zU_ne (by omega)
  have hc0_96 := (ho_95 (a) (by omega)).trans h0
  have hf_95 : zoutR M N_95 (a) (a + 97) := zoutR_tr zoutR_rf (zoutR_w ho_95 (by omega) (by omega))
  refine z_dup C d_K_init_8 rfl ?_
  refine z_callIN (rest := [.ref (a + 1), .ref a]) (n := 0) (As := []) (b := a + 1) C (w_init E X.2.1 _ hn_95) ⟨z_cn C k_W_init ml_K_11 ii_W rfl rfl (by decide +kernel) ⟨by decide, by decide⟩, rfl, C.2.2.2.2.1 _ im_W_init⟩ rfl rfl (Nat.le_of_ble_eq_true rfl) d_K_init_9 ⟨by decide, by decide⟩ ?_
  intro v_97 s_97 N_97 hq_97
  obtain ⟨rfl, rfl, hr_97, hs_97⟩ := hq_97
  have ho_97 : zoutR N_95 N_97 (a + 1) (a + 1 + 15) := hs_97
  have hc0_98 := (ho_97 (a) (by omega)).trans hc0_96
  have hf_97 : zoutR M N_97 (a) (a + 97) := zoutR_tr hf_95 (zoutR_w ho_97 (by omega) (by omega))
  show Z _ _ _ _ _ _ _ _ 12 _ [.ref (a + 1), .ref a]
  refine z_putF C in_K ty_K tok_K nm_K hini hc0_98 rfl 0 (by decide) fl_K_12 rfl rfl rfl rfl (rfl) (rfl) (Nat.le_of_ble_eq_true rfl) d_K_init_12 ?_
  obtain ⟨N_99, hN_99⟩ : ∃ N : zM, N = zU N_97 a (.inr (8, [.ref (a + 1), .null, .int 0])) := ⟨_, rfl⟩
  refine z_world (M' := N_99) hN_99.symm ?_
  have hn_99 : N_99 (a) = some (.inr (8, [.ref (a + 1), .null, .int 0])) := by rw [hN_99]; exact zU_eq
  have ho_99 : zoutR N_97 N_99 (a) (a + 1) := by rw [hN_99]; exact fun q hq => zU_ne (by omega)
  have hc1_100 := (ho_99 (a + 1) (by omega)).trans hr_97.1
  have hp0_100 := zsh_oR ho_99 hr_97 (by omega)
  have hf_99 : zoutR M N_99 (a) (a + 97) := zoutR_tr hf_97 (zoutR_w ho_99 (by omega) (by omega))
  refine z_aload_n C d_K_init_15 rfl rfl ?_
  refine z_bipush (v := nI 16) C d_K_init_16 (by decide) ?_
  refine z_newq C cl_K_18 (List.mem_singleton.mpr rfl) 3 rfl 16 rfl (by decide) (by decide) (Nat.le_of_ble_eq_true rfl) (Nat.le_of_ble_eq_true rfl) d_K_init_18 ?_
  obtain ⟨N_101, hN_101⟩ : ∃ N : zM, N = zU N_99 (a + 16) (.inl (E.2.1 3, 16, .inr (.inr (.inr (.inr (fun _ => none)))))) := ⟨_, rfl⟩
  refine z_world (M' := N_101) hN_101.symm ?_
  have hn_101 : N_101 (a + 16) = some (.inl (E.2.1 3, 16, .inr (.inr (.inr (.inr (fun _ => none)))))) := by rw [hN_101]; exact zU_eq
  have ho_101 : zoutR N_99 N_101 (a + 16) (a + 16 + 1) := by rw [hN_101]; exact fun q hq => zU_ne (by omega)
  have hc0_102 := (ho_101 (a + 1) (by omega)).trans hc1_100
  have hc1_102 := (ho_101 (a) (by omega)).trans hn_99
  have hp0_102 := zsh_oR ho_101 hp0_100 (by omega)
  have hf_101 : zoutR M N_101 (a) (a + 97) := zoutR_tr hf_99 (zoutR_w ho_101 (by omega) (by omega))
  refine z_putF C in_K ty_K tok_K nm_K hini hc1_102 rfl 1 (by decide) fl_K_20 rfl rfl rfl rfl (rfl) (rfl) (Nat.le_of_ble_eq_true rfl) d_K_init_21 ?_
  obtain ⟨N_103, hN_103⟩ : ∃ N : zM, N = zU N_101 a (.inr (8, [.ref (a + 1), .ref (a + 16), .int 0])) := ⟨_, rfl⟩
  refine z_world (M' := N_103) hN_103.symm ?_
  have hn_103 : N_103 (a) = some (.inr (8, [.ref (a + 1), .ref (a + 16), .int 0])) := by rw [hN_103]; exact zU_eq
  have ho_103 : zoutR N_101 N_103 (a) (a + 1) := by rw [hN_103]; exact fun q hq => zU_ne (by omega)
  have hc0_104 := (ho_103 (a + 1) (by omega)).trans hc0_102
  have hc2_104 := (ho_103 (a + 16) (by omega)).trans hn_101
  have hp0_104 := zsh_oR ho_103 hp0_102 (by omega)
  have hf_103 : zoutR M N_103 (a) (a + 97) := zoutR_tr hf_101 (zoutR_w ho_103 (by omega) (by omega))
  refine z_aload_n C d_K_init_24 rfl rfl ?_
  refine z_iconst (v := nI 0) C d_K_init_25 (by decide) ?_
  refine z_put C in_K ty_K tok_K nm_K hn_103 rfl 2 (by decide) fl_K_24 rfl rfl rfl (rfl) (rfl) (Nat.le_of_ble_eq_true rfl) d_K_init_26 ?_
  obtain ⟨N_105, hN_105⟩ : ∃ N : zM, N = zU N_103 a (.inr (8, [.ref (a + 1), .ref (a + 16), .int (nI 0)])) := ⟨_, rfl⟩
  refine z_world (M' := N_105) hN_105.symm ?_
  have hn_105 : N_105 (a) = some (.inr (8, [.ref (a + 1), .ref (a + 16), .int (nI 0)])) := by rw [hN_105]; exact zU_eq
  have ho_105 : zoutR N_103 N_105 (a) (a + 1) := by rw [hN_105]; exact fun q hq => zU_ne (by omega)
  have hc0_106 := (ho_105 (a + 1) (by omega)).trans hc0_104
  have hc1_106 := (ho_105 (a + 16) (by omega)).trans hc2_104
  have hp0_106 := zsh_oR ho_105 hp0_104 (by omega)
  have hf_105 : zoutR M N_105 (a) (a + 97) := zoutR_tr hf_103 (zoutR_w ho_105 (by omega) (by omega))
  refine z_iconst (v := nI 0) C d_K_init_29 (by decide) ?_
  refine z_istore_n (L' := [(0, .ref a), (1, .int (nI 0))]) C d_K_init_30 rfl (by decide) rfl ?_
  exact loop 16 0 N_105 _ (by omega) hn_105 hc1_106 hp0_106 (fun j hj => by omega) (fun j hj => by omega) hf_105
set_option maxHeartbeats 4000000 in
theorem h_init (E : zE) (l : Launch) (M : zM) {a : Nat} (h0 : M a = some (.inr (6, [.null, .null, .null, .int 0, .int 0]))) : zMet E l y_H_init c_H_init 2 none { frames := 3, cells := 203, slots := 1363, locals := 61 } 203 1363 [.ref a] (a + 1) M (fun v s M' => none = v ∧ a + 204 = s ∧ zsf E M' a [] [] (fun _ => 0) 0 ∧ zoutR M M' a (a + 204)) := by
  refine zMet.ofZ (by decide) (Nat.le_of_ble_eq_true rfl) ?_
  intro X hl hini C
  have loop : ∀ (q i : Nat) (M1 : zM) (ff : Nat → Option Nat), i + q = 40 → M1 a = some (.inr (6, [.ref (a + 1), .ref (a + 2), .ref (a + 3), .int (nI 0), .int (nI 0)])) → M1 (a + 1) = some (.inl (E.2.1 3, 40, .inr (.inr (.inr (.inr ff))))) → M1 (a + 2) = some (.inl (E.2.1 0, 40, .inl (fun _ => 0))) → M1 (a + 3) = some (.inl (E.2.1 0, 3, .inl (fun _ => 0))) → (∀ j, j < i → ff j = some (a + 4 + 5 * j)) → (∀ j, j < i → zf E M1 (a + 4 + 5 * j) 0 0 ps_0 ps_0) → zoutR M M1 a (a + 204) → Z X E 2 (zQ X E 203 1363 (fun v s M' => none = v ∧ a + 204 = s ∧ zsf E M' a [] [] (fun _ => 0) 0 ∧ zoutR M M' a (a + 204))) (3 + 5 * i) (83 + 32 * i) (a + 4 + 5 * i) M1 40 [(0, .ref a), (1, .int (nI i))] [] := by
    intro q
    induction q with
    | zero =>
      intro i M1 ff hi g0 g1 ha2 ha3 hff hzf hf
      have hi : i = 40 := by omega
      subst hi
      refine z_iload_n C d_H_init_40 rfl rfl ?_
      refine z_bipush (v := nI 40) C d_H_init_41 (by decide) ?_
      refine z_icmp_ge (tgt := 65) C d_H_init_43 (by decide) (fun _ => ?_) (fun c_43 => absurd (by decide) c_43)
      refine z_widen (k := 203) (n := 1363) (by omega) (by omega) ?_
      exact z_vret C ⟨rfl, rfl, ⟨ff, _, _, g0, g1, ha2, ha3, ⟨by decide, rfl, by decide⟩, hff, fun i s h => (by cases h), fun i hi => ⟨rfl, Nat.le_refl _⟩, fun i x h => (by cases h), fun i hi => isfz (hzf i hi)⟩, hf⟩ d_H_init_65
    | succ q ih =>
      intro i M1 ff hi g0 g1 ha2 ha3 hff hzf hf
      refine z_iload_n C d_H_init_40 rfl rfl ?_
      refine z_bipush (v := nI 40) C d_H_init_41 (by decide) ?_
      refine z_icmp_ge (tgt := 65) C d_H_init_43 (by decide) (fun c_43 => absurd c_43 (fun q => absurd ((nI_leI (a := 40) (b := i) (by omega) (by omega)).mp q) (by omega))) (fun _ => ?_)
      refine z_aload_n C d_H_init_46 rfl rfl ?_
      refine z_get C in_H g0 rfl 0 (by decide) fl_H_11 rfl rfl d_H_init_47 ?_
      refine z_iload_n C d_H_init_50 rfl rfl ?_
      refine z_new (ci := 1) (fs := [.null, .null]) C in_F ty_F tok_F cl_H_9 in_F_made ii_F rfl (dflt_F) (by show _ ≤ 203; omega) (by show _ ≤ 1363; omega) d_H_init_51 ?_
      obtain ⟨N_107, hN_107⟩ : ∃ N : zM, N = zU M1 (a + 4 + 5 * i) (.inr (1, [.null, .null])) := ⟨_, rfl⟩
      refine z_world (M' := N_107) hN_107.symm ?_
      have hn_107 : N_107 (a + 4 + 5 * i) = some (.inr (1, [.null, .null])) := by rw [hN_107]; exact zU_eq
      have ho_107 : zoutR M1 N_107 (a + 4 + 5 * i) (a + 4 + 5 * i + 1) := by rw [hN_107]; exact fun q hq => zU_ne (by omega)
      have hc0_108 := (ho_107 (a) (by omega)).trans g0
      have hc1_108 := (ho_107 (a + 1) (by omega)).trans g1
      have hc2_108 := (ho_107 (a + 2) (by omega)).trans ha2
      have hc3_108 := (ho_107 (a + 3) (by omega)).trans ha3
      have hp0_108 : ∀ j, j < i → zf E N_107 (a + 4 + 5 * j) 0 0 ps_0 ps_0 := fun j hj => zf_oR ho_107 (hzf j hj) (by omega)
      have hf_107 : zoutR M N_107 (a) (a + 204) := zoutR_tr hf (zoutR_w ho_107 (by omega) (by omega))
      refine z_dup C d_H_init_54 rfl ?_
      refine z_callIN (rest := [.ref (a + 4 + 5 * i), .int (nI i), .ref (a + 1)]) (n := 0) (As := []) (b := a + 4 + 5 * i) C (f_init E X.2.1 _ hn_107) ⟨z_cn C k_F_init ml_H_31 ii_F rfl rfl (by decide +kernel) ⟨by decide, by decide⟩, rfl, C.2.2.2.2.1 _ im_F_init⟩ rfl rfl (Nat.le_of_ble_eq_true rfl) d_H_init_55 ⟨by show _ ≤ 203; omega, by show _ ≤ 1363; omega⟩ ?_
      intro v_109 s_109 N_109 hq_109
      obtain ⟨rfl, rfl, hr_109, hs_109⟩ := hq_109
      have ho_109 : zoutR N_107 N_109 (a + 4 + 5 * i) (a + 4 + 5 * i + 5) := hs_109
      have hc0_110 := (ho_109 (a) (by omega)).trans hc0_108
      have hc1_110 := (ho_109 (a + 1) (by omega)).trans hc1_108
      have hc2_110 := (ho_109 (a + 2) (by omega)).trans hc2_108
      have hc3_110 := (ho_109 (a + 3) (by omega)).trans hc3_108
      have hp0_110 : ∀ j, j < i → zf E N_109 (a + 4 + 5 * j) 0 0 ps_0 ps_0 := fun j hj => zf_oR ho_109 (hp0_108 j hj) (by omega)
      have hf_109 : zoutR M N_109 (a) (a + 204) := zoutR_tr hf_107 (zoutR_w ho_109 (by omega) (by omega))
      show Z _ _ _ _ _ _ _ _ 58 _ [.ref (a + 4 + 5 * i), .int (nI i), .ref (a + 1)]
      refine z_aast C hc1_110 3 rfl hr_109.1 rfl i rfl (by omega) (by decide) d_H_init_58 ?_
      obtain ⟨N_111, hN_111⟩ : ∃ N : zM, N = zU N_109 (a + 1) (.inl (E.2.1 3, 40, .inr (.inr (.inr (.inr (va_up ff i (some (a + 4 + 5 * i)))))))) := ⟨_, rfl⟩
      refine z_world (M' := N_111) hN_111.symm ?_
      have hn_111 : N_111 (a + 1) = some (.inl (E.2.1 3, 40, .inr (.inr (.inr (.inr (va_up ff i (some (a + 4 + 5 * i)))))))) := by rw [hN_111]; exact zU_eq
      have ho_111 : zoutR N_109 N_111 (a + 1) (a + 1 + 1) := by rw [hN_111]; exact fun q hq => zU_ne (by omega)
      have hc0_112 := (ho_111 (a) (by omega)).trans hc0_110
      have hc2_112 := (ho_111 (a + 2) (by omega)).trans hc2_110
      have hc3_112 := (ho_111 (a + 3) (by omega)).trans hc3_110
      have hc4_112 := (ho_111 (a + 4 + 5 * i) (by omega)).trans hr_109.1
      have hp0_112 : ∀ j, j < i → zf E N_111 (a + 4 + 5 * j) 0 0 ps_0 ps_0 := fun j hj => zf_oR ho_111 (hp0_110 j hj) (by omega)
      have hp1_112 := zf_oR ho_111 hr_109 (by omega)
      have hf_111 : zoutR M N_111 (a) (a + 204) := zoutR_tr hf_109 (zoutR_w ho_111 (by omega) (by omega))
      refine z_iinc (v := nI (i + 1)) (L' := [(0, .ref a), (1, .int (nI (i + 1)))]) C d_H_init_59 rfl (nI_1 i) (by decide) rfl ?_
      refine z_goto (tgt := 40) C d_H_init_62 (by decide) ?_
      have hff2 : ∀ j, j < i + 1 → va_up ff i (some (a + 4 + 5 * i)) j = some (a + 4 + 5 * j) := by
        intro j hj
        by_cases e9 : j = i
        · rw [e9]; unfold va_up; exact if_pos rfl
        · unfold va_up; rw [if_neg e9]; exact hff j (by omega)
      have hzf2 : ∀ j, j < i + 1 → zf E N_111 (a + 4 + 5 * j) 0 0 ps_0 ps_0 := by
        intro j hj
        by_cases e9 : j = i
        · rw [e9]; exact hp1_112
        · exact hp0_112 j (by omega)
      refine z_widen (k := 3 + 5 * (i + 1)) (n := 83 + 32 * (i + 1)) (by omega) (by omega) ?_
      refine z_szeq (sz2 := a + 4 + 5 * (i + 1)) (by omega) ?_
      exact ih (i + 1) N_111 _ (by omega) hc0_112 hn_111 hc2_112 hc3_112 hff2 hzf2 hf_111
  show Z X E 2 _ 0 0 (a + 1) M 0 [(0, .ref a)] []
  refine z_aload_n C d_H_init_0 rfl rfl ?_
  refine z_obj C ml_H_3 im_jO_init k_jO_init d_H_init_1 (Nat.le_of_ble_eq_true rfl) (Nat.le_of_ble_eq_true rfl) ?_
  refine z_aload_n C d_H_init_4 rfl rfl ?_
  refine z_bipush (v := nI 40) C d_H_init_5 (by decide) ?_
  refine z_newq C cl_H_9 (List.mem_singleton.mpr rfl) 3 rfl 40 rfl (by decide) (by decide) (Nat.le_of_ble_eq_true rfl) (Nat.le_of_ble_eq_true rfl) d_H_init_7 ?_
  obtain ⟨N_113, hN_113⟩ : ∃ N : zM, N = zU M (a + 1) (.inl (E.2.1 3, 40, .inr (.inr (.inr (.inr (fun _ => none)))))) := ⟨_, rfl⟩
  refine z_world (M' := N_113) hN_113.symm ?_
  have hn_113 : N_113 (a + 1) = some (.inl (E.2.1 3, 40, .inr (.inr (.inr (.inr (fun _ => none)))))) := by rw [hN_113]; exact zU_eq
  have ho_113 : zoutR M N_113 (a + 1) (a + 1 + 1) := by rw [hN_113]; exact fun q hq => zU_ne (by omega)
  have hc0_114 := (ho_113 (a) (by omega)).trans h0
  have hf_113 : zoutR M N_113 (a) (a + 204) := zoutR_tr zoutR_rf (zoutR_w ho_113 (by omega) (by omega))
  refine z_putF C in_H ty_H tok_H nm_H hini hc0_114 rfl 0 (by decide) fl_H_11 rfl rfl rfl rfl (rfl) (rfl) (Nat.le_of_ble_eq_true rfl) d_H_init_10 ?_
  obtain ⟨N_115, hN_115⟩ : ∃ N : zM, N = zU N_113 a (.inr (6, [.ref (a + 1), .null, .null, .int 0, .int 0])) := ⟨_, rfl⟩
  refine z_world (M' := N_115) hN_115.symm ?_
  have hn_115 : N_115 (a) = some (.inr (6, [.ref (a + 1), .null, .null, .int 0, .int 0])) := by rw [hN_115]; exact zU_eq
  have ho_115 : zoutR N_113 N_115 (a) (a + 1) := by rw [hN_115]; exact fun q hq => zU_ne (by omega)
  have hc1_116 := (ho_115 (a + 1) (by omega)).trans hn_113
  have hf_115 : zoutR M N_115 (a) (a + 204) := zoutR_tr hf_113 (zoutR_w ho_115 (by omega) (by omega))
  refine z_aload_n C d_H_init_13 rfl rfl ?_
  refine z_bipush (v := nI 40) C d_H_init_14 (by decide) ?_
  refine z_newa (atype := .int) (a0 := (40, .inl (fun _ => 0))) C ac_int rfl 0 rfl (fun _ q => by cases q) 40 rfl (rfl) (by decide) (by decide) (Nat.le_of_ble_eq_true rfl) (Nat.le_of_ble_eq_true rfl) d_H_init_16 ?_
  obtain ⟨N_117, hN_117⟩ : ∃ N : zM, N = zU N_115 (a + 2) (.inl (E.2.1 0, 40, .inl (fun _ => 0))) := ⟨_, rfl⟩
  refine z_world (M' := N_117) hN_117.symm ?_
  have hn_117 : N_117 (a + 2) = some (.inl (E.2.1 0, 40, .inl (fun _ => 0))) := by rw [hN_117]; exact zU_eq
  have ho_117 : zoutR N_115 N_117 (a + 2) (a + 2 + 1) := by rw [hN_117]; exact fun q hq => zU_ne (by omega)
  have hc0_118 := (ho_117 (a + 1) (by omega)).trans hc1_116
  have hc1_118 := (ho_117 (a) (by omega)).trans hn_115
  have hf_117 : zoutR M N_117 (a) (a + 204) := zoutR_tr hf_115 (zoutR_w ho_117 (by omega) (by omega))
  refine z_putF C in_H ty_H tok_H nm_H hini hc1_118 rfl 1 (by decide) fl_H_17 rfl rfl rfl rfl (rfl) (rfl) (Nat.le_of_ble_eq_true rfl) d_H_init_18 ?_
  obtain ⟨N_119, hN_119⟩ : ∃ N : zM, N = zU N_117 a (.inr (6, [.ref (a + 1), .ref (a + 2), .null, .int 0, .int 0])) := ⟨_, rfl⟩
  refine z_world (M' := N_119) hN_119.symm ?_
  have hn_119 : N_119 (a) = some (.inr (6, [.ref (a + 1), .ref (a + 2), .null, .int 0, .int 0])) := by rw [hN_119]; exact zU_eq
  have ho_119 : zoutR N_117 N_119 (a) (a + 1) := by rw [hN_119]; exact fun q hq => zU_ne (by omega)
  have hc0_120 := (ho_119 (a + 1) (by omega)).trans hc0_118
  have hc2_120 := (ho_119 (a + 2) (by omega)).trans hn_117
  have hf_119 : zoutR M N_119 (a) (a + 204) := zoutR_tr hf_117 (zoutR_w ho_119 (by omega) (by omega))
  refine z_aload_n C d_H_init_21 rfl rfl ?_
  refine z_iconst (v := nI 3) C d_H_init_22 (by decide) ?_
  refine z_newa (atype := .int) (a0 := (3, .inl (fun _ => 0))) C ac_int rfl 0 rfl (fun _ q => by cases q) 3 rfl (rfl) (by decide) (by decide) (Nat.le_of_ble_eq_true rfl) (Nat.le_of_ble_eq_true rfl) d_H_init_23 ?_
  obtain ⟨N_121, hN_121⟩ : ∃ N : zM, N = zU N_119 (a + 3) (.inl (E.2.1 0, 3, .inl (fun _ => 0))) := ⟨_, rfl⟩
  refine z_world (M' := N_121) hN_121.symm ?_
  have hn_121 : N_121 (a + 3) = some (.inl (E.2.1 0, 3, .inl (fun _ => 0))) := by rw [hN_121]; exact zU_eq
  have ho_121 : zoutR N_119 N_121 (a + 3) (a + 3 + 1) := by rw [hN_121]; exact fun q hq => zU_ne (by omega)
  have hc0_122 := (ho_121 (a + 1) (by omega)).trans hc0_120
  have hc1_122 := (ho_121 (a + 2) (by omega)).trans hc2_120
  have hc2_122 := (ho_121 (a) (by omega)).trans hn_119
  have hf_121 : zoutR M N_121 (a) (a + 204) := zoutR_tr hf_119 (zoutR_w ho_121 (by omega) (by omega))
  refine z_putF C in_H ty_H tok_H nm_H hini hc2_122 rfl 2 (by decide) fl_H_21 rfl rfl rfl rfl (rfl) (rfl) (Nat.le_of_ble_eq_true rfl) d_H_init_25 ?_
  obtain ⟨N_123, hN_123⟩ : ∃ N : zM, N = zU N_121 a (.inr (6, [.ref (a + 1), .ref (a + 2), .ref (a + 3), .int 0, .int 0])) := ⟨_, rfl⟩
  refine z_world (M' := N_123) hN_123.symm ?_
  have hn_123 : N_123 (a) = some (.inr (6, [.ref (a + 1), .ref (a + 2), .ref (a + 3), .int 0, .int 0])) := by rw [hN_123]; exact zU_eq
  have ho_123 : zoutR N_121 N_123 (a) (a + 1) := by rw [hN_123]; exact fun q hq => zU_ne (by omega)
  have hc0_124 := (ho_123 (a + 1) (by omega)).trans hc0_122
  have hc1_124 := (ho_123 (a + 2) (by omega)).trans hc1_122
  have hc3_124 := (ho_123 (a + 3) (by omega)).trans hn_121
  have hf_123 : zoutR M N_123 (a) (a + 204) := zoutR_tr hf_121 (zoutR_w ho_123 (by omega) (by omega))
  refine z_aload_n C d_H_init_28 rfl rfl ?_
  refine z_iconst (v := nI 0) C d_H_init_29 (by decide) ?_
  refine z_put C in_H ty_H tok_H nm_H hn_123 rfl 3 (by decide) fl_H_24 rfl rfl rfl (rfl) (rfl) (Nat.le_of_ble_eq_true rfl) d_H_init_30 ?_
  obtain ⟨N_125, hN_125⟩ : ∃ N : zM, N = zU N_123 a (.inr (6, [.ref (a + 1), .ref (a + 2), .ref (a + 3), .int (nI 0), .int 0])) := ⟨_, rfl⟩
  refine z_world (M' := N_125) hN_125.symm ?_
  have hn_125 : N_125 (a) = some (.inr (6, [.ref (a + 1), .ref (a + 2), .ref (a + 3), .int (nI 0), .int 0])) := by rw [hN_125]; exact zU_eq
  have ho_125 : zoutR N_123 N_125 (a) (a + 1) := by rw [hN_125]; exact fun q hq => zU_ne (by omega)
  have hc0_126 := (ho_125 (a + 1) (by omega)).trans hc0_124
  have hc1_126 := (ho_125 (a + 2) (by omega)).trans hc1_124
  have hc2_126 := (ho_125 (a + 3) (by omega)).trans hc3_124
  have hf_125 : zoutR M N_125 (a) (a + 204) := zoutR_tr hf_123 (zoutR_w ho_125 (by omega) (by omega))
  refine z_aload_n C d_H_init_33 rfl rfl ?_
  refine z_iconst (v := nI 0) C d_H_init_34 (by decide) ?_
  refine z_put C in_H ty_H tok_H nm_H hn_125 rfl 4 (by decide) fl_H_28 rfl rfl rfl (rfl) (rfl) (Nat.le_of_ble_eq_true rfl) d_H_init_35 ?_
  obtain ⟨N_127, hN_127⟩ : ∃ N : zM, N = zU N_125 a (.inr (6, [.ref (a + 1), .ref (a + 2), .ref (a + 3), .int (nI 0), .int (nI 0)])) := ⟨_, rfl⟩
  refine z_world (M' := N_127) hN_127.symm ?_
  have hn_127 : N_127 (a) = some (.inr (6, [.ref (a + 1), .ref (a + 2), .ref (a + 3), .int (nI 0), .int (nI 0)])) := by rw [hN_127]; exact zU_eq
  have ho_127 : zoutR N_125 N_127 (a) (a + 1) := by rw [hN_127]; exact fun q hq => zU_ne (by omega)
  have hc0_128 := (ho_127 (a + 1) (by omega)).trans hc0_126
  have hc1_128 := (ho_127 (a + 2) (by omega)).trans hc1_126
  have hc2_128 := (ho_127 (a + 3) (by omega)).trans hc2_126
  have hf_127 : zoutR M N_127 (a) (a + 204) := zoutR_tr hf_125 (zoutR_w ho_127 (by omega) (by omega))
  refine z_iconst (v := nI 0) C d_H_init_38 (by decide) ?_
  refine z_istore_n (L' := [(0, .ref a), (1, .int (nI 0))]) C d_H_init_39 rfl (by decide) rfl ?_
  exact loop 40 0 N_127 _ (by omega) hn_127 hc0_128 hc1_128 hc2_128 (fun j hj => by omega) (fun j hj => by omega) hf_127
theorem dflt_S : ∀ j, j < 7 → defaultValue (ty_S j) = vp_V [.null, .null, .null, .null, .null, .null, .int 0] j := by
  intro j hj
  rcases (by omega : j = 0 ∨ j = 1 ∨ j = 2 ∨ j = 3 ∨ j = 4 ∨ j = 5 ∨ j = 6) with e | e | e | e | e | e | e <;> subst e <;> rfl
set_option maxHeartbeats 4000000 in
theorem s_init (E : zE) (l : Launch) (M : zM) {a : Nat} (h0 : M a = some (.inr (0, [.null, .null, .null, .null, .null, .null, .int 0]))) : zMet E l y_S_init c_S_init 1 none { frames := 4, cells := 311, slots := 2238, locals := 82 } 311 2238 [.ref a] (a + 1) M (fun v s M' => none = v ∧ a + 312 = s ∧ zse E M' a ([], [], [], fun _ => 0, 0, -1) ∧ zoutR M M' a (a + 312)) := by
  refine zMet.ofZ (by decide) (Nat.le_of_ble_eq_true rfl) ?_
  intro X hl hini C
  show Z X E 1 _ 0 0 (a + 1) M 0 [(0, .ref a)] []
  refine z_aload_n C d_S_init_0 rfl rfl ?_
  refine z_obj C ml_S_3 im_jO_init k_jO_init d_S_init_1 (Nat.le_of_ble_eq_true rfl) (Nat.le_of_ble_eq_true rfl) ?_
  refine z_aload_n C d_S_init_4 rfl rfl ?_
  refine z_new (ci := 2) (fs := [.null, .int 0]) C in_L ty_L tok_L cl_S_9 in_L_made ii_L rfl (dflt_L) (Nat.le_of_ble_eq_true rfl) (Nat.le_of_ble_eq_true rfl) d_S_init_5 ?_
  obtain ⟨N_129, hN_129⟩ : ∃ N : zM, N = zU M (a + 1) (.inr (2, [.null, .int 0])) := ⟨_, rfl⟩
  refine z_world (M' := N_129) hN_129.symm ?_
  have hn_129 : N_129 (a + 1) = some (.inr (2, [.null, .int 0])) := by rw [hN_129]; exact zU_eq
  have ho_129 : zoutR M N_129 (a + 1) (a + 1 + 1) := by rw [hN_129]; exact fun q hq => zU_ne (by omega)
  have hc0_130 := (ho_129 (a) (by omega)).trans h0
  have hf_129 : zoutR M N_129 (a) (a + 312) := zoutR_tr zoutR_rf (zoutR_w ho_129 (by omega) (by omega))
  refine z_dup C d_S_init_8 rfl ?_
  refine z_callIN (rest := [.ref (a + 1), .ref a]) (n := 0) (As := []) (b := a + 1) C (l_init E X.2.1 _ hn_129) ⟨z_cn C k_L_init ml_S_11 ii_L rfl rfl (by decide +kernel) ⟨by decide, by decide⟩, rfl, C.2.2.2.2.1 _ im_L_init⟩ rfl rfl (Nat.le_of_ble_eq_true rfl) d_S_init_9 ⟨by decide, by decide⟩ ?_
  intro v_131 s_131 N_131 hq_131
  obtain ⟨rfl, rfl, hr_131, hs_131⟩ := hq_131
  have ho_131 : zoutR N_129 N_131 (a + 1) (a + 1 + 2) := hs_131
  have hc0_132 := (ho_131 (a) (by omega)).trans hc0_130
  have hf_131 : zoutR M N_131 (a) (a + 312) := zoutR_tr hf_129 (zoutR_w ho_131 (by omega) (by omega))
  show Z _ _ _ _ _ _ _ _ 12 _ [.ref (a + 1), .ref a]
  refine z_putF C in_S ty_S tok_S nm_S hini hc0_132 rfl 0 (by decide) fl_S_12 rfl rfl rfl rfl (rfl) (rfl) (Nat.le_of_ble_eq_true rfl) d_S_init_12 ?_
  obtain ⟨N_133, hN_133⟩ : ∃ N : zM, N = zU N_131 a (.inr (0, [.ref (a + 1), .null, .null, .null, .null, .null, .int 0])) := ⟨_, rfl⟩
  refine z_world (M' := N_133) hN_133.symm ?_
  have hn_133 : N_133 (a) = some (.inr (0, [.ref (a + 1), .null, .null, .null, .null, .null, .int 0])) := by rw [hN_133]; exact zU_eq
  have ho_133 : zoutR N_131 N_133 (a) (a + 1) := by rw [hN_133]; exact fun q hq => zU_ne (by omega)
  have hp0_134 := zln_oR ho_133 hr_131 (by omega)
  have hf_133 : zoutR M N_133 (a) (a + 312) := zoutR_tr hf_131 (zoutR_w ho_133 (by omega) (by omega))
  refine z_aload_n C d_S_init_15 rfl rfl ?_
  refine z_new (ci := 4) (fs := [.null, .null, .int 0, .int 0]) C in_G ty_G tok_G cl_S_16 in_G_made ii_G rfl (dflt_G) (Nat.le_of_ble_eq_true rfl) (Nat.le_of_ble_eq_true rfl) d_S_init_16 ?_
  obtain ⟨N_135, hN_135⟩ : ∃ N : zM, N = zU N_133 (a + 3) (.inr (4, [.null, .null, .int 0, .int 0])) := ⟨_, rfl⟩
  refine z_world (M' := N_135) hN_135.symm ?_
  have hn_135 : N_135 (a + 3) = some (.inr (4, [.null, .null, .int 0, .int 0])) := by rw [hN_135]; exact zU_eq
  have ho_135 : zoutR N_133 N_135 (a + 3) (a + 3 + 1) := by rw [hN_135]; exact fun q hq => zU_ne (by omega)
  have hc0_136 := (ho_135 (a) (by omega)).trans hn_133
  have hp0_136 := zln_oR ho_135 hp0_134 (by omega)
  have hf_135 : zoutR M N_135 (a) (a + 312) := zoutR_tr hf_133 (zoutR_w ho_135 (by omega) (by omega))
  refine z_dup C d_S_init_19 rfl ?_
  refine z_callIN (rest := [.ref (a + 3), .ref a]) (n := 0) (As := []) (b := a + 3) C (g_init E X.2.1 _ hn_135) ⟨z_cn C k_G_init ml_S_18 ii_G rfl rfl (by decide +kernel) ⟨by decide, by decide⟩, rfl, C.2.2.2.2.1 _ im_G_init⟩ rfl rfl (Nat.le_of_ble_eq_true rfl) d_S_init_20 ⟨by decide, by decide⟩ ?_
  intro v_137 s_137 N_137 hq_137
  obtain ⟨rfl, rfl, hr_137, hs_137⟩ := hq_137
  have ho_137 : zoutR N_135 N_137 (a + 3) (a + 3 + 3) := hs_137
  have hc0_138 := (ho_137 (a) (by omega)).trans hc0_136
  have hp0_138 := zln_oR ho_137 hp0_136 (by omega)
  have hf_137 : zoutR M N_137 (a) (a + 312) := zoutR_tr hf_135 (zoutR_w ho_137 (by omega) (by omega))
  show Z _ _ _ _ _ _ _ _ 23 _ [.ref (a + 3), .ref a]
  refine z_putF C in_S ty_S tok_S nm_S hini hc0_138 rfl 1 (by decide) fl_S_19 rfl rfl rfl rfl (rfl) (rfl) (Nat.le_of_ble_eq_true rfl) d_S_init_23 ?_
  obtain ⟨N_139, hN_139⟩ : ∃ N : zM, N = zU N_137 a (.inr (0, [.ref (a + 1), .ref (a + 3), .null, .null, .null, .null, .int 0])) := ⟨_, rfl⟩
  refine z_world (M' := N_139) hN_139.symm ?_
  have hn_139 : N_139 (a) = some (.inr (0, [.ref (a + 1), .ref (a + 3), .null, .null, .null, .null, .int 0])) := by rw [hN_139]; exact zU_eq
  have ho_139 : zoutR N_137 N_139 (a) (a + 1) := by rw [hN_139]; exact fun q hq => zU_ne (by omega)
  have hp0_140 := zln_oR ho_139 hp0_138 (by omega)
  have hp1_140 := zpg_oR ho_139 hr_137 (by omega)
  have hf_139 : zoutR M N_139 (a) (a + 312) := zoutR_tr hf_137 (zoutR_w ho_139 (by omega) (by omega))
  refine z_aload_n C d_S_init_26 rfl rfl ?_
  refine z_new (ci := 5) (fs := [.null, .null, .null, .int 0, .null, .null, .int 0, .int 0, .int 0, .int 0, .int 0]) C in_R ty_R tok_R cl_S_23 in_R_made ii_R rfl (dflt_R) (Nat.le_of_ble_eq_true rfl) (Nat.le_of_ble_eq_true rfl) d_S_init_27 ?_
  obtain ⟨N_141, hN_141⟩ : ∃ N : zM, N = zU N_139 (a + 6) (.inr (5, [.null, .null, .null, .int 0, .null, .null, .int 0, .int 0, .int 0, .int 0, .int 0])) := ⟨_, rfl⟩
  refine z_world (M' := N_141) hN_141.symm ?_
  have hn_141 : N_141 (a + 6) = some (.inr (5, [.null, .null, .null, .int 0, .null, .null, .int 0, .int 0, .int 0, .int 0, .int 0])) := by rw [hN_141]; exact zU_eq
  have ho_141 : zoutR N_139 N_141 (a + 6) (a + 6 + 1) := by rw [hN_141]; exact fun q hq => zU_ne (by omega)
  have hc0_142 := (ho_141 (a) (by omega)).trans hn_139
  have hp0_142 := zln_oR ho_141 hp0_140 (by omega)
  have hp1_142 := zpg_oR ho_141 hp1_140 (by omega)
  have hf_141 : zoutR M N_141 (a) (a + 312) := zoutR_tr hf_139 (zoutR_w ho_141 (by omega) (by omega))
  refine z_dup C d_S_init_30 rfl ?_
  refine z_aload_n C d_S_init_31 rfl rfl ?_
  refine z_get C in_S hc0_142 rfl 0 (by decide) fl_S_12 rfl rfl d_S_init_32 ?_
  refine z_aload_n C d_S_init_35 rfl rfl ?_
  refine z_get C in_S hc0_142 rfl 1 (by decide) fl_S_19 rfl rfl d_S_init_36 ?_
  refine z_callI (rest := [.ref (a + 6), .ref a]) (n := 2) (As := [.ref (a + 1), .ref (a + 3)]) (b := a + 6) C (r_init E X.2.1 _ hn_141) ⟨z_cb C k_R_init ml_S_25 ii_R rfl rfl (by decide +kernel) ⟨by decide, by decide⟩, rfl, C.2.2.2.2.1 _ im_R_init⟩ rfl rfl (Nat.le_of_ble_eq_true rfl) d_S_init_39 ⟨by decide, by decide⟩ ?_
  intro v_143 s_143 N_143 hq_143
  obtain ⟨rfl, rfl, hr_143, hs_143⟩ := hq_143
  have ho_143 : zoutR N_141 N_143 (a + 6) (a + 6 + 4) := hs_143
  have hc0_144 := (ho_143 (a) (by omega)).trans hc0_142
  have hp0_144 := zln_oR ho_143 hp0_142 (by omega)
  have hp1_144 := zpg_oR ho_143 hp1_142 (by omega)
  have hf_143 : zoutR M N_143 (a) (a + 312) := zoutR_tr hf_141 (zoutR_w ho_143 (by omega) (by omega))
  show Z _ _ _ _ _ _ _ _ 42 _ [.ref (a + 6), .ref a]
  refine z_putF C in_S ty_S tok_S nm_S hini hc0_144 rfl 2 (by decide) fl_S_28 rfl rfl rfl rfl (rfl) (rfl) (Nat.le_of_ble_eq_true rfl) d_S_init_42 ?_
  obtain ⟨N_145, hN_145⟩ : ∃ N : zM, N = zU N_143 a (.inr (0, [.ref (a + 1), .ref (a + 3), .ref (a + 6), .null, .null, .null, .int 0])) := ⟨_, rfl⟩
  refine z_world (M' := N_145) hN_145.symm ?_
  have hn_145 : N_145 (a) = some (.inr (0, [.ref (a + 1), .ref (a + 3), .ref (a + 6), .null, .null, .null, .int 0])) := by rw [hN_145]; exact zU_eq
  have ho_145 : zoutR N_143 N_145 (a) (a + 1) := by rw [hN_145]; exact fun q hq => zU_ne (by omega)
  have hc1_146 := (ho_145 (a + 6) (by omega)).trans hr_143.1
  have hp0_146 := zln_oR ho_145 hp0_144 (by omega)
  have hp1_146 := zpg_oR ho_145 hp1_144 (by omega)
  have hr10_146 := (ho_145 (a + 6 + 1) (by omega)).trans hr_143.2.1
  have hr11_146 := (ho_145 (a + 6 + 2) (by omega)).trans hr_143.2.2.1
  have hr12_146 := (ho_145 (a + 6 + 3) (by omega)).trans hr_143.2.2.2
  have hf_145 : zoutR M N_145 (a) (a + 312) := zoutR_tr hf_143 (zoutR_w ho_145 (by omega) (by omega))
  refine z_aload_n C d_S_init_45 rfl rfl ?_
  refine z_new (ci := 8) (fs := [.null, .null, .int 0]) C in_K ty_K tok_K cl_S_32 in_K_made ii_K rfl (dflt_K) (Nat.le_of_ble_eq_true rfl) (Nat.le_of_ble_eq_true rfl) d_S_init_46 ?_
  obtain ⟨N_147, hN_147⟩ : ∃ N : zM, N = zU N_145 (a + 10) (.inr (8, [.null, .null, .int 0])) := ⟨_, rfl⟩
  refine z_world (M' := N_147) hN_147.symm ?_
  have hn_147 : N_147 (a + 10) = some (.inr (8, [.null, .null, .int 0])) := by rw [hN_147]; exact zU_eq
  have ho_147 : zoutR N_145 N_147 (a + 10) (a + 10 + 1) := by rw [hN_147]; exact fun q hq => zU_ne (by omega)
  have hc0_148 := (ho_147 (a + 6) (by omega)).trans hc1_146
  have hc1_148 := (ho_147 (a) (by omega)).trans hn_145
  have hp0_148 := zln_oR ho_147 hp0_146 (by omega)
  have hp1_148 := zpg_oR ho_147 hp1_146 (by omega)
  have hr10_148 := (ho_147 (a + 6 + 1) (by omega)).trans hr10_146
  have hr11_148 := (ho_147 (a + 6 + 2) (by omega)).trans hr11_146
  have hr12_148 := (ho_147 (a + 6 + 3) (by omega)).trans hr12_146
  have hf_147 : zoutR M N_147 (a) (a + 312) := zoutR_tr hf_145 (zoutR_w ho_147 (by omega) (by omega))
  refine z_dup C d_S_init_49 rfl ?_
  refine z_callI (rest := [.ref (a + 10), .ref a]) (n := 0) (As := []) (b := a + 10) C (k_init E X.2.1 _ hn_147) ⟨z_cb C k_K_init ml_S_34 ii_K rfl rfl (by decide +kernel) ⟨by decide, by decide⟩, rfl, C.2.2.2.2.1 _ im_K_init⟩ rfl rfl (Nat.le_of_ble_eq_true rfl) d_S_init_50 ⟨by decide, by decide⟩ ?_
  intro v_149 s_149 N_149 hq_149
  obtain ⟨rfl, rfl, hr_149, hs_149⟩ := hq_149
  have ho_149 : zoutR N_147 N_149 (a + 10) (a + 10 + 97) := hs_149
  have hc0_150 := (ho_149 (a + 6) (by omega)).trans hc0_148
  have hc1_150 := (ho_149 (a) (by omega)).trans hc1_148
  have hp0_150 := zln_oR ho_149 hp0_148 (by omega)
  have hp1_150 := zpg_oR ho_149 hp1_148 (by omega)
  have hr10_150 := (ho_149 (a + 6 + 1) (by omega)).trans hr10_148
  have hr11_150 := (ho_149 (a + 6 + 2) (by omega)).trans hr11_148
  have hr12_150 := (ho_149 (a + 6 + 3) (by omega)).trans hr12_148
  have hf_149 : zoutR M N_149 (a) (a + 312) := zoutR_tr hf_147 (zoutR_w ho_149 (by omega) (by omega))
  show Z _ _ _ _ _ _ _ _ 53 _ [.ref (a + 10), .ref a]
  refine z_putF C in_S ty_S tok_S nm_S hini hc1_150 rfl 3 (by decide) fl_S_35 rfl rfl rfl rfl (rfl) (rfl) (Nat.le_of_ble_eq_true rfl) d_S_init_53 ?_
  obtain ⟨N_151, hN_151⟩ : ∃ N : zM, N = zU N_149 a (.inr (0, [.ref (a + 1), .ref (a + 3), .ref (a + 6), .ref (a + 10), .null, .null, .int 0])) := ⟨_, rfl⟩
  refine z_world (M' := N_151) hN_151.symm ?_
  have hn_151 : N_151 (a) = some (.inr (0, [.ref (a + 1), .ref (a + 3), .ref (a + 6), .ref (a + 10), .null, .null, .int 0])) := by rw [hN_151]; exact zU_eq
  have ho_151 : zoutR N_149 N_151 (a) (a + 1) := by rw [hN_151]; exact fun q hq => zU_ne (by omega)
  have hc0_152 := (ho_151 (a + 6) (by omega)).trans hc0_150
  have hp0_152 := zln_oR ho_151 hp0_150 (by omega)
  have hp1_152 := zpg_oR ho_151 hp1_150 (by omega)
  have hp2_152 := zwk_oR ho_151 hr_149 (by omega)
  have hr10_152 := (ho_151 (a + 6 + 1) (by omega)).trans hr10_150
  have hr11_152 := (ho_151 (a + 6 + 2) (by omega)).trans hr11_150
  have hr12_152 := (ho_151 (a + 6 + 3) (by omega)).trans hr12_150
  have hf_151 : zoutR M N_151 (a) (a + 312) := zoutR_tr hf_149 (zoutR_w ho_151 (by omega) (by omega))
  refine z_aload_n C d_S_init_56 rfl rfl ?_
  refine z_new (ci := 6) (fs := [.null, .null, .null, .int 0, .int 0]) C in_H ty_H tok_H cl_S_39 in_H_made ii_H rfl (dflt_H) (Nat.le_of_ble_eq_true rfl) (Nat.le_of_ble_eq_true rfl) d_S_init_57 ?_
  obtain ⟨N_153, hN_153⟩ : ∃ N : zM, N = zU N_151 (a + 107) (.inr (6, [.null, .null, .null, .int 0, .int 0])) := ⟨_, rfl⟩
  refine z_world (M' := N_153) hN_153.symm ?_
  have hn_153 : N_153 (a + 107) = some (.inr (6, [.null, .null, .null, .int 0, .int 0])) := by rw [hN_153]; exact zU_eq
  have ho_153 : zoutR N_151 N_153 (a + 107) (a + 107 + 1) := by rw [hN_153]; exact fun q hq => zU_ne (by omega)
  have hc0_154 := (ho_153 (a + 6) (by omega)).trans hc0_152
  have hc1_154 := (ho_153 (a) (by omega)).trans hn_151
  have hp0_154 := zln_oR ho_153 hp0_152 (by omega)
  have hp1_154 := zpg_oR ho_153 hp1_152 (by omega)
  have hp2_154 := zwk_oR ho_153 hp2_152 (by omega)
  have hr10_154 := (ho_153 (a + 6 + 1) (by omega)).trans hr10_152
  have hr11_154 := (ho_153 (a + 6 + 2) (by omega)).trans hr11_152
  have hr12_154 := (ho_153 (a + 6 + 3) (by omega)).trans hr12_152
  have hf_153 : zoutR M N_153 (a) (a + 312) := zoutR_tr hf_151 (zoutR_w ho_153 (by omega) (by omega))
  refine z_dup C d_S_init_60 rfl ?_
  refine z_callI (rest := [.ref (a + 107), .ref a]) (n := 0) (As := []) (b := a + 107) C (h_init E X.2.1 _ hn_153) ⟨z_cb C k_H_init ml_S_41 ii_H rfl rfl (by decide +kernel) ⟨by decide, by decide⟩, rfl, C.2.2.2.2.1 _ im_H_init⟩ rfl rfl (Nat.le_of_ble_eq_true rfl) d_S_init_61 ⟨by decide, by decide⟩ ?_
  intro v_155 s_155 N_155 hq_155
  obtain ⟨rfl, rfl, hr_155, hs_155⟩ := hq_155
  have ho_155 : zoutR N_153 N_155 (a + 107) (a + 107 + 204) := hs_155
  have hc0_156 := (ho_155 (a + 6) (by omega)).trans hc0_154
  have hc1_156 := (ho_155 (a) (by omega)).trans hc1_154
  have hp0_156 := zln_oR ho_155 hp0_154 (by omega)
  have hp1_156 := zpg_oR ho_155 hp1_154 (by omega)
  have hp2_156 := zwk_oR ho_155 hp2_154 (by omega)
  have hr10_156 := (ho_155 (a + 6 + 1) (by omega)).trans hr10_154
  have hr11_156 := (ho_155 (a + 6 + 2) (by omega)).trans hr11_154
  have hr12_156 := (ho_155 (a + 6 + 3) (by omega)).trans hr12_154
  have hf_155 : zoutR M N_155 (a) (a + 312) := zoutR_tr hf_153 (zoutR_w ho_155 (by omega) (by omega))
  show Z _ _ _ _ _ _ _ _ 64 _ [.ref (a + 107), .ref a]
  refine z_putF C in_S ty_S tok_S nm_S hini hc1_156 rfl 4 (by decide) fl_S_42 rfl rfl rfl rfl (rfl) (rfl) (Nat.le_of_ble_eq_true rfl) d_S_init_64 ?_
  obtain ⟨N_157, hN_157⟩ : ∃ N : zM, N = zU N_155 a (.inr (0, [.ref (a + 1), .ref (a + 3), .ref (a + 6), .ref (a + 10), .ref (a + 107), .null, .int 0])) := ⟨_, rfl⟩
  refine z_world (M' := N_157) hN_157.symm ?_
  have hn_157 : N_157 (a) = some (.inr (0, [.ref (a + 1), .ref (a + 3), .ref (a + 6), .ref (a + 10), .ref (a + 107), .null, .int 0])) := by rw [hN_157]; exact zU_eq
  have ho_157 : zoutR N_155 N_157 (a) (a + 1) := by rw [hN_157]; exact fun q hq => zU_ne (by omega)
  have hc0_158 := (ho_157 (a + 6) (by omega)).trans hc0_156
  have hp0_158 := zln_oR ho_157 hp0_156 (by omega)
  have hp1_158 := zpg_oR ho_157 hp1_156 (by omega)
  have hp2_158 := zwk_oR ho_157 hp2_156 (by omega)
  have hp3_158 := zsf_oR ho_157 hr_155 (by omega)
  have hr10_158 := (ho_157 (a + 6 + 1) (by omega)).trans hr10_156
  have hr11_158 := (ho_157 (a + 6 + 2) (by omega)).trans hr11_156
  have hr12_158 := (ho_157 (a + 6 + 3) (by omega)).trans hr12_156
  have hf_157 : zoutR M N_157 (a) (a + 312) := zoutR_tr hf_155 (zoutR_w ho_157 (by omega) (by omega))
  refine z_aload_n C d_S_init_67 rfl rfl ?_
  refine z_new (ci := 7) (fs := [.int 0, .int 0, .int 0]) C in_T ty_T tok_T cl_S_46 in_T_made ii_T rfl (dflt_T) (Nat.le_of_ble_eq_true rfl) (Nat.le_of_ble_eq_true rfl) d_S_init_68 ?_
  obtain ⟨N_159, hN_159⟩ : ∃ N : zM, N = zU N_157 (a + 311) (.inr (7, [.int 0, .int 0, .int 0])) := ⟨_, rfl⟩
  refine z_world (M' := N_159) hN_159.symm ?_
  have hn_159 : N_159 (a + 311) = some (.inr (7, [.int 0, .int 0, .int 0])) := by rw [hN_159]; exact zU_eq
  have ho_159 : zoutR N_157 N_159 (a + 311) (a + 311 + 1) := by rw [hN_159]; exact fun q hq => zU_ne (by omega)
  have hc0_160 := (ho_159 (a + 6) (by omega)).trans hc0_158
  have hc1_160 := (ho_159 (a) (by omega)).trans hn_157
  have hp0_160 := zln_oR ho_159 hp0_158 (by omega)
  have hp1_160 := zpg_oR ho_159 hp1_158 (by omega)
  have hp2_160 := zwk_oR ho_159 hp2_158 (by omega)
  have hp3_160 := zsf_oR ho_159 hp3_158 (by omega)
  have hr10_160 := (ho_159 (a + 6 + 1) (by omega)).trans hr10_158
  have hr11_160 := (ho_159 (a + 6 + 2) (by omega)).trans hr11_158
  have hr12_160 := (ho_159 (a + 6 + 3) (by omega)).trans hr12_158
  have hf_159 : zoutR M N_159 (a) (a + 312) := zoutR_tr hf_157 (zoutR_w ho_159 (by omega) (by omega))
  refine z_dup C d_S_init_71 rfl ?_
  refine z_callIN (rest := [.ref (a + 311), .ref a]) (n := 0) (As := []) (b := a + 311) C (t_init E X.2.1 _ hn_159) ⟨z_cn C k_T_init ml_S_48 ii_T rfl rfl (by decide +kernel) ⟨by decide, by decide⟩, rfl, C.2.2.2.2.1 _ im_T_init⟩ rfl rfl (Nat.le_of_ble_eq_true rfl) d_S_init_72 ⟨by decide, by decide⟩ ?_
  intro v_161 s_161 N_161 hq_161
  obtain ⟨rfl, rfl, hr_161, hs_161⟩ := hq_161
  have ho_161 : zoutR N_159 N_161 (a + 311) (a + 311 + 1) := hs_161
  have hc0_162 := (ho_161 (a + 6) (by omega)).trans hc0_160
  have hc1_162 := (ho_161 (a) (by omega)).trans hc1_160
  have hp0_162 := zln_oR ho_161 hp0_160 (by omega)
  have hp1_162 := zpg_oR ho_161 hp1_160 (by omega)
  have hp2_162 := zwk_oR ho_161 hp2_160 (by omega)
  have hp3_162 := zsf_oR ho_161 hp3_160 (by omega)
  have hr10_162 := (ho_161 (a + 6 + 1) (by omega)).trans hr10_160
  have hr11_162 := (ho_161 (a + 6 + 2) (by omega)).trans hr11_160
  have hr12_162 := (ho_161 (a + 6 + 3) (by omega)).trans hr12_160
  have hf_161 : zoutR M N_161 (a) (a + 312) := zoutR_tr hf_159 (zoutR_w ho_161 (by omega) (by omega))
  show Z _ _ _ _ _ _ _ _ 75 _ [.ref (a + 311), .ref a]
  refine z_putF C in_S ty_S tok_S nm_S hini hc1_162 rfl 5 (by decide) fl_S_49 rfl rfl rfl rfl (rfl) (rfl) (Nat.le_of_ble_eq_true rfl) d_S_init_75 ?_
  obtain ⟨N_163, hN_163⟩ : ∃ N : zM, N = zU N_161 a (.inr (0, [.ref (a + 1), .ref (a + 3), .ref (a + 6), .ref (a + 10), .ref (a + 107), .ref (a + 311), .int 0])) := ⟨_, rfl⟩
  refine z_world (M' := N_163) hN_163.symm ?_
  have hn_163 : N_163 (a) = some (.inr (0, [.ref (a + 1), .ref (a + 3), .ref (a + 6), .ref (a + 10), .ref (a + 107), .ref (a + 311), .int 0])) := by rw [hN_163]; exact zU_eq
  have ho_163 : zoutR N_161 N_163 (a) (a + 1) := by rw [hN_163]; exact fun q hq => zU_ne (by omega)
  have hc0_164 := (ho_163 (a + 6) (by omega)).trans hc0_162
  have hc2_164 := (ho_163 (a + 311) (by omega)).trans hr_161
  have hp0_164 := zln_oR ho_163 hp0_162 (by omega)
  have hp1_164 := zpg_oR ho_163 hp1_162 (by omega)
  have hp2_164 := zwk_oR ho_163 hp2_162 (by omega)
  have hp3_164 := zsf_oR ho_163 hp3_162 (by omega)
  have hr10_164 := (ho_163 (a + 6 + 1) (by omega)).trans hr10_162
  have hr11_164 := (ho_163 (a + 6 + 2) (by omega)).trans hr11_162
  have hr12_164 := (ho_163 (a + 6 + 3) (by omega)).trans hr12_162
  have hf_163 : zoutR M N_163 (a) (a + 312) := zoutR_tr hf_161 (zoutR_w ho_163 (by omega) (by omega))
  refine z_aload_n C d_S_init_78 rfl rfl ?_
  refine z_iconst (v := (-1)) C d_S_init_79 (by decide) ?_
  refine z_put C in_S ty_S tok_S nm_S hn_163 rfl 6 (by decide) fl_S_53 rfl rfl rfl (rfl) (rfl) (Nat.le_of_ble_eq_true rfl) d_S_init_80 ?_
  obtain ⟨N_165, hN_165⟩ : ∃ N : zM, N = zU N_163 a (.inr (0, [.ref (a + 1), .ref (a + 3), .ref (a + 6), .ref (a + 10), .ref (a + 107), .ref (a + 311), .int (-1)])) := ⟨_, rfl⟩
  refine z_world (M' := N_165) hN_165.symm ?_
  have hn_165 : N_165 (a) = some (.inr (0, [.ref (a + 1), .ref (a + 3), .ref (a + 6), .ref (a + 10), .ref (a + 107), .ref (a + 311), .int (-1)])) := by rw [hN_165]; exact zU_eq
  have ho_165 : zoutR N_163 N_165 (a) (a + 1) := by rw [hN_165]; exact fun q hq => zU_ne (by omega)
  have hc0_166 := (ho_165 (a + 6) (by omega)).trans hc0_164
  have hc1_166 := (ho_165 (a + 311) (by omega)).trans hc2_164
  have hp0_166 := zln_oR ho_165 hp0_164 (by omega)
  have hp1_166 := zpg_oR ho_165 hp1_164 (by omega)
  have hp2_166 := zwk_oR ho_165 hp2_164 (by omega)
  have hp3_166 := zsf_oR ho_165 hp3_164 (by omega)
  have hr10_166 := (ho_165 (a + 6 + 1) (by omega)).trans hr10_164
  have hr11_166 := (ho_165 (a + 6 + 2) (by omega)).trans hr11_164
  have hr12_166 := (ho_165 (a + 6 + 3) (by omega)).trans hr12_164
  have hf_165 : zoutR M N_165 (a) (a + 312) := zoutR_tr hf_163 (zoutR_w ho_165 (by omega) (by omega))
  refine z_widen (k := 311) (n := 2238) (by omega) (by omega) ?_
  exact z_vret C ⟨rfl, rfl, ⟨hn_165, hp0_166, hp3_166, fun x hx => (by cases hx), ⟨fun _ => 0, fun _ => 0, fun _ => 0, 0, 0, 0, 0, 0, 0, hc0_166, hr10_166, hr11_166, hr12_166, fun _ => (show 0 < 128 by decide), fun _ => (show 0 < 100 by decide), fun _ => (show 0 < 100 by decide), by decide, by decide, by decide, by decide, by decide⟩, ⟨[], -1, hp1_166⟩, ⟨_, hp2_166⟩, 0, 0, 0, hc1_166⟩, hf_165⟩ d_S_init_83
