theorem dflt_M : ∀ j, j < 22 → defaultValue (ty_M j) = vp_V [.null, .int 0, .int 0, .int 0, .int 0, .int 0, .int 0, .int 0, .int 0, .null, .null, .null, .null, .null, .null, .null, .null, .null, .null, .null, .null, .null] j := by
  intro j hj
  rcases (by omega : j = 0 ∨ j = 1 ∨ j = 2 ∨ j = 3 ∨ j = 4 ∨ j = 5 ∨ j = 6 ∨ j = 7 ∨ j = 8 ∨ j = 9 ∨ j = 10 ∨ j = 11 ∨ j = 12 ∨ j = 13 ∨ j = 14 ∨ j = 15 ∨ j = 16 ∨ j = 17 ∨ j = 18 ∨ j = 19 ∨ j = 20 ∨ j = 21) with e | e | e | e | e | e | e | e | e | e | e | e | e | e | e | e | e | e | e | e | e | e <;> subst e <;> rfl
theorem zero_tI : (fun _ : Nat => (0 : Int32)) = fun j => tI ((fun _ => 1 : Nat → Nat) j) := by
  funext _
  exact (show (0 : Int32) = tI 1 by decide)
set_option maxHeartbeats 4000000 in
theorem m_init (E : zE) (l : Launch) (M : zM) {a : Nat} (h0 : M a = some (.inr (10, [.null, .int 0, .int 0, .int 0, .int 0, .int 0, .int 0, .int 0, .int 0, .null, .null, .null, .null, .null, .null, .null, .null, .null, .null, .null, .null, .null]))) : zMet E l y_M_init c_M_init 1 none { frames := 1, cells := 14, slots := 3222, locals := 20 } 14 3222 [.ref a] (a + 1) M (fun v s M' => none = v ∧ a + 15 = s ∧ mst E M' a ([], [], [], fun _ => 0, 0, -1) ∧ zoutR M M' a (a + 15)) := by
  refine zMet.ofZ (by decide) (Nat.le_of_ble_eq_true rfl) ?_
  intro X hl hini C
  show Z X E 1 _ 0 0 (a + 1) M 0 [(0, .ref a)] []
  refine z_aload_n C d_M_init_0 rfl rfl ?_
  refine z_obj C ml_M_1 im_jO_init k_jO_init d_M_init_1 (Nat.le_of_ble_eq_true rfl) (Nat.le_of_ble_eq_true rfl) ?_
  refine z_aload_n C d_M_init_4 rfl rfl ?_
  refine z_bipush (v := nI 32) C d_M_init_5 (by decide) ?_
  refine z_newa (atype := .int) (a0 := (32, .inl (fun _ => 0))) C ac_int rfl 0 rfl (fun _ q => by cases q) 32 rfl (rfl) (by decide) (by decide) (Nat.le_of_ble_eq_true rfl) (Nat.le_of_ble_eq_true rfl) d_M_init_7 ?_
  obtain ⟨N_1, hN_1⟩ : ∃ N : zM, N = zU M (a + 1) (.inl (E.2.1 0, 32, .inl (fun _ => 0))) := ⟨_, rfl⟩
  refine z_world (M' := N_1) hN_1.symm ?_
  have hn_1 : N_1 (a + 1) = some (.inl (E.2.1 0, 32, .inl (fun _ => 0))) := by rw [hN_1]; exact zU_eq
  have ho_1 : zoutR M N_1 (a + 1) (a + 1 + 1) := by rw [hN_1]; exact fun q hq => zU_ne (by omega)
  have hc0_2 := (ho_1 (a) (by omega)).trans h0
  have hf_1 : zoutR M N_1 (a) (a + 15) := zoutR_tr zoutR_rf (zoutR_w ho_1 (by omega) (by omega))
  refine z_putF C in_M ty_M tok_M nm_M hini hc0_2 rfl 0 (by decide) fl_M_7 rfl rfl rfl rfl (rfl) (rfl) (Nat.le_of_ble_eq_true rfl) d_M_init_9 ?_
  obtain ⟨N_3, hN_3⟩ : ∃ N : zM, N = zU N_1 a (.inr (10, [.ref (a + 1), .int 0, .int 0, .int 0, .int 0, .int 0, .int 0, .int 0, .int 0, .null, .null, .null, .null, .null, .null, .null, .null, .null, .null, .null, .null, .null])) := ⟨_, rfl⟩
  refine z_world (M' := N_3) hN_3.symm ?_
  have hn_3 : N_3 (a) = some (.inr (10, [.ref (a + 1), .int 0, .int 0, .int 0, .int 0, .int 0, .int 0, .int 0, .int 0, .null, .null, .null, .null, .null, .null, .null, .null, .null, .null, .null, .null, .null])) := by rw [hN_3]; exact zU_eq
  have ho_3 : zoutR N_1 N_3 (a) (a + 1) := by rw [hN_3]; exact fun q hq => zU_ne (by omega)
  have hc1_4 := (ho_3 (a + 1) (by omega)).trans hn_1
  have hf_3 : zoutR M N_3 (a) (a + 15) := zoutR_tr hf_1 (zoutR_w ho_3 (by omega) (by omega))
  refine z_aload_n C d_M_init_12 rfl rfl ?_
  refine z_iconst (v := (-1)) C d_M_init_13 (by decide) ?_
  refine z_put C in_M ty_M tok_M nm_M hn_3 rfl 3 (by decide) fl_M_13 rfl rfl rfl (rfl) (rfl) (Nat.le_of_ble_eq_true rfl) d_M_init_14 ?_
  obtain ⟨N_5, hN_5⟩ : ∃ N : zM, N = zU N_3 a (.inr (10, [.ref (a + 1), .int 0, .int 0, .int (-1), .int 0, .int 0, .int 0, .int 0, .int 0, .null, .null, .null, .null, .null, .null, .null, .null, .null, .null, .null, .null, .null])) := ⟨_, rfl⟩
  refine z_world (M' := N_5) hN_5.symm ?_
  have hn_5 : N_5 (a) = some (.inr (10, [.ref (a + 1), .int 0, .int 0, .int (-1), .int 0, .int 0, .int 0, .int 0, .int 0, .null, .null, .null, .null, .null, .null, .null, .null, .null, .null, .null, .null, .null])) := by rw [hN_5]; exact zU_eq
  have ho_5 : zoutR N_3 N_5 (a) (a + 1) := by rw [hN_5]; exact fun q hq => zU_ne (by omega)
  have hc0_6 := (ho_5 (a + 1) (by omega)).trans hc1_4
  have hf_5 : zoutR M N_5 (a) (a + 15) := zoutR_tr hf_3 (zoutR_w ho_5 (by omega) (by omega))
  refine z_aload_n C d_M_init_17 rfl rfl ?_
  refine z_bipush (v := nI 41) C d_M_init_18 (by decide) ?_
  refine z_newa (atype := .int) (a0 := (41, .inl (fun _ => 0))) C ac_int rfl 0 rfl (fun _ q => by cases q) 41 rfl (rfl) (by decide) (by decide) (Nat.le_of_ble_eq_true rfl) (Nat.le_of_ble_eq_true rfl) d_M_init_20 ?_
  obtain ⟨N_7, hN_7⟩ : ∃ N : zM, N = zU N_5 (a + 2) (.inl (E.2.1 0, 41, .inl (fun _ => 0))) := ⟨_, rfl⟩
  refine z_world (M' := N_7) hN_7.symm ?_
  have hn_7 : N_7 (a + 2) = some (.inl (E.2.1 0, 41, .inl (fun _ => 0))) := by rw [hN_7]; exact zU_eq
  have ho_7 : zoutR N_5 N_7 (a + 2) (a + 2 + 1) := by rw [hN_7]; exact fun q hq => zU_ne (by omega)
  have hc0_8 := (ho_7 (a + 1) (by omega)).trans hc0_6
  have hc1_8 := (ho_7 (a) (by omega)).trans hn_5
  have hf_7 : zoutR M N_7 (a) (a + 15) := zoutR_tr hf_5 (zoutR_w ho_7 (by omega) (by omega))
  refine z_putF C in_M ty_M tok_M nm_M hini hc1_8 rfl 9 (by decide) fl_M_17 rfl rfl rfl rfl (rfl) (rfl) (Nat.le_of_ble_eq_true rfl) d_M_init_22 ?_
  obtain ⟨N_9, hN_9⟩ : ∃ N : zM, N = zU N_7 a (.inr (10, [.ref (a + 1), .int 0, .int 0, .int (-1), .int 0, .int 0, .int 0, .int 0, .int 0, .ref (a + 2), .null, .null, .null, .null, .null, .null, .null, .null, .null, .null, .null, .null])) := ⟨_, rfl⟩
  refine z_world (M' := N_9) hN_9.symm ?_
  have hn_9 : N_9 (a) = some (.inr (10, [.ref (a + 1), .int 0, .int 0, .int (-1), .int 0, .int 0, .int 0, .int 0, .int 0, .ref (a + 2), .null, .null, .null, .null, .null, .null, .null, .null, .null, .null, .null, .null])) := by rw [hN_9]; exact zU_eq
  have ho_9 : zoutR N_7 N_9 (a) (a + 1) := by rw [hN_9]; exact fun q hq => zU_ne (by omega)
  have hc0_10 := (ho_9 (a + 1) (by omega)).trans hc0_8
  have hc2_10 := (ho_9 (a + 2) (by omega)).trans hn_7
  have hf_9 : zoutR M N_9 (a) (a + 15) := zoutR_tr hf_7 (zoutR_w ho_9 (by omega) (by omega))
  refine z_aload_n C d_M_init_25 rfl rfl ?_
  refine z_iconst (v := nI 3) C d_M_init_26 (by decide) ?_
  refine z_newa (atype := .int) (a0 := (3, .inl (fun _ => 0))) C ac_int rfl 0 rfl (fun _ q => by cases q) 3 rfl (rfl) (by decide) (by decide) (Nat.le_of_ble_eq_true rfl) (Nat.le_of_ble_eq_true rfl) d_M_init_27 ?_
  obtain ⟨N_11, hN_11⟩ : ∃ N : zM, N = zU N_9 (a + 3) (.inl (E.2.1 0, 3, .inl (fun _ => 0))) := ⟨_, rfl⟩
  refine z_world (M' := N_11) hN_11.symm ?_
  have hn_11 : N_11 (a + 3) = some (.inl (E.2.1 0, 3, .inl (fun _ => 0))) := by rw [hN_11]; exact zU_eq
  have ho_11 : zoutR N_9 N_11 (a + 3) (a + 3 + 1) := by rw [hN_11]; exact fun q hq => zU_ne (by omega)
  have hc0_12 := (ho_11 (a + 1) (by omega)).trans hc0_10
  have hc1_12 := (ho_11 (a + 2) (by omega)).trans hc2_10
  have hc2_12 := (ho_11 (a) (by omega)).trans hn_9
  have hf_11 : zoutR M N_11 (a) (a + 15) := zoutR_tr hf_9 (zoutR_w ho_11 (by omega) (by omega))
  refine z_putF C in_M ty_M tok_M nm_M hini hc2_12 rfl 10 (by decide) fl_M_20 rfl rfl rfl rfl (rfl) (rfl) (Nat.le_of_ble_eq_true rfl) d_M_init_29 ?_
  obtain ⟨N_13, hN_13⟩ : ∃ N : zM, N = zU N_11 a (.inr (10, [.ref (a + 1), .int 0, .int 0, .int (-1), .int 0, .int 0, .int 0, .int 0, .int 0, .ref (a + 2), .ref (a + 3), .null, .null, .null, .null, .null, .null, .null, .null, .null, .null, .null])) := ⟨_, rfl⟩
  refine z_world (M' := N_13) hN_13.symm ?_
  have hn_13 : N_13 (a) = some (.inr (10, [.ref (a + 1), .int 0, .int 0, .int (-1), .int 0, .int 0, .int 0, .int 0, .int 0, .ref (a + 2), .ref (a + 3), .null, .null, .null, .null, .null, .null, .null, .null, .null, .null, .null])) := by rw [hN_13]; exact zU_eq
  have ho_13 : zoutR N_11 N_13 (a) (a + 1) := by rw [hN_13]; exact fun q hq => zU_ne (by omega)
  have hc0_14 := (ho_13 (a + 1) (by omega)).trans hc0_12
  have hc1_14 := (ho_13 (a + 2) (by omega)).trans hc1_12
  have hc3_14 := (ho_13 (a + 3) (by omega)).trans hn_11
  have hf_13 : zoutR M N_13 (a) (a + 15) := zoutR_tr hf_11 (zoutR_w ho_13 (by omega) (by omega))
  refine z_aload_n C d_M_init_32 rfl rfl ?_
  refine z_sipush (v := nI 1014) C d_M_init_33 (by decide) ?_
  refine z_newa (atype := .int) (a0 := (1014, .inl (fun _ => 0))) C ac_int rfl 0 rfl (fun _ q => by cases q) 1014 rfl (rfl) (by decide) (by decide) (Nat.le_of_ble_eq_true rfl) (Nat.le_of_ble_eq_true rfl) d_M_init_36 ?_
  obtain ⟨N_15, hN_15⟩ : ∃ N : zM, N = zU N_13 (a + 4) (.inl (E.2.1 0, 1014, .inl (fun _ => 0))) := ⟨_, rfl⟩
  refine z_world (M' := N_15) hN_15.symm ?_
  have hn_15 : N_15 (a + 4) = some (.inl (E.2.1 0, 1014, .inl (fun _ => 0))) := by rw [hN_15]; exact zU_eq
  have ho_15 : zoutR N_13 N_15 (a + 4) (a + 4 + 1) := by rw [hN_15]; exact fun q hq => zU_ne (by omega)
  have hc0_16 := (ho_15 (a + 1) (by omega)).trans hc0_14
  have hc1_16 := (ho_15 (a + 2) (by omega)).trans hc1_14
  have hc2_16 := (ho_15 (a + 3) (by omega)).trans hc3_14
  have hc3_16 := (ho_15 (a) (by omega)).trans hn_13
  have hf_15 : zoutR M N_15 (a) (a + 15) := zoutR_tr hf_13 (zoutR_w ho_15 (by omega) (by omega))
  refine z_putF C in_M ty_M tok_M nm_M hini hc3_16 rfl 11 (by decide) fl_M_23 rfl rfl rfl rfl (rfl) (rfl) (Nat.le_of_ble_eq_true rfl) d_M_init_38 ?_
  obtain ⟨N_17, hN_17⟩ : ∃ N : zM, N = zU N_15 a (.inr (10, [.ref (a + 1), .int 0, .int 0, .int (-1), .int 0, .int 0, .int 0, .int 0, .int 0, .ref (a + 2), .ref (a + 3), .ref (a + 4), .null, .null, .null, .null, .null, .null, .null, .null, .null, .null])) := ⟨_, rfl⟩
  refine z_world (M' := N_17) hN_17.symm ?_
  have hn_17 : N_17 (a) = some (.inr (10, [.ref (a + 1), .int 0, .int 0, .int (-1), .int 0, .int 0, .int 0, .int 0, .int 0, .ref (a + 2), .ref (a + 3), .ref (a + 4), .null, .null, .null, .null, .null, .null, .null, .null, .null, .null])) := by rw [hN_17]; exact zU_eq
  have ho_17 : zoutR N_15 N_17 (a) (a + 1) := by rw [hN_17]; exact fun q hq => zU_ne (by omega)
  have hc0_18 := (ho_17 (a + 1) (by omega)).trans hc0_16
  have hc1_18 := (ho_17 (a + 2) (by omega)).trans hc1_16
  have hc2_18 := (ho_17 (a + 3) (by omega)).trans hc2_16
  have hc4_18 := (ho_17 (a + 4) (by omega)).trans hn_15
  have hf_17 : zoutR M N_17 (a) (a + 15) := zoutR_tr hf_15 (zoutR_w ho_17 (by omega) (by omega))
  refine z_aload_n C d_M_init_41 rfl rfl ?_
  refine z_sipush (v := nI 1014) C d_M_init_42 (by decide) ?_
  refine z_newa (atype := .int) (a0 := (1014, .inl (fun _ => 0))) C ac_int rfl 0 rfl (fun _ q => by cases q) 1014 rfl (rfl) (by decide) (by decide) (Nat.le_of_ble_eq_true rfl) (Nat.le_of_ble_eq_true rfl) d_M_init_45 ?_
  obtain ⟨N_19, hN_19⟩ : ∃ N : zM, N = zU N_17 (a + 5) (.inl (E.2.1 0, 1014, .inl (fun _ => 0))) := ⟨_, rfl⟩
  refine z_world (M' := N_19) hN_19.symm ?_
  have hn_19 : N_19 (a + 5) = some (.inl (E.2.1 0, 1014, .inl (fun _ => 0))) := by rw [hN_19]; exact zU_eq
  have ho_19 : zoutR N_17 N_19 (a + 5) (a + 5 + 1) := by rw [hN_19]; exact fun q hq => zU_ne (by omega)
  have hc0_20 := (ho_19 (a + 1) (by omega)).trans hc0_18
  have hc1_20 := (ho_19 (a + 2) (by omega)).trans hc1_18
  have hc2_20 := (ho_19 (a + 3) (by omega)).trans hc2_18
  have hc3_20 := (ho_19 (a + 4) (by omega)).trans hc4_18
  have hc4_20 := (ho_19 (a) (by omega)).trans hn_17
  have hf_19 : zoutR M N_19 (a) (a + 15) := zoutR_tr hf_17 (zoutR_w ho_19 (by omega) (by omega))
  refine z_putF C in_M ty_M tok_M nm_M hini hc4_20 rfl 12 (by decide) fl_M_26 rfl rfl rfl rfl (rfl) (rfl) (Nat.le_of_ble_eq_true rfl) d_M_init_47 ?_
  obtain ⟨N_21, hN_21⟩ : ∃ N : zM, N = zU N_19 a (.inr (10, [.ref (a + 1), .int 0, .int 0, .int (-1), .int 0, .int 0, .int 0, .int 0, .int 0, .ref (a + 2), .ref (a + 3), .ref (a + 4), .ref (a + 5), .null, .null, .null, .null, .null, .null, .null, .null, .null])) := ⟨_, rfl⟩
  refine z_world (M' := N_21) hN_21.symm ?_
  have hn_21 : N_21 (a) = some (.inr (10, [.ref (a + 1), .int 0, .int 0, .int (-1), .int 0, .int 0, .int 0, .int 0, .int 0, .ref (a + 2), .ref (a + 3), .ref (a + 4), .ref (a + 5), .null, .null, .null, .null, .null, .null, .null, .null, .null])) := by rw [hN_21]; exact zU_eq
  have ho_21 : zoutR N_19 N_21 (a) (a + 1) := by rw [hN_21]; exact fun q hq => zU_ne (by omega)
  have hc0_22 := (ho_21 (a + 1) (by omega)).trans hc0_20
  have hc1_22 := (ho_21 (a + 2) (by omega)).trans hc1_20
  have hc2_22 := (ho_21 (a + 3) (by omega)).trans hc2_20
  have hc3_22 := (ho_21 (a + 4) (by omega)).trans hc3_20
  have hc5_22 := (ho_21 (a + 5) (by omega)).trans hn_19
  have hf_21 : zoutR M N_21 (a) (a + 15) := zoutR_tr hf_19 (zoutR_w ho_21 (by omega) (by omega))
  refine z_aload_n C d_M_init_50 rfl rfl ?_
  refine z_bipush (v := nI 40) C d_M_init_51 (by decide) ?_
  refine z_newa (atype := .int) (a0 := (40, .inl (fun _ => 0))) C ac_int rfl 0 rfl (fun _ q => by cases q) 40 rfl (rfl) (by decide) (by decide) (Nat.le_of_ble_eq_true rfl) (Nat.le_of_ble_eq_true rfl) d_M_init_53 ?_
  obtain ⟨N_23, hN_23⟩ : ∃ N : zM, N = zU N_21 (a + 6) (.inl (E.2.1 0, 40, .inl (fun _ => 0))) := ⟨_, rfl⟩
  refine z_world (M' := N_23) hN_23.symm ?_
  have hn_23 : N_23 (a + 6) = some (.inl (E.2.1 0, 40, .inl (fun _ => 0))) := by rw [hN_23]; exact zU_eq
  have ho_23 : zoutR N_21 N_23 (a + 6) (a + 6 + 1) := by rw [hN_23]; exact fun q hq => zU_ne (by omega)
  have hc0_24 := (ho_23 (a + 1) (by omega)).trans hc0_22
  have hc1_24 := (ho_23 (a + 2) (by omega)).trans hc1_22
  have hc2_24 := (ho_23 (a + 3) (by omega)).trans hc2_22
  have hc3_24 := (ho_23 (a + 4) (by omega)).trans hc3_22
  have hc4_24 := (ho_23 (a + 5) (by omega)).trans hc5_22
  have hc5_24 := (ho_23 (a) (by omega)).trans hn_21
  have hf_23 : zoutR M N_23 (a) (a + 15) := zoutR_tr hf_21 (zoutR_w ho_23 (by omega) (by omega))
  refine z_putF C in_M ty_M tok_M nm_M hini hc5_24 rfl 13 (by decide) fl_M_29 rfl rfl rfl rfl (rfl) (rfl) (Nat.le_of_ble_eq_true rfl) d_M_init_55 ?_
  obtain ⟨N_25, hN_25⟩ : ∃ N : zM, N = zU N_23 a (.inr (10, [.ref (a + 1), .int 0, .int 0, .int (-1), .int 0, .int 0, .int 0, .int 0, .int 0, .ref (a + 2), .ref (a + 3), .ref (a + 4), .ref (a + 5), .ref (a + 6), .null, .null, .null, .null, .null, .null, .null, .null])) := ⟨_, rfl⟩
  refine z_world (M' := N_25) hN_25.symm ?_
  have hn_25 : N_25 (a) = some (.inr (10, [.ref (a + 1), .int 0, .int 0, .int (-1), .int 0, .int 0, .int 0, .int 0, .int 0, .ref (a + 2), .ref (a + 3), .ref (a + 4), .ref (a + 5), .ref (a + 6), .null, .null, .null, .null, .null, .null, .null, .null])) := by rw [hN_25]; exact zU_eq
  have ho_25 : zoutR N_23 N_25 (a) (a + 1) := by rw [hN_25]; exact fun q hq => zU_ne (by omega)
  have hc0_26 := (ho_25 (a + 1) (by omega)).trans hc0_24
  have hc1_26 := (ho_25 (a + 2) (by omega)).trans hc1_24
  have hc2_26 := (ho_25 (a + 3) (by omega)).trans hc2_24
  have hc3_26 := (ho_25 (a + 4) (by omega)).trans hc3_24
  have hc4_26 := (ho_25 (a + 5) (by omega)).trans hc4_24
  have hc6_26 := (ho_25 (a + 6) (by omega)).trans hn_23
  have hf_25 : zoutR M N_25 (a) (a + 15) := zoutR_tr hf_23 (zoutR_w ho_25 (by omega) (by omega))
  refine z_aload_n C d_M_init_58 rfl rfl ?_
  refine z_bipush (v := nI 40) C d_M_init_59 (by decide) ?_
  refine z_newa (atype := .int) (a0 := (40, .inl (fun _ => 0))) C ac_int rfl 0 rfl (fun _ q => by cases q) 40 rfl (rfl) (by decide) (by decide) (Nat.le_of_ble_eq_true rfl) (Nat.le_of_ble_eq_true rfl) d_M_init_61 ?_
  obtain ⟨N_27, hN_27⟩ : ∃ N : zM, N = zU N_25 (a + 7) (.inl (E.2.1 0, 40, .inl (fun _ => 0))) := ⟨_, rfl⟩
  refine z_world (M' := N_27) hN_27.symm ?_
  have hn_27 : N_27 (a + 7) = some (.inl (E.2.1 0, 40, .inl (fun _ => 0))) := by rw [hN_27]; exact zU_eq
  have ho_27 : zoutR N_25 N_27 (a + 7) (a + 7 + 1) := by rw [hN_27]; exact fun q hq => zU_ne (by omega)
  have hc0_28 := (ho_27 (a + 1) (by omega)).trans hc0_26
  have hc1_28 := (ho_27 (a + 2) (by omega)).trans hc1_26
  have hc2_28 := (ho_27 (a + 3) (by omega)).trans hc2_26
  have hc3_28 := (ho_27 (a + 4) (by omega)).trans hc3_26
  have hc4_28 := (ho_27 (a + 5) (by omega)).trans hc4_26
  have hc5_28 := (ho_27 (a + 6) (by omega)).trans hc6_26
  have hc6_28 := (ho_27 (a) (by omega)).trans hn_25
  have hf_27 : zoutR M N_27 (a) (a + 15) := zoutR_tr hf_25 (zoutR_w ho_27 (by omega) (by omega))
  refine z_putF C in_M ty_M tok_M nm_M hini hc6_28 rfl 14 (by decide) fl_M_32 rfl rfl rfl rfl (rfl) (rfl) (Nat.le_of_ble_eq_true rfl) d_M_init_63 ?_
  obtain ⟨N_29, hN_29⟩ : ∃ N : zM, N = zU N_27 a (.inr (10, [.ref (a + 1), .int 0, .int 0, .int (-1), .int 0, .int 0, .int 0, .int 0, .int 0, .ref (a + 2), .ref (a + 3), .ref (a + 4), .ref (a + 5), .ref (a + 6), .ref (a + 7), .null, .null, .null, .null, .null, .null, .null])) := ⟨_, rfl⟩
  refine z_world (M' := N_29) hN_29.symm ?_
  have hn_29 : N_29 (a) = some (.inr (10, [.ref (a + 1), .int 0, .int 0, .int (-1), .int 0, .int 0, .int 0, .int 0, .int 0, .ref (a + 2), .ref (a + 3), .ref (a + 4), .ref (a + 5), .ref (a + 6), .ref (a + 7), .null, .null, .null, .null, .null, .null, .null])) := by rw [hN_29]; exact zU_eq
  have ho_29 : zoutR N_27 N_29 (a) (a + 1) := by rw [hN_29]; exact fun q hq => zU_ne (by omega)
  have hc0_30 := (ho_29 (a + 1) (by omega)).trans hc0_28
  have hc1_30 := (ho_29 (a + 2) (by omega)).trans hc1_28
  have hc2_30 := (ho_29 (a + 3) (by omega)).trans hc2_28
  have hc3_30 := (ho_29 (a + 4) (by omega)).trans hc3_28
  have hc4_30 := (ho_29 (a + 5) (by omega)).trans hc4_28
  have hc5_30 := (ho_29 (a + 6) (by omega)).trans hc5_28
  have hc7_30 := (ho_29 (a + 7) (by omega)).trans hn_27
  have hf_29 : zoutR M N_29 (a) (a + 15) := zoutR_tr hf_27 (zoutR_w ho_29 (by omega) (by omega))
  refine z_aload_n C d_M_init_66 rfl rfl ?_
  refine z_sipush (v := nI 962) C d_M_init_67 (by decide) ?_
  refine z_newa (atype := .int) (a0 := (962, .inl (fun _ => 0))) C ac_int rfl 0 rfl (fun _ q => by cases q) 962 rfl (rfl) (by decide) (by decide) (Nat.le_of_ble_eq_true rfl) (Nat.le_of_ble_eq_true rfl) d_M_init_70 ?_
  obtain ⟨N_31, hN_31⟩ : ∃ N : zM, N = zU N_29 (a + 8) (.inl (E.2.1 0, 962, .inl (fun _ => 0))) := ⟨_, rfl⟩
  refine z_world (M' := N_31) hN_31.symm ?_
  have hn_31 : N_31 (a + 8) = some (.inl (E.2.1 0, 962, .inl (fun _ => 0))) := by rw [hN_31]; exact zU_eq
  have ho_31 : zoutR N_29 N_31 (a + 8) (a + 8 + 1) := by rw [hN_31]; exact fun q hq => zU_ne (by omega)
  have hc0_32 := (ho_31 (a + 1) (by omega)).trans hc0_30
  have hc1_32 := (ho_31 (a + 2) (by omega)).trans hc1_30
  have hc2_32 := (ho_31 (a + 3) (by omega)).trans hc2_30
  have hc3_32 := (ho_31 (a + 4) (by omega)).trans hc3_30
  have hc4_32 := (ho_31 (a + 5) (by omega)).trans hc4_30
  have hc5_32 := (ho_31 (a + 6) (by omega)).trans hc5_30
  have hc6_32 := (ho_31 (a + 7) (by omega)).trans hc7_30
  have hc7_32 := (ho_31 (a) (by omega)).trans hn_29
  have hf_31 : zoutR M N_31 (a) (a + 15) := zoutR_tr hf_29 (zoutR_w ho_31 (by omega) (by omega))
  refine z_putF C in_M ty_M tok_M nm_M hini hc7_32 rfl 15 (by decide) fl_M_35 rfl rfl rfl rfl (rfl) (rfl) (Nat.le_of_ble_eq_true rfl) d_M_init_72 ?_
  obtain ⟨N_33, hN_33⟩ : ∃ N : zM, N = zU N_31 a (.inr (10, [.ref (a + 1), .int 0, .int 0, .int (-1), .int 0, .int 0, .int 0, .int 0, .int 0, .ref (a + 2), .ref (a + 3), .ref (a + 4), .ref (a + 5), .ref (a + 6), .ref (a + 7), .ref (a + 8), .null, .null, .null, .null, .null, .null])) := ⟨_, rfl⟩
  refine z_world (M' := N_33) hN_33.symm ?_
  have hn_33 : N_33 (a) = some (.inr (10, [.ref (a + 1), .int 0, .int 0, .int (-1), .int 0, .int 0, .int 0, .int 0, .int 0, .ref (a + 2), .ref (a + 3), .ref (a + 4), .ref (a + 5), .ref (a + 6), .ref (a + 7), .ref (a + 8), .null, .null, .null, .null, .null, .null])) := by rw [hN_33]; exact zU_eq
  have ho_33 : zoutR N_31 N_33 (a) (a + 1) := by rw [hN_33]; exact fun q hq => zU_ne (by omega)
  have hc0_34 := (ho_33 (a + 1) (by omega)).trans hc0_32
  have hc1_34 := (ho_33 (a + 2) (by omega)).trans hc1_32
  have hc2_34 := (ho_33 (a + 3) (by omega)).trans hc2_32
  have hc3_34 := (ho_33 (a + 4) (by omega)).trans hc3_32
  have hc4_34 := (ho_33 (a + 5) (by omega)).trans hc4_32
  have hc5_34 := (ho_33 (a + 6) (by omega)).trans hc5_32
  have hc6_34 := (ho_33 (a + 7) (by omega)).trans hc6_32
  have hc8_34 := (ho_33 (a + 8) (by omega)).trans hn_31
  have hf_33 : zoutR M N_33 (a) (a + 15) := zoutR_tr hf_31 (zoutR_w ho_33 (by omega) (by omega))
  refine z_aload_n C d_M_init_75 rfl rfl ?_
  refine z_bipush (v := nI 26) C d_M_init_76 (by decide) ?_
  refine z_newa (atype := .int) (a0 := (26, .inl (fun _ => 0))) C ac_int rfl 0 rfl (fun _ q => by cases q) 26 rfl (rfl) (by decide) (by decide) (Nat.le_of_ble_eq_true rfl) (Nat.le_of_ble_eq_true rfl) d_M_init_78 ?_
  obtain ⟨N_35, hN_35⟩ : ∃ N : zM, N = zU N_33 (a + 9) (.inl (E.2.1 0, 26, .inl (fun _ => 0))) := ⟨_, rfl⟩
  refine z_world (M' := N_35) hN_35.symm ?_
  have hn_35 : N_35 (a + 9) = some (.inl (E.2.1 0, 26, .inl (fun _ => 0))) := by rw [hN_35]; exact zU_eq
  have ho_35 : zoutR N_33 N_35 (a + 9) (a + 9 + 1) := by rw [hN_35]; exact fun q hq => zU_ne (by omega)
  have hc0_36 := (ho_35 (a + 1) (by omega)).trans hc0_34
  have hc1_36 := (ho_35 (a + 2) (by omega)).trans hc1_34
  have hc2_36 := (ho_35 (a + 3) (by omega)).trans hc2_34
  have hc3_36 := (ho_35 (a + 4) (by omega)).trans hc3_34
  have hc4_36 := (ho_35 (a + 5) (by omega)).trans hc4_34
  have hc5_36 := (ho_35 (a + 6) (by omega)).trans hc5_34
  have hc6_36 := (ho_35 (a + 7) (by omega)).trans hc6_34
  have hc7_36 := (ho_35 (a + 8) (by omega)).trans hc8_34
  have hc8_36 := (ho_35 (a) (by omega)).trans hn_33
  have hf_35 : zoutR M N_35 (a) (a + 15) := zoutR_tr hf_33 (zoutR_w ho_35 (by omega) (by omega))
  refine z_putF C in_M ty_M tok_M nm_M hini hc8_36 rfl 16 (by decide) fl_M_38 rfl rfl rfl rfl (rfl) (rfl) (Nat.le_of_ble_eq_true rfl) d_M_init_80 ?_
  obtain ⟨N_37, hN_37⟩ : ∃ N : zM, N = zU N_35 a (.inr (10, [.ref (a + 1), .int 0, .int 0, .int (-1), .int 0, .int 0, .int 0, .int 0, .int 0, .ref (a + 2), .ref (a + 3), .ref (a + 4), .ref (a + 5), .ref (a + 6), .ref (a + 7), .ref (a + 8), .ref (a + 9), .null, .null, .null, .null, .null])) := ⟨_, rfl⟩
  refine z_world (M' := N_37) hN_37.symm ?_
  have hn_37 : N_37 (a) = some (.inr (10, [.ref (a + 1), .int 0, .int 0, .int (-1), .int 0, .int 0, .int 0, .int 0, .int 0, .ref (a + 2), .ref (a + 3), .ref (a + 4), .ref (a + 5), .ref (a + 6), .ref (a + 7), .ref (a + 8), .ref (a + 9), .null, .null, .null, .null, .null])) := by rw [hN_37]; exact zU_eq
  have ho_37 : zoutR N_35 N_37 (a) (a + 1) := by rw [hN_37]; exact fun q hq => zU_ne (by omega)
  have hc0_38 := (ho_37 (a + 1) (by omega)).trans hc0_36
  have hc1_38 := (ho_37 (a + 2) (by omega)).trans hc1_36
  have hc2_38 := (ho_37 (a + 3) (by omega)).trans hc2_36
  have hc3_38 := (ho_37 (a + 4) (by omega)).trans hc3_36
  have hc4_38 := (ho_37 (a + 5) (by omega)).trans hc4_36
  have hc5_38 := (ho_37 (a + 6) (by omega)).trans hc5_36
  have hc6_38 := (ho_37 (a + 7) (by omega)).trans hc6_36
  have hc7_38 := (ho_37 (a + 8) (by omega)).trans hc7_36
  have hc9_38 := (ho_37 (a + 9) (by omega)).trans hn_35
  have hf_37 : zoutR M N_37 (a) (a + 15) := zoutR_tr hf_35 (zoutR_w ho_37 (by omega) (by omega))
  refine z_aload_n C d_M_init_83 rfl rfl ?_
  refine z_bipush (v := nI 10) C d_M_init_84 (by decide) ?_
  refine z_newa (atype := .int) (a0 := (10, .inl (fun _ => 0))) C ac_int rfl 0 rfl (fun _ q => by cases q) 10 rfl (rfl) (by decide) (by decide) (Nat.le_of_ble_eq_true rfl) (Nat.le_of_ble_eq_true rfl) d_M_init_86 ?_
  obtain ⟨N_39, hN_39⟩ : ∃ N : zM, N = zU N_37 (a + 10) (.inl (E.2.1 0, 10, .inl (fun _ => 0))) := ⟨_, rfl⟩
  refine z_world (M' := N_39) hN_39.symm ?_
  have hn_39 : N_39 (a + 10) = some (.inl (E.2.1 0, 10, .inl (fun _ => 0))) := by rw [hN_39]; exact zU_eq
  have ho_39 : zoutR N_37 N_39 (a + 10) (a + 10 + 1) := by rw [hN_39]; exact fun q hq => zU_ne (by omega)
  have hc0_40 := (ho_39 (a + 1) (by omega)).trans hc0_38
  have hc1_40 := (ho_39 (a + 2) (by omega)).trans hc1_38
  have hc2_40 := (ho_39 (a + 3) (by omega)).trans hc2_38
  have hc3_40 := (ho_39 (a + 4) (by omega)).trans hc3_38
  have hc4_40 := (ho_39 (a + 5) (by omega)).trans hc4_38
  have hc5_40 := (ho_39 (a + 6) (by omega)).trans hc5_38
  have hc6_40 := (ho_39 (a + 7) (by omega)).trans hc6_38
  have hc7_40 := (ho_39 (a + 8) (by omega)).trans hc7_38
  have hc8_40 := (ho_39 (a + 9) (by omega)).trans hc9_38
  have hc9_40 := (ho_39 (a) (by omega)).trans hn_37
  have hf_39 : zoutR M N_39 (a) (a + 15) := zoutR_tr hf_37 (zoutR_w ho_39 (by omega) (by omega))
  refine z_putF C in_M ty_M tok_M nm_M hini hc9_40 rfl 17 (by decide) fl_M_41 rfl rfl rfl rfl (rfl) (rfl) (Nat.le_of_ble_eq_true rfl) d_M_init_88 ?_
  obtain ⟨N_41, hN_41⟩ : ∃ N : zM, N = zU N_39 a (.inr (10, [.ref (a + 1), .int 0, .int 0, .int (-1), .int 0, .int 0, .int 0, .int 0, .int 0, .ref (a + 2), .ref (a + 3), .ref (a + 4), .ref (a + 5), .ref (a + 6), .ref (a + 7), .ref (a + 8), .ref (a + 9), .ref (a + 10), .null, .null, .null, .null])) := ⟨_, rfl⟩
  refine z_world (M' := N_41) hN_41.symm ?_
  have hn_41 : N_41 (a) = some (.inr (10, [.ref (a + 1), .int 0, .int 0, .int (-1), .int 0, .int 0, .int 0, .int 0, .int 0, .ref (a + 2), .ref (a + 3), .ref (a + 4), .ref (a + 5), .ref (a + 6), .ref (a + 7), .ref (a + 8), .ref (a + 9), .ref (a + 10), .null, .null, .null, .null])) := by rw [hN_41]; exact zU_eq
  have ho_41 : zoutR N_39 N_41 (a) (a + 1) := by rw [hN_41]; exact fun q hq => zU_ne (by omega)
  have hc0_42 := (ho_41 (a + 1) (by omega)).trans hc0_40
  have hc1_42 := (ho_41 (a + 2) (by omega)).trans hc1_40
  have hc2_42 := (ho_41 (a + 3) (by omega)).trans hc2_40
  have hc3_42 := (ho_41 (a + 4) (by omega)).trans hc3_40
  have hc4_42 := (ho_41 (a + 5) (by omega)).trans hc4_40
  have hc5_42 := (ho_41 (a + 6) (by omega)).trans hc5_40
  have hc6_42 := (ho_41 (a + 7) (by omega)).trans hc6_40
  have hc7_42 := (ho_41 (a + 8) (by omega)).trans hc7_40
  have hc8_42 := (ho_41 (a + 9) (by omega)).trans hc8_40
  have hc10_42 := (ho_41 (a + 10) (by omega)).trans hn_39
  have hf_41 : zoutR M N_41 (a) (a + 15) := zoutR_tr hf_39 (zoutR_w ho_41 (by omega) (by omega))
  refine z_aload_n C d_M_init_91 rfl rfl ?_
  refine z_bipush (v := nI 10) C d_M_init_92 (by decide) ?_
  refine z_newa (atype := .boolean) (a0 := (10, .inl (fun _ => 0))) C ac_boolean rfl 2 rfl (fun _ q => by cases q) 10 rfl (rfl) (by decide) (by decide) (Nat.le_of_ble_eq_true rfl) (Nat.le_of_ble_eq_true rfl) d_M_init_94 ?_
  obtain ⟨N_43, hN_43⟩ : ∃ N : zM, N = zU N_41 (a + 11) (.inl (E.2.1 2, 10, .inl (fun _ => 0))) := ⟨_, rfl⟩
  refine z_world (M' := N_43) hN_43.symm ?_
  have hn_43 : N_43 (a + 11) = some (.inl (E.2.1 2, 10, .inl (fun _ => 0))) := by rw [hN_43]; exact zU_eq
  have ho_43 : zoutR N_41 N_43 (a + 11) (a + 11 + 1) := by rw [hN_43]; exact fun q hq => zU_ne (by omega)
  have hc0_44 := (ho_43 (a + 1) (by omega)).trans hc0_42
  have hc1_44 := (ho_43 (a + 2) (by omega)).trans hc1_42
  have hc2_44 := (ho_43 (a + 3) (by omega)).trans hc2_42
  have hc3_44 := (ho_43 (a + 4) (by omega)).trans hc3_42
  have hc4_44 := (ho_43 (a + 5) (by omega)).trans hc4_42
  have hc5_44 := (ho_43 (a + 6) (by omega)).trans hc5_42
  have hc6_44 := (ho_43 (a + 7) (by omega)).trans hc6_42
  have hc7_44 := (ho_43 (a + 8) (by omega)).trans hc7_42
  have hc8_44 := (ho_43 (a + 9) (by omega)).trans hc8_42
  have hc9_44 := (ho_43 (a + 10) (by omega)).trans hc10_42
  have hc10_44 := (ho_43 (a) (by omega)).trans hn_41
  have hf_43 : zoutR M N_43 (a) (a + 15) := zoutR_tr hf_41 (zoutR_w ho_43 (by omega) (by omega))
  refine z_putF C in_M ty_M tok_M nm_M hini hc10_44 rfl 18 (by decide) fl_M_44 rfl rfl rfl rfl (rfl) (rfl) (Nat.le_of_ble_eq_true rfl) d_M_init_96 ?_
  obtain ⟨N_45, hN_45⟩ : ∃ N : zM, N = zU N_43 a (.inr (10, [.ref (a + 1), .int 0, .int 0, .int (-1), .int 0, .int 0, .int 0, .int 0, .int 0, .ref (a + 2), .ref (a + 3), .ref (a + 4), .ref (a + 5), .ref (a + 6), .ref (a + 7), .ref (a + 8), .ref (a + 9), .ref (a + 10), .ref (a + 11), .null, .null, .null])) := ⟨_, rfl⟩
  refine z_world (M' := N_45) hN_45.symm ?_
  have hn_45 : N_45 (a) = some (.inr (10, [.ref (a + 1), .int 0, .int 0, .int (-1), .int 0, .int 0, .int 0, .int 0, .int 0, .ref (a + 2), .ref (a + 3), .ref (a + 4), .ref (a + 5), .ref (a + 6), .ref (a + 7), .ref (a + 8), .ref (a + 9), .ref (a + 10), .ref (a + 11), .null, .null, .null])) := by rw [hN_45]; exact zU_eq
  have ho_45 : zoutR N_43 N_45 (a) (a + 1) := by rw [hN_45]; exact fun q hq => zU_ne (by omega)
  have hc0_46 := (ho_45 (a + 1) (by omega)).trans hc0_44
  have hc1_46 := (ho_45 (a + 2) (by omega)).trans hc1_44
  have hc2_46 := (ho_45 (a + 3) (by omega)).trans hc2_44
  have hc3_46 := (ho_45 (a + 4) (by omega)).trans hc3_44
  have hc4_46 := (ho_45 (a + 5) (by omega)).trans hc4_44
  have hc5_46 := (ho_45 (a + 6) (by omega)).trans hc5_44
  have hc6_46 := (ho_45 (a + 7) (by omega)).trans hc6_44
  have hc7_46 := (ho_45 (a + 8) (by omega)).trans hc7_44
  have hc8_46 := (ho_45 (a + 9) (by omega)).trans hc8_44
  have hc9_46 := (ho_45 (a + 10) (by omega)).trans hc9_44
  have hc11_46 := (ho_45 (a + 11) (by omega)).trans hn_43
  have hf_45 : zoutR M N_45 (a) (a + 15) := zoutR_tr hf_43 (zoutR_w ho_45 (by omega) (by omega))
  refine z_aload_n C d_M_init_99 rfl rfl ?_
  refine z_bipush (v := nI 10) C d_M_init_100 (by decide) ?_
  refine z_newa (atype := .boolean) (a0 := (10, .inl (fun _ => 0))) C ac_boolean rfl 2 rfl (fun _ q => by cases q) 10 rfl (rfl) (by decide) (by decide) (Nat.le_of_ble_eq_true rfl) (Nat.le_of_ble_eq_true rfl) d_M_init_102 ?_
  obtain ⟨N_47, hN_47⟩ : ∃ N : zM, N = zU N_45 (a + 12) (.inl (E.2.1 2, 10, .inl (fun _ => 0))) := ⟨_, rfl⟩
  refine z_world (M' := N_47) hN_47.symm ?_
  have hn_47 : N_47 (a + 12) = some (.inl (E.2.1 2, 10, .inl (fun _ => 0))) := by rw [hN_47]; exact zU_eq
  have ho_47 : zoutR N_45 N_47 (a + 12) (a + 12 + 1) := by rw [hN_47]; exact fun q hq => zU_ne (by omega)
  have hc0_48 := (ho_47 (a + 1) (by omega)).trans hc0_46
  have hc1_48 := (ho_47 (a + 2) (by omega)).trans hc1_46
  have hc2_48 := (ho_47 (a + 3) (by omega)).trans hc2_46
  have hc3_48 := (ho_47 (a + 4) (by omega)).trans hc3_46
  have hc4_48 := (ho_47 (a + 5) (by omega)).trans hc4_46
  have hc5_48 := (ho_47 (a + 6) (by omega)).trans hc5_46
  have hc6_48 := (ho_47 (a + 7) (by omega)).trans hc6_46
  have hc7_48 := (ho_47 (a + 8) (by omega)).trans hc7_46
  have hc8_48 := (ho_47 (a + 9) (by omega)).trans hc8_46
  have hc9_48 := (ho_47 (a + 10) (by omega)).trans hc9_46
  have hc10_48 := (ho_47 (a + 11) (by omega)).trans hc11_46
  have hc11_48 := (ho_47 (a) (by omega)).trans hn_45
  have hf_47 : zoutR M N_47 (a) (a + 15) := zoutR_tr hf_45 (zoutR_w ho_47 (by omega) (by omega))
  refine z_putF C in_M ty_M tok_M nm_M hini hc11_48 rfl 19 (by decide) fl_M_48 rfl rfl rfl rfl (rfl) (rfl) (Nat.le_of_ble_eq_true rfl) d_M_init_104 ?_
  obtain ⟨N_49, hN_49⟩ : ∃ N : zM, N = zU N_47 a (.inr (10, [.ref (a + 1), .int 0, .int 0, .int (-1), .int 0, .int 0, .int 0, .int 0, .int 0, .ref (a + 2), .ref (a + 3), .ref (a + 4), .ref (a + 5), .ref (a + 6), .ref (a + 7), .ref (a + 8), .ref (a + 9), .ref (a + 10), .ref (a + 11), .ref (a + 12), .null, .null])) := ⟨_, rfl⟩
  refine z_world (M' := N_49) hN_49.symm ?_
  have hn_49 : N_49 (a) = some (.inr (10, [.ref (a + 1), .int 0, .int 0, .int (-1), .int 0, .int 0, .int 0, .int 0, .int 0, .ref (a + 2), .ref (a + 3), .ref (a + 4), .ref (a + 5), .ref (a + 6), .ref (a + 7), .ref (a + 8), .ref (a + 9), .ref (a + 10), .ref (a + 11), .ref (a + 12), .null, .null])) := by rw [hN_49]; exact zU_eq
  have ho_49 : zoutR N_47 N_49 (a) (a + 1) := by rw [hN_49]; exact fun q hq => zU_ne (by omega)
  have hc0_50 := (ho_49 (a + 1) (by omega)).trans hc0_48
  have hc1_50 := (ho_49 (a + 2) (by omega)).trans hc1_48
  have hc2_50 := (ho_49 (a + 3) (by omega)).trans hc2_48
  have hc3_50 := (ho_49 (a + 4) (by omega)).trans hc3_48
  have hc4_50 := (ho_49 (a + 5) (by omega)).trans hc4_48
  have hc5_50 := (ho_49 (a + 6) (by omega)).trans hc5_48
  have hc6_50 := (ho_49 (a + 7) (by omega)).trans hc6_48
  have hc7_50 := (ho_49 (a + 8) (by omega)).trans hc7_48
  have hc8_50 := (ho_49 (a + 9) (by omega)).trans hc8_48
  have hc9_50 := (ho_49 (a + 10) (by omega)).trans hc9_48
  have hc10_50 := (ho_49 (a + 11) (by omega)).trans hc10_48
  have hc12_50 := (ho_49 (a + 12) (by omega)).trans hn_47
  have hf_49 : zoutR M N_49 (a) (a + 15) := zoutR_tr hf_47 (zoutR_w ho_49 (by omega) (by omega))
  refine z_aload_n C d_M_init_107 rfl rfl ?_
  refine z_bipush (v := nI 10) C d_M_init_108 (by decide) ?_
  refine z_newa (atype := .int) (a0 := (10, .inl (fun _ => 0))) C ac_int rfl 0 rfl (fun _ q => by cases q) 10 rfl (rfl) (by decide) (by decide) (Nat.le_of_ble_eq_true rfl) (Nat.le_of_ble_eq_true rfl) d_M_init_110 ?_
  obtain ⟨N_51, hN_51⟩ : ∃ N : zM, N = zU N_49 (a + 13) (.inl (E.2.1 0, 10, .inl (fun _ => 0))) := ⟨_, rfl⟩
  refine z_world (M' := N_51) hN_51.symm ?_
  have hn_51 : N_51 (a + 13) = some (.inl (E.2.1 0, 10, .inl (fun _ => 0))) := by rw [hN_51]; exact zU_eq
  have ho_51 : zoutR N_49 N_51 (a + 13) (a + 13 + 1) := by rw [hN_51]; exact fun q hq => zU_ne (by omega)
  have hc0_52 := (ho_51 (a + 1) (by omega)).trans hc0_50
  have hc1_52 := (ho_51 (a + 2) (by omega)).trans hc1_50
  have hc2_52 := (ho_51 (a + 3) (by omega)).trans hc2_50
  have hc3_52 := (ho_51 (a + 4) (by omega)).trans hc3_50
  have hc4_52 := (ho_51 (a + 5) (by omega)).trans hc4_50
  have hc5_52 := (ho_51 (a + 6) (by omega)).trans hc5_50
  have hc6_52 := (ho_51 (a + 7) (by omega)).trans hc6_50
  have hc7_52 := (ho_51 (a + 8) (by omega)).trans hc7_50
  have hc8_52 := (ho_51 (a + 9) (by omega)).trans hc8_50
  have hc9_52 := (ho_51 (a + 10) (by omega)).trans hc9_50
  have hc10_52 := (ho_51 (a + 11) (by omega)).trans hc10_50
  have hc11_52 := (ho_51 (a + 12) (by omega)).trans hc12_50
  have hc12_52 := (ho_51 (a) (by omega)).trans hn_49
  have hf_51 : zoutR M N_51 (a) (a + 15) := zoutR_tr hf_49 (zoutR_w ho_51 (by omega) (by omega))
  refine z_putF C in_M ty_M tok_M nm_M hini hc12_52 rfl 20 (by decide) fl_M_51 rfl rfl rfl rfl (rfl) (rfl) (Nat.le_of_ble_eq_true rfl) d_M_init_112 ?_
  obtain ⟨N_53, hN_53⟩ : ∃ N : zM, N = zU N_51 a (.inr (10, [.ref (a + 1), .int 0, .int 0, .int (-1), .int 0, .int 0, .int 0, .int 0, .int 0, .ref (a + 2), .ref (a + 3), .ref (a + 4), .ref (a + 5), .ref (a + 6), .ref (a + 7), .ref (a + 8), .ref (a + 9), .ref (a + 10), .ref (a + 11), .ref (a + 12), .ref (a + 13), .null])) := ⟨_, rfl⟩
  refine z_world (M' := N_53) hN_53.symm ?_
  have hn_53 : N_53 (a) = some (.inr (10, [.ref (a + 1), .int 0, .int 0, .int (-1), .int 0, .int 0, .int 0, .int 0, .int 0, .ref (a + 2), .ref (a + 3), .ref (a + 4), .ref (a + 5), .ref (a + 6), .ref (a + 7), .ref (a + 8), .ref (a + 9), .ref (a + 10), .ref (a + 11), .ref (a + 12), .ref (a + 13), .null])) := by rw [hN_53]; exact zU_eq
  have ho_53 : zoutR N_51 N_53 (a) (a + 1) := by rw [hN_53]; exact fun q hq => zU_ne (by omega)
  have hc0_54 := (ho_53 (a + 1) (by omega)).trans hc0_52
  have hc1_54 := (ho_53 (a + 2) (by omega)).trans hc1_52
  have hc2_54 := (ho_53 (a + 3) (by omega)).trans hc2_52
  have hc3_54 := (ho_53 (a + 4) (by omega)).trans hc3_52
  have hc4_54 := (ho_53 (a + 5) (by omega)).trans hc4_52
  have hc5_54 := (ho_53 (a + 6) (by omega)).trans hc5_52
  have hc6_54 := (ho_53 (a + 7) (by omega)).trans hc6_52
  have hc7_54 := (ho_53 (a + 8) (by omega)).trans hc7_52
  have hc8_54 := (ho_53 (a + 9) (by omega)).trans hc8_52
  have hc9_54 := (ho_53 (a + 10) (by omega)).trans hc9_52
  have hc10_54 := (ho_53 (a + 11) (by omega)).trans hc10_52
  have hc11_54 := (ho_53 (a + 12) (by omega)).trans hc11_52
  have hc13_54 := (ho_53 (a + 13) (by omega)).trans hn_51
  have hf_53 : zoutR M N_53 (a) (a + 15) := zoutR_tr hf_51 (zoutR_w ho_53 (by omega) (by omega))
  refine z_aload_n C d_M_init_115 rfl rfl ?_
  refine z_bipush (v := nI 10) C d_M_init_116 (by decide) ?_
  refine z_newa (atype := .boolean) (a0 := (10, .inl (fun _ => 0))) C ac_boolean rfl 2 rfl (fun _ q => by cases q) 10 rfl (rfl) (by decide) (by decide) (Nat.le_of_ble_eq_true rfl) (Nat.le_of_ble_eq_true rfl) d_M_init_118 ?_
  obtain ⟨N_55, hN_55⟩ : ∃ N : zM, N = zU N_53 (a + 14) (.inl (E.2.1 2, 10, .inl (fun _ => 0))) := ⟨_, rfl⟩
  refine z_world (M' := N_55) hN_55.symm ?_
  have hn_55 : N_55 (a + 14) = some (.inl (E.2.1 2, 10, .inl (fun _ => 0))) := by rw [hN_55]; exact zU_eq
  have ho_55 : zoutR N_53 N_55 (a + 14) (a + 14 + 1) := by rw [hN_55]; exact fun q hq => zU_ne (by omega)
  have hc0_56 := (ho_55 (a + 1) (by omega)).trans hc0_54
  have hc1_56 := (ho_55 (a + 2) (by omega)).trans hc1_54
  have hc2_56 := (ho_55 (a + 3) (by omega)).trans hc2_54
  have hc3_56 := (ho_55 (a + 4) (by omega)).trans hc3_54
  have hc4_56 := (ho_55 (a + 5) (by omega)).trans hc4_54
  have hc5_56 := (ho_55 (a + 6) (by omega)).trans hc5_54
  have hc6_56 := (ho_55 (a + 7) (by omega)).trans hc6_54
  have hc7_56 := (ho_55 (a + 8) (by omega)).trans hc7_54
  have hc8_56 := (ho_55 (a + 9) (by omega)).trans hc8_54
  have hc9_56 := (ho_55 (a + 10) (by omega)).trans hc9_54
  have hc10_56 := (ho_55 (a + 11) (by omega)).trans hc10_54
  have hc11_56 := (ho_55 (a + 12) (by omega)).trans hc11_54
  have hc12_56 := (ho_55 (a + 13) (by omega)).trans hc13_54
  have hc13_56 := (ho_55 (a) (by omega)).trans hn_53
  have hf_55 : zoutR M N_55 (a) (a + 15) := zoutR_tr hf_53 (zoutR_w ho_55 (by omega) (by omega))
  refine z_putF C in_M ty_M tok_M nm_M hini hc13_56 rfl 21 (by decide) fl_M_54 rfl rfl rfl rfl (rfl) (rfl) (Nat.le_of_ble_eq_true rfl) d_M_init_120 ?_
  obtain ⟨N_57, hN_57⟩ : ∃ N : zM, N = zU N_55 a (.inr (10, [.ref (a + 1), .int 0, .int 0, .int (-1), .int 0, .int 0, .int 0, .int 0, .int 0, .ref (a + 2), .ref (a + 3), .ref (a + 4), .ref (a + 5), .ref (a + 6), .ref (a + 7), .ref (a + 8), .ref (a + 9), .ref (a + 10), .ref (a + 11), .ref (a + 12), .ref (a + 13), .ref (a + 14)])) := ⟨_, rfl⟩
  refine z_world (M' := N_57) hN_57.symm ?_
  have hn_57 : N_57 (a) = some (.inr (10, [.ref (a + 1), .int 0, .int 0, .int (-1), .int 0, .int 0, .int 0, .int 0, .int 0, .ref (a + 2), .ref (a + 3), .ref (a + 4), .ref (a + 5), .ref (a + 6), .ref (a + 7), .ref (a + 8), .ref (a + 9), .ref (a + 10), .ref (a + 11), .ref (a + 12), .ref (a + 13), .ref (a + 14)])) := by rw [hN_57]; exact zU_eq
  have ho_57 : zoutR N_55 N_57 (a) (a + 1) := by rw [hN_57]; exact fun q hq => zU_ne (by omega)
  have hc0_58 := (ho_57 (a + 1) (by omega)).trans hc0_56
  have hc1_58 := (ho_57 (a + 2) (by omega)).trans hc1_56
  have hc2_58 := (ho_57 (a + 3) (by omega)).trans hc2_56
  have hc3_58 := (ho_57 (a + 4) (by omega)).trans hc3_56
  have hc4_58 := (ho_57 (a + 5) (by omega)).trans hc4_56
  have hc5_58 := (ho_57 (a + 6) (by omega)).trans hc5_56
  have hc6_58 := (ho_57 (a + 7) (by omega)).trans hc6_56
  have hc7_58 := (ho_57 (a + 8) (by omega)).trans hc7_56
  have hc8_58 := (ho_57 (a + 9) (by omega)).trans hc8_56
  have hc9_58 := (ho_57 (a + 10) (by omega)).trans hc9_56
  have hc10_58 := (ho_57 (a + 11) (by omega)).trans hc10_56
  have hc11_58 := (ho_57 (a + 12) (by omega)).trans hc11_56
  have hc12_58 := (ho_57 (a + 13) (by omega)).trans hc12_56
  have hc14_58 := (ho_57 (a + 14) (by omega)).trans hn_55
  have hf_57 : zoutR M N_57 (a) (a + 15) := zoutR_tr hf_55 (zoutR_w ho_57 (by omega) (by omega))
  refine z_widen (k := 14) (n := 3222) (by omega) (by omega) ?_
  exact z_vret C ⟨rfl, rfl, ⟨(fun _ => 0), 0, 0, -1, 0, 0, 0, 0, 0, (fun _ => 0), (fun _ => 0), (fun _ => 0), (fun _ => 0), (fun _ => 0), (fun _ => 0), (fun _ => 0), (fun _ => 1), (fun _ => 0), (fun _ => 0), (fun _ => 0), (fun _ => 0), (fun _ => 0), ⟨hn_57, hc0_58, hc1_58, hc2_58, hc3_58, hc4_58, hc5_58, hc6_58, hc7_58, (by rw [hc8_58, zero_tI]), hc9_58, hc10_58, hc11_58, hc12_58, hc14_58⟩, ⟨rfl, by simp, fun i hi => by simp at hi, fun _ => (show 0 < 128 by decide), rfl, by simp, fun n f hn => by simp at hn, fun n f hn => by simp at hn, rfl, fun j hj => ⟨rfl, Nat.le_refl _⟩, rfl, fun _ => (show 0 < 100 by decide), fun f hf => (by cases hf), rfl, fun _ => (show 0 < 100 by decide), Nat.le_refl _⟩⟩, hf_57⟩ d_M_init_123
