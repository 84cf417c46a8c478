theorem i2b_n : ∀ c, c < 128 → (nI c).toInt8.toInt32 = nI c := by decide +kernel
theorem d_jS_indexOf_0 : decode c_jS_indexOf 0 = .ok (.aload_n 0, 1) := by decide +kernel
theorem d_jS_indexOf_1 : decode c_jS_indexOf 1 = .ok (.iload_n 1, 1) := by decide +kernel
theorem d_jS_indexOf_2 : decode c_jS_indexOf 2 = .ok (.iconst 0, 1) := by decide +kernel
theorem d_jS_indexOf_3 : decode c_jS_indexOf 3 = .ok (.invokevirtual 633, 3) := by decide +kernel
theorem d_jS_indexOf_6 : decode c_jS_indexOf 6 = .ok (.ireturn, 1) := by decide +kernel
theorem d_jS_indexOf1_0 : decode c_jS_indexOf1 0 = .ok (.aload_n 0, 1) := by decide +kernel
theorem d_jS_indexOf1_1 : decode c_jS_indexOf1 1 = .ok (.invokevirtual 492, 3) := by decide +kernel
theorem d_jS_indexOf1_4 : decode c_jS_indexOf1 4 = .ok (.ifCond .eq 19, 3) := by decide +kernel
theorem d_jS_indexOf1_7 : decode c_jS_indexOf1 7 = .ok (.aload_n 0, 1) := by decide +kernel
theorem d_jS_indexOf1_8 : decode c_jS_indexOf1 8 = .ok (.getfield 9, 3) := by decide +kernel
theorem d_jS_indexOf1_11 : decode c_jS_indexOf1 11 = .ok (.iload_n 1, 1) := by decide +kernel
theorem d_jS_indexOf1_12 : decode c_jS_indexOf1 12 = .ok (.iload_n 2, 1) := by decide +kernel
theorem d_jS_indexOf1_13 : decode c_jS_indexOf1 13 = .ok (.aload_n 0, 1) := by decide +kernel
theorem d_jS_indexOf1_14 : decode c_jS_indexOf1 14 = .ok (.invokevirtual 505, 3) := by decide +kernel
theorem d_jS_indexOf1_17 : decode c_jS_indexOf1 17 = .ok (.invokestatic 637, 3) := by decide +kernel
theorem d_jS_indexOf1_20 : decode c_jS_indexOf1 20 = .ok (.goto 16, 3) := by decide +kernel
theorem d_jS_indexOf1_23 : decode c_jS_indexOf1 23 = .ok (.aload_n 0, 1) := by decide +kernel
theorem d_jS_indexOf1_24 : decode c_jS_indexOf1 24 = .ok (.getfield 9, 3) := by decide +kernel
theorem d_jS_indexOf1_27 : decode c_jS_indexOf1 27 = .ok (.iload_n 1, 1) := by decide +kernel
theorem d_jS_indexOf1_28 : decode c_jS_indexOf1 28 = .ok (.iload_n 2, 1) := by decide +kernel
theorem d_jS_indexOf1_29 : decode c_jS_indexOf1 29 = .ok (.aload_n 0, 1) := by decide +kernel
theorem d_jS_indexOf1_30 : decode c_jS_indexOf1 30 = .ok (.invokevirtual 505, 3) := by decide +kernel
theorem d_jS_indexOf1_33 : decode c_jS_indexOf1 33 = .ok (.invokestatic 640, 3) := by decide +kernel
theorem d_jS_indexOf1_36 : decode c_jS_indexOf1 36 = .ok (.ireturn, 1) := by decide +kernel
theorem d_jS_isLatin1_0 : decode c_jS_isLatin1 0 = .ok (.getstatic 38, 3) := by decide +kernel
theorem d_jS_isLatin1_3 : decode c_jS_isLatin1 3 = .ok (.ifCond .eq 14, 3) := by decide +kernel
theorem d_jS_isLatin1_6 : decode c_jS_isLatin1 6 = .ok (.aload_n 0, 1) := by decide +kernel
theorem d_jS_isLatin1_7 : decode c_jS_isLatin1 7 = .ok (.getfield 15, 3) := by decide +kernel
theorem d_jS_isLatin1_10 : decode c_jS_isLatin1 10 = .ok (.ifCond .ne 7, 3) := by decide +kernel
theorem d_jS_isLatin1_13 : decode c_jS_isLatin1 13 = .ok (.iconst 1, 1) := by decide +kernel
theorem d_jS_isLatin1_14 : decode c_jS_isLatin1 14 = .ok (.goto 4, 3) := by decide +kernel
theorem d_jS_isLatin1_17 : decode c_jS_isLatin1 17 = .ok (.iconst 0, 1) := by decide +kernel
theorem d_jS_isLatin1_18 : decode c_jS_isLatin1 18 = .ok (.ireturn, 1) := by decide +kernel
theorem d_jS_length_0 : decode c_jS_length 0 = .ok (.aload_n 0, 1) := by decide +kernel
theorem d_jS_length_1 : decode c_jS_length 1 = .ok (.getfield 9, 3) := by decide +kernel
theorem d_jS_length_4 : decode c_jS_length 4 = .ok (.arraylength, 1) := by decide +kernel
theorem d_jS_length_5 : decode c_jS_length 5 = .ok (.aload_n 0, 1) := by decide +kernel
theorem d_jS_length_6 : decode c_jS_length 6 = .ok (.invokevirtual 335, 3) := by decide +kernel
theorem d_jS_length_9 : decode c_jS_length 9 = .ok (.ishr, 1) := by decide +kernel
theorem d_jS_length_10 : decode c_jS_length 10 = .ok (.ireturn, 1) := by decide +kernel
theorem d_jS_coder_0 : decode c_jS_coder 0 = .ok (.getstatic 38, 3) := by decide +kernel
theorem d_jS_coder_3 : decode c_jS_coder 3 = .ok (.ifCond .eq 10, 3) := by decide +kernel
theorem d_jS_coder_6 : decode c_jS_coder 6 = .ok (.aload_n 0, 1) := by decide +kernel
theorem d_jS_coder_7 : decode c_jS_coder 7 = .ok (.getfield 15, 3) := by decide +kernel
theorem d_jS_coder_10 : decode c_jS_coder 10 = .ok (.goto 4, 3) := by decide +kernel
theorem d_jS_coder_13 : decode c_jS_coder 13 = .ok (.iconst 1, 1) := by decide +kernel
theorem d_jS_coder_14 : decode c_jS_coder 14 = .ok (.ireturn, 1) := by decide +kernel
theorem d_jL_indexOf_0 : decode c_jL_indexOf 0 = .ok (.iload_n 1, 1) := by decide +kernel
theorem d_jL_indexOf_1 : decode c_jL_indexOf 1 = .ok (.invokestatic 88, 3) := by decide +kernel
theorem d_jL_indexOf_4 : decode c_jL_indexOf 4 = .ok (.ifCond .ne 5, 3) := by decide +kernel
theorem d_jL_indexOf_7 : decode c_jL_indexOf 7 = .ok (.iconst (-1), 1) := by decide +kernel
theorem d_jL_indexOf_8 : decode c_jL_indexOf 8 = .ok (.ireturn, 1) := by decide +kernel
theorem d_jL_indexOf_9 : decode c_jL_indexOf 9 = .ok (.iload_n 2, 1) := by decide +kernel
theorem d_jL_indexOf_10 : decode c_jL_indexOf 10 = .ok (.iconst 0, 1) := by decide +kernel
theorem d_jL_indexOf_11 : decode c_jL_indexOf 11 = .ok (.invokestatic 92, 3) := by decide +kernel
theorem d_jL_indexOf_14 : decode c_jL_indexOf 14 = .ok (.istore_n 2, 1) := by decide +kernel
theorem d_jL_indexOf_15 : decode c_jL_indexOf 15 = .ok (.iload_n 3, 1) := by decide +kernel
theorem d_jL_indexOf_16 : decode c_jL_indexOf 16 = .ok (.aload_n 0, 1) := by decide +kernel
theorem d_jL_indexOf_17 : decode c_jL_indexOf 17 = .ok (.arraylength, 1) := by decide +kernel
theorem d_jL_indexOf_18 : decode c_jL_indexOf 18 = .ok (.invokestatic 38, 3) := by decide +kernel
theorem d_jL_indexOf_21 : decode c_jL_indexOf 21 = .ok (.istore_n 3, 1) := by decide +kernel
theorem d_jL_indexOf_22 : decode c_jL_indexOf 22 = .ok (.iload_n 2, 1) := by decide +kernel
theorem d_jL_indexOf_23 : decode c_jL_indexOf 23 = .ok (.iload_n 3, 1) := by decide +kernel
theorem d_jL_indexOf_24 : decode c_jL_indexOf 24 = .ok (.if_icmp .lt 5, 3) := by decide +kernel
theorem d_jL_indexOf_27 : decode c_jL_indexOf 27 = .ok (.iconst (-1), 1) := by decide +kernel
theorem d_jL_indexOf_28 : decode c_jL_indexOf 28 = .ok (.ireturn, 1) := by decide +kernel
theorem d_jL_indexOf_29 : decode c_jL_indexOf 29 = .ok (.aload_n 0, 1) := by decide +kernel
theorem d_jL_indexOf_30 : decode c_jL_indexOf 30 = .ok (.iload_n 1, 1) := by decide +kernel
theorem d_jL_indexOf_31 : decode c_jL_indexOf 31 = .ok (.iload_n 2, 1) := by decide +kernel
theorem d_jL_indexOf_32 : decode c_jL_indexOf 32 = .ok (.iload_n 3, 1) := by decide +kernel
theorem d_jL_indexOf_33 : decode c_jL_indexOf 33 = .ok (.invokestatic 95, 3) := by decide +kernel
theorem d_jL_indexOf_36 : decode c_jL_indexOf 36 = .ok (.ireturn, 1) := by decide +kernel
theorem d_jL_canEncode_0 : decode c_jL_canEncode 0 = .ok (.iload_n 0, 1) := by decide +kernel
theorem d_jL_canEncode_1 : decode c_jL_canEncode 1 = .ok (.ifCond .lt 14, 3) := by decide +kernel
theorem d_jL_canEncode_4 : decode c_jL_canEncode 4 = .ok (.iload_n 0, 1) := by decide +kernel
theorem d_jL_canEncode_5 : decode c_jL_canEncode 5 = .ok (.sipush 255, 3) := by decide +kernel
theorem d_jL_canEncode_8 : decode c_jL_canEncode 8 = .ok (.if_icmp .gt 7, 3) := by decide +kernel
theorem d_jL_canEncode_11 : decode c_jL_canEncode 11 = .ok (.iconst 1, 1) := by decide +kernel
theorem d_jL_canEncode_12 : decode c_jL_canEncode 12 = .ok (.goto 4, 3) := by decide +kernel
theorem d_jL_canEncode_15 : decode c_jL_canEncode 15 = .ok (.iconst 0, 1) := by decide +kernel
theorem d_jL_canEncode_16 : decode c_jL_canEncode 16 = .ok (.ireturn, 1) := by decide +kernel
theorem d_jL_indexOfChar_0 : decode c_jL_indexOfChar 0 = .ok (.iload_n 1, 1) := by decide +kernel
theorem d_jL_indexOfChar_1 : decode c_jL_indexOfChar 1 = .ok (.i2b, 1) := by decide +kernel
theorem d_jL_indexOfChar_2 : decode c_jL_indexOfChar 2 = .ok (.istore 4, 2) := by decide +kernel
theorem d_jL_indexOfChar_4 : decode c_jL_indexOfChar 4 = .ok (.iload_n 2, 1) := by decide +kernel
theorem d_jL_indexOfChar_5 : decode c_jL_indexOfChar 5 = .ok (.istore 5, 2) := by decide +kernel
theorem d_jL_indexOfChar_7 : decode c_jL_indexOfChar 7 = .ok (.iload 5, 2) := by decide +kernel
theorem d_jL_indexOfChar_9 : decode c_jL_indexOfChar 9 = .ok (.iload_n 3, 1) := by decide +kernel
theorem d_jL_indexOfChar_10 : decode c_jL_indexOfChar 10 = .ok (.if_icmp .ge 21, 3) := by decide +kernel
theorem d_jL_indexOfChar_13 : decode c_jL_indexOfChar 13 = .ok (.aload_n 0, 1) := by decide +kernel
theorem d_jL_indexOfChar_14 : decode c_jL_indexOfChar 14 = .ok (.iload 5, 2) := by decide +kernel
theorem d_jL_indexOfChar_16 : decode c_jL_indexOfChar 16 = .ok (.baload, 1) := by decide +kernel
theorem d_jL_indexOfChar_17 : decode c_jL_indexOfChar 17 = .ok (.iload 4, 2) := by decide +kernel
theorem d_jL_indexOfChar_19 : decode c_jL_indexOfChar 19 = .ok (.if_icmp .ne 6, 3) := by decide +kernel
theorem d_jL_indexOfChar_22 : decode c_jL_indexOfChar 22 = .ok (.iload 5, 2) := by decide +kernel
theorem d_jL_indexOfChar_24 : decode c_jL_indexOfChar 24 = .ok (.ireturn, 1) := by decide +kernel
theorem d_jL_indexOfChar_25 : decode c_jL_indexOfChar 25 = .ok (.iinc 5 1, 3) := by decide +kernel
theorem d_jL_indexOfChar_28 : decode c_jL_indexOfChar 28 = .ok (.goto (-21), 3) := by decide +kernel
theorem d_jL_indexOfChar_31 : decode c_jL_indexOfChar 31 = .ok (.iconst (-1), 1) := by decide +kernel
theorem d_jL_indexOfChar_32 : decode c_jL_indexOfChar 32 = .ok (.ireturn, 1) := by decide +kernel
theorem d_jM_floorMod_0 : decode c_jM_floorMod 0 = .ok (.iload_n 0, 1) := by decide +kernel
theorem d_jM_floorMod_1 : decode c_jM_floorMod 1 = .ok (.iload_n 1, 1) := by decide +kernel
theorem d_jM_floorMod_2 : decode c_jM_floorMod 2 = .ok (.irem, 1) := by decide +kernel
theorem d_jM_floorMod_3 : decode c_jM_floorMod 3 = .ok (.istore_n 2, 1) := by decide +kernel
theorem d_jM_floorMod_4 : decode c_jM_floorMod 4 = .ok (.iload_n 0, 1) := by decide +kernel
theorem d_jM_floorMod_5 : decode c_jM_floorMod 5 = .ok (.iload_n 1, 1) := by decide +kernel
theorem d_jM_floorMod_6 : decode c_jM_floorMod 6 = .ok (.ixor, 1) := by decide +kernel
theorem d_jM_floorMod_7 : decode c_jM_floorMod 7 = .ok (.ifCond .ge 11, 3) := by decide +kernel
theorem d_jM_floorMod_10 : decode c_jM_floorMod 10 = .ok (.iload_n 2, 1) := by decide +kernel
theorem d_jM_floorMod_11 : decode c_jM_floorMod 11 = .ok (.ifCond .eq 7, 3) := by decide +kernel
theorem d_jM_floorMod_14 : decode c_jM_floorMod 14 = .ok (.iload_n 2, 1) := by decide +kernel
theorem d_jM_floorMod_15 : decode c_jM_floorMod 15 = .ok (.iload_n 1, 1) := by decide +kernel
theorem d_jM_floorMod_16 : decode c_jM_floorMod 16 = .ok (.iadd, 1) := by decide +kernel
theorem d_jM_floorMod_17 : decode c_jM_floorMod 17 = .ok (.ireturn, 1) := by decide +kernel
theorem d_jM_floorMod_18 : decode c_jM_floorMod 18 = .ok (.iload_n 2, 1) := by decide +kernel
theorem d_jM_floorMod_19 : decode c_jM_floorMod 19 = .ok (.ireturn, 1) := by decide +kernel
set_option maxHeartbeats 4000000 in
/-- isLatin1 -/
theorem j_isLatin1 (E : zE) (l : Launch) (sz : Nat) (M : zM)  : zMet E l y_jS_isLatin1 c_jS_isLatin1 1 (some .boolean) { frames := 0, cells := 0, slots := 0, locals := 0 } 0 0 [.ref (E.2.2.2.1 0)] sz M (zRet (some (.int 1)) sz M) := by
  refine zMet.ofZ (by decide) (Nat.le_of_ble_eq_true rfl) ?_
  intro X hl hini C
  show Z X E 1 _ 0 0 sz M 0 [(0, .ref (E.2.2.2.1 0))] []
  refine z_gets C d_jS_isLatin1_0 ?_
  refine z_if_eq (tgt := 17) C d_jS_isLatin1_3 (by decide) (fun c_3 => absurd c_3 (by decide)) (fun _ => ?_)
  refine z_aload_n C d_jS_isLatin1_6 rfl rfl ?_
  refine z_scod C d_jS_isLatin1_7 ?_
  refine z_if_ne (tgt := 17) C d_jS_isLatin1_10 (by decide) (fun c_10 => absurd c_10 (fun q => q rfl)) (fun _ => ?_)
  refine z_iconst (v := 1) C d_jS_isLatin1_13 (by decide) ?_
  refine z_goto (tgt := 18) C d_jS_isLatin1_14 (by decide) ?_
  exact z_zret C rfl ⟨rfl, rfl, rfl⟩ d_jS_isLatin1_18
set_option maxHeartbeats 4000000 in
/-- coder -/
theorem j_coder (E : zE) (l : Launch) (sz : Nat) (M : zM)  : zMet E l y_jS_coder c_jS_coder 1 (some .byte) { frames := 0, cells := 0, slots := 0, locals := 0 } 0 0 [.ref (E.2.2.2.1 0)] sz M (zRet (some (.int 0)) sz M) := by
  refine zMet.ofZ (by decide) (Nat.le_of_ble_eq_true rfl) ?_
  intro X hl hini C
  show Z X E 1 _ 0 0 sz M 0 [(0, .ref (E.2.2.2.1 0))] []
  refine z_gets C d_jS_coder_0 ?_
  refine z_if_eq (tgt := 13) C d_jS_coder_3 (by decide) (fun c_3 => absurd c_3 (by decide)) (fun _ => ?_)
  refine z_aload_n C d_jS_coder_6 rfl rfl ?_
  refine z_scod C d_jS_coder_7 ?_
  refine z_goto (tgt := 14) C d_jS_coder_10 (by decide) ?_
  exact z_zret C rfl ⟨rfl, rfl, rfl⟩ d_jS_coder_14
set_option maxHeartbeats 4000000 in
/-- length -/
theorem j_length (E : zE) (l : Launch) (sz : Nat) (M : zM)  : zMet E l y_jS_length c_jS_length 1 (some .int) { frames := 1, cells := 0, slots := 0, locals := 20 } 0 0 [.ref (E.2.2.2.1 0)] sz M (zRet (some (.int (nI 26))) sz M) := by
  refine zMet.ofZ (by decide) (Nat.le_of_ble_eq_true rfl) ?_
  intro X hl hini C
  show Z X E 1 _ 0 0 sz M 0 [(0, .ref (E.2.2.2.1 0))] []
  refine z_aload_n C d_jS_length_0 rfl rfl ?_
  refine z_sval C d_jS_length_1 ?_
  refine z_slen C d_jS_length_4 ?_
  refine z_aload_n C d_jS_length_5 rfl rfl ?_
  refine z_callT (rest := [.int (nI 26)]) (n := 0) (As := []) C (j_coder E X.2.1 sz M) ⟨z_cb C k_jS_coder ml_jS_335 ii_jS rfl rfl (by decide +kernel) ⟨by decide, by decide⟩, C.2.2.2.2.1 _ im_jS_coder, C.2.2.2.2.1 _ se_jS_coder⟩ rfl rfl (Nat.le_of_ble_eq_true rfl) d_jS_length_6 ⟨by decide, by decide⟩ ?_
  intro v_6 s_6 M_6 hp_6
  obtain ⟨rfl, rfl, rfl⟩ := hp_6
  show Z _ _ _ _ _ _ _ _ 9 _ [.int 0, .int (nI 26)]
  refine z_ishr C d_jS_length_9 ?_
  refine z_top (y := nI 26) (by decide) ?_
  exact z_iret C ⟨rfl, rfl, rfl⟩ d_jS_length_10
set_option maxHeartbeats 4000000 in
/-- canEncode -/
theorem j_canEncode (E : zE) (l : Launch) (sz : Nat) (M : zM) (c : Nat) (hc : c < 128) : zMet E l y_jL_canEncode c_jL_canEncode 1 (some .boolean) { frames := 0, cells := 0, slots := 0, locals := 0 } 0 0 [.int (nI c)] sz M (zRet (some (.int 1)) sz M) := by
  refine zMet.ofZ (by decide) (Nat.le_of_ble_eq_true rfl) ?_
  intro X hl hini C
  show Z X E 1 _ 0 0 sz M 0 [(0, .int (nI c))] []
  refine z_iload_n C d_jL_canEncode_0 rfl rfl ?_
  refine z_if_lt (tgt := 15) C d_jL_canEncode_1 (by decide) (fun c_1 => absurd c_1 (nI_pos (by omega))) (fun _ => ?_)
  refine z_iload_n C d_jL_canEncode_4 rfl rfl ?_
  refine z_sipush (v := nI 255) C d_jL_canEncode_5 (by decide) ?_
  refine z_icmp_gt (tgt := 15) C d_jL_canEncode_8 (by decide) (fun c_8 => absurd c_8 (fun q => absurd ((nI_ltI (a := 255) (b := c) (by omega) (by omega)).mp q) (by omega))) (fun _ => ?_)
  refine z_iconst (v := 1) C d_jL_canEncode_11 (by decide) ?_
  refine z_goto (tgt := 16) C d_jL_canEncode_12 (by decide) ?_
  exact z_zret C rfl ⟨rfl, rfl, rfl⟩ d_jL_canEncode_16
set_option maxHeartbeats 4000000 in
/-- indexOfChar -/
theorem j_indexOfChar (E : zE) (l : Launch) (sz : Nat) (M : zM) (c : Nat) (hc : c < 128) : zMet E l y_jL_indexOfChar c_jL_indexOfChar 6 (some .int) { frames := 0, cells := 0, slots := 0, locals := 0 } 0 0 [.ref (E.2.2.2.2 0), .int (nI c), .int (nI 0), .int (nI 26)] sz M (fun v s M' => sz = s ∧ M = M' ∧ ((mayH c ∧ ∃ j : Nat, j < 26 ∧ some (.int (nI j)) = v) ∨ (¬ mayH c ∧ some (.int (-1)) = v))) := by
  refine zMet.ofZ (by decide) (Nat.le_of_ble_eq_true rfl) ?_
  intro X hl hini C
  have loop : ∀ (m j : Nat), j + m = 26 → (∀ k, k < j → zBy.getD k 0 ≠ nI c) → Z X E 6 (zQ X E 0 0 (fun v s M' => sz = s ∧ M = M' ∧ ((mayH c ∧ ∃ j : Nat, j < 26 ∧ some (.int (nI j)) = v) ∨ (¬ mayH c ∧ some (.int (-1)) = v)))) 0 0 sz M 7 [(0, .ref (E.2.2.2.2 0)), (1, .int (nI c)), (2, .int (nI 0)), (3, .int (nI 26)), (4, .int (nI c)), (5, .int (nI j))] [] := by
    intro m
    induction m with
    | zero =>
      intro j hj hno
      refine z_iload C d_jL_indexOfChar_7 rfl ?_
      refine z_iload_n C d_jL_indexOfChar_9 rfl rfl ?_
      refine z_icmp_ge (tgt := 31) C d_jL_indexOfChar_10 (by decide) (fun _ => ?_) (fun c_10 => absurd ((nI_leI (a := 26) (b := j) (by omega) (by omega)).mpr (by omega)) c_10)
      refine z_iconst (v := -1) C d_jL_indexOfChar_31 (by decide) ?_
      exact z_iret C ⟨rfl, rfl, Or.inr ⟨fun ⟨k, hk, e⟩ => hno k (by omega) e, rfl⟩⟩ d_jL_indexOfChar_32
    | succ m ih =>
      intro j hj hno
      refine z_iload C d_jL_indexOfChar_7 rfl ?_
      refine z_iload_n C d_jL_indexOfChar_9 rfl rfl ?_
      refine z_icmp_ge (tgt := 31) C d_jL_indexOfChar_10 (by decide) (fun c_10 => absurd c_10 (fun q => absurd ((nI_leI (a := 26) (b := j) (by omega) (by omega)).mp q) (by omega))) (fun _ => ?_)
      refine z_aload_n C d_jL_indexOfChar_13 rfl rfl ?_
      refine z_iload C d_jL_indexOfChar_14 rfl ?_
      refine z_sald C j (by omega) d_jL_indexOfChar_16 ?_
      refine z_iload C d_jL_indexOfChar_17 rfl ?_
      refine z_icmp_ne (tgt := 25) C d_jL_indexOfChar_19 (by decide) (fun c_19 => ?_) (fun c_19 => ?_)
      · refine z_iinc (v := nI (j + 1)) (L' := [(0, .ref (E.2.2.2.2 0)), (1, .int (nI c)), (2, .int (nI 0)), (3, .int (nI 26)), (4, .int (nI c)), (5, .int (nI (j + 1)))]) C d_jL_indexOfChar_25 rfl (nI_add _ 1) (by decide) rfl ?_
        refine z_goto (tgt := 7) C d_jL_indexOfChar_28 (by decide) ?_
        refine ih (j + 1) (by omega) (fun k hk => ?_)
        rcases Nat.lt_or_ge k j with q | q
        · exact hno k q
        · rw [show k = j by omega]; exact c_19
      · refine z_iload C d_jL_indexOfChar_22 rfl ?_
        exact z_iret C ⟨rfl, rfl, Or.inl ⟨⟨j, by omega, c_19⟩, j, by omega, rfl⟩⟩ d_jL_indexOfChar_24
  show Z X E 6 _ 0 0 sz M 0 [(0, .ref (E.2.2.2.2 0)), (1, .int (nI c)), (2, .int (nI 0)), (3, .int (nI 26))] []
  refine z_iload_n C d_jL_indexOfChar_0 rfl rfl ?_
  refine z_i2b (v := nI c) C d_jL_indexOfChar_1 (i2b_n c hc) ?_
  refine z_istore (L' := [(0, .ref (E.2.2.2.2 0)), (1, .int (nI c)), (2, .int (nI 0)), (3, .int (nI 26)), (4, .int (nI c))]) C d_jL_indexOfChar_2 (by decide) rfl ?_
  refine z_iload_n C d_jL_indexOfChar_4 rfl rfl ?_
  refine z_istore (L' := [(0, .ref (E.2.2.2.2 0)), (1, .int (nI c)), (2, .int (nI 0)), (3, .int (nI 26)), (4, .int (nI c)), (5, .int (nI 0))]) C d_jL_indexOfChar_5 (by decide) rfl ?_
  exact loop 26 0 (by omega) (fun k hk => by omega)
set_option maxHeartbeats 4000000 in
/-- StringLatin1.indexOf -/
theorem j_indexOfL (E : zE) (l : Launch) (sz : Nat) (M : zM) (c : Nat) (hc : c < 128) : zMet E l y_jL_indexOf c_jL_indexOf 4 (some .int) { frames := 1, cells := 0, slots := 0, locals := 25 } 0 0 [.ref (E.2.2.2.2 0), .int (nI c), .int (nI 0), .int (nI 26)] sz M (fun v s M' => sz = s ∧ M = M' ∧ ((mayH c ∧ ∃ j : Nat, j < 26 ∧ some (.int (nI j)) = v) ∨ (¬ mayH c ∧ some (.int (-1)) = v))) := by
  refine zMet.ofZ (by decide) (Nat.le_of_ble_eq_true rfl) ?_
  intro X hl hini C
  show Z X E 4 _ 0 0 sz M 0 [(0, .ref (E.2.2.2.2 0)), (1, .int (nI c)), (2, .int (nI 0)), (3, .int (nI 26))] []
  refine z_iload_n C d_jL_indexOf_0 rfl rfl ?_
  refine z_callS (rest := []) (n := 1) (As := [.int (nI c)]) C (j_canEncode E X.2.1 sz M c hc) ⟨z_cb C k_jL_canEncode ml_jL_88 ii_jL rfl rfl (by decide +kernel) ⟨by decide, by decide⟩, C.2.2.2.2.1 _ sm_jL_canEncode⟩ rfl rfl (Nat.le_of_ble_eq_true rfl) d_jL_indexOf_1 ⟨by decide, by decide⟩ ?_
  intro v_1 s_1 M_1 hp_1
  obtain ⟨rfl, rfl, rfl⟩ := hp_1
  show Z _ _ _ _ _ _ _ _ 4 _ [.int 1]
  refine z_if_ne (tgt := 9) C d_jL_indexOf_4 (by decide) (fun _ => ?_) (fun c_4 => absurd c_4 (by decide))
  refine z_iload_n C d_jL_indexOf_9 rfl rfl ?_
  refine z_iconst (v := nI 0) C d_jL_indexOf_10 (by decide) ?_
  refine z_mmax C ml_jL_92 sm_jM_max ii_jM k_jM_max (by decide) (Nat.le_of_ble_eq_true rfl) (Nat.zero_le _) (Nat.zero_le _) d_jL_indexOf_11 ?_
  refine z_top (y := nI 0) (by decide) ?_
  refine z_istore_n (L' := [(0, .ref (E.2.2.2.2 0)), (1, .int (nI c)), (2, .int (nI 0)), (3, .int (nI 26))]) C d_jL_indexOf_14 rfl (by decide) rfl ?_
  refine z_iload_n C d_jL_indexOf_15 rfl rfl ?_
  refine z_aload_n C d_jL_indexOf_16 rfl rfl ?_
  refine z_slen C d_jL_indexOf_17 ?_
  refine z_mmin C ml_jL_38 sm_jM_min ii_jM k_jM_min (by decide) (Nat.le_of_ble_eq_true rfl) (Nat.zero_le _) (Nat.zero_le _) d_jL_indexOf_18 ?_
  refine z_top (y := nI 26) (by decide) ?_
  refine z_istore_n (L' := [(0, .ref (E.2.2.2.2 0)), (1, .int (nI c)), (2, .int (nI 0)), (3, .int (nI 26))]) C d_jL_indexOf_21 rfl (by decide) rfl ?_
  refine z_iload_n C d_jL_indexOf_22 rfl rfl ?_
  refine z_iload_n C d_jL_indexOf_23 rfl rfl ?_
  refine z_icmp_lt (tgt := 29) C d_jL_indexOf_24 (by decide) (fun _ => ?_) (fun c_24 => absurd (by decide) c_24)
  refine z_aload_n C d_jL_indexOf_29 rfl rfl ?_
  refine z_iload_n C d_jL_indexOf_30 rfl rfl ?_
  refine z_iload_n C d_jL_indexOf_31 rfl rfl ?_
  refine z_iload_n C d_jL_indexOf_32 rfl rfl ?_
  refine z_callS (rest := []) (n := 4) (As := [.ref (E.2.2.2.2 0), .int (nI c), .int (nI 0), .int (nI 26)]) C (j_indexOfChar E X.2.1 sz M c hc) ⟨z_cb C k_jL_indexOfChar ml_jL_95 ii_jL rfl rfl (by decide +kernel) ⟨by decide, by decide⟩, C.2.2.2.2.1 _ sm_jL_indexOfChar⟩ rfl rfl (Nat.le_of_ble_eq_true rfl) d_jL_indexOf_33 ⟨by decide, by decide⟩ ?_
  intro v_33 s_33 M_33 hp_33
  obtain ⟨rfl, rfl, hv⟩ := hp_33
  rcases hv with ⟨hv, j, hj, rfl⟩ | ⟨hv, rfl⟩
  · show Z _ _ _ _ _ _ _ _ 36 _ [.int (nI j)]
    exact z_iret C ⟨rfl, rfl, Or.inl ⟨hv, j, hj, rfl⟩⟩ d_jL_indexOf_36
  · show Z _ _ _ _ _ _ _ _ 36 _ [.int (-1)]
    exact z_iret C ⟨rfl, rfl, Or.inr ⟨hv, rfl⟩⟩ d_jL_indexOf_36
set_option maxHeartbeats 4000000 in
/-- String.indexOf(int, int) -/
theorem j_indexOf1 (E : zE) (l : Launch) (sz : Nat) (M : zM) (c : Nat) (hc : c < 128) : zMet E l y_jS_indexOf1 c_jS_indexOf1 3 (some .int) { frames := 2, cells := 0, slots := 0, locals := 48 } 0 0 [.ref (E.2.2.2.1 0), .int (nI c), .int (nI 0)] sz M (fun v s M' => sz = s ∧ M = M' ∧ ((mayH c ∧ ∃ j : Nat, j < 26 ∧ some (.int (nI j)) = v) ∨ (¬ mayH c ∧ some (.int (-1)) = v))) := by
  refine zMet.ofZ (by decide) (Nat.le_of_ble_eq_true rfl) ?_
  intro X hl hini C
  show Z X E 3 _ 0 0 sz M 0 [(0, .ref (E.2.2.2.1 0)), (1, .int (nI c)), (2, .int (nI 0))] []
  refine z_aload_n C d_jS_indexOf1_0 rfl rfl ?_
  refine z_callT (rest := []) (n := 0) (As := []) C (j_isLatin1 E X.2.1 sz M) ⟨z_cb C k_jS_isLatin1 ml_jS_492 ii_jS rfl rfl (by decide +kernel) ⟨by decide, by decide⟩, C.2.2.2.2.1 _ im_jS_isLatin1, C.2.2.2.2.1 _ se_jS_isLatin1⟩ rfl rfl (Nat.le_of_ble_eq_true rfl) d_jS_indexOf1_1 ⟨by decide, by decide⟩ ?_
  intro v_1 s_1 M_1 hp_1
  obtain ⟨rfl, rfl, rfl⟩ := hp_1
  show Z _ _ _ _ _ _ _ _ 4 _ [.int 1]
  refine z_if_eq (tgt := 23) C d_jS_indexOf1_4 (by decide) (fun c_4 => absurd c_4 (by decide)) (fun _ => ?_)
  refine z_aload_n C d_jS_indexOf1_7 rfl rfl ?_
  refine z_sval C d_jS_indexOf1_8 ?_
  refine z_iload_n C d_jS_indexOf1_11 rfl rfl ?_
  refine z_iload_n C d_jS_indexOf1_12 rfl rfl ?_
  refine z_aload_n C d_jS_indexOf1_13 rfl rfl ?_
  refine z_callT (rest := [.int (nI 0), .int (nI c), .ref (E.2.2.2.2 0)]) (n := 0) (As := []) C (j_length E X.2.1 sz M) ⟨z_cb C k_jS_length ml_jS_505 ii_jS rfl rfl (by decide +kernel) ⟨by decide, by decide⟩, C.2.2.2.2.1 _ im_jS_length, C.2.2.2.2.1 _ se_jS_length⟩ rfl rfl (Nat.le_of_ble_eq_true rfl) d_jS_indexOf1_14 ⟨by decide, by decide⟩ ?_
  intro v_14 s_14 M_14 hp_14
  obtain ⟨rfl, rfl, rfl⟩ := hp_14
  show Z _ _ _ _ _ _ _ _ 17 _ [.int (nI 26), .int (nI 0), .int (nI c), .ref (E.2.2.2.2 0)]
  refine z_callS (rest := []) (n := 4) (As := [.ref (E.2.2.2.2 0), .int (nI c), .int (nI 0), .int (nI 26)]) C (j_indexOfL E X.2.1 sz M c hc) ⟨z_cb C k_jL_indexOf ml_jS_637 ii_jL rfl rfl (by decide +kernel) ⟨by decide, by decide⟩, C.2.2.2.2.1 _ sm_jL_indexOf⟩ rfl rfl (Nat.le_of_ble_eq_true rfl) d_jS_indexOf1_17 ⟨by decide, by decide⟩ ?_
  intro v_17 s_17 M_17 hp_17
  obtain ⟨rfl, rfl, hv⟩ := hp_17
  rcases hv with ⟨hv, j, hj, rfl⟩ | ⟨hv, rfl⟩
  · show Z _ _ _ _ _ _ _ _ 20 _ [.int (nI j)]
    refine z_goto (tgt := 36) C d_jS_indexOf1_20 (by decide) ?_
    exact z_iret C ⟨rfl, rfl, Or.inl ⟨hv, j, hj, rfl⟩⟩ d_jS_indexOf1_36
  · show Z _ _ _ _ _ _ _ _ 20 _ [.int (-1)]
    refine z_goto (tgt := 36) C d_jS_indexOf1_20 (by decide) ?_
    exact z_iret C ⟨rfl, rfl, Or.inr ⟨hv, rfl⟩⟩ d_jS_indexOf1_36
set_option maxHeartbeats 4000000 in
/-- String.indexOf -/
theorem j_indexOf (E : zE) (l : Launch) (sz : Nat) (M : zM) (c : Nat) (hc : c < 128) : zMet E l y_jS_indexOf c_jS_indexOf 2 (some .int) { frames := 3, cells := 0, slots := 0, locals := 70 } 0 0 [.ref (E.2.2.2.1 0), .int (nI c)] sz M (fun v s M' => sz = s ∧ M = M' ∧ ((mayH c ∧ ∃ j : Nat, j < 26 ∧ some (.int (nI j)) = v) ∨ (¬ mayH c ∧ some (.int (-1)) = v))) := by
  refine zMet.ofZ (by decide) (Nat.le_of_ble_eq_true rfl) ?_
  intro X hl hini C
  show Z X E 2 _ 0 0 sz M 0 [(0, .ref (E.2.2.2.1 0)), (1, .int (nI c))] []
  refine z_aload_n C d_jS_indexOf_0 rfl rfl ?_
  refine z_iload_n C d_jS_indexOf_1 rfl rfl ?_
  refine z_iconst (v := nI 0) C d_jS_indexOf_2 (by decide) ?_
  refine z_callT (rest := []) (n := 2) (As := [.int (nI c), .int (nI 0)]) C (j_indexOf1 E X.2.1 sz M c hc) ⟨z_cb C k_jS_indexOf1 ml_jS_633 ii_jS rfl rfl (by decide +kernel) ⟨by decide, by decide⟩, C.2.2.2.2.1 _ im_jS_indexOf1, C.2.2.2.2.1 _ se_jS_indexOf1⟩ rfl rfl (Nat.le_of_ble_eq_true rfl) d_jS_indexOf_3 ⟨by decide, by decide⟩ ?_
  intro v_3 s_3 M_3 hp_3
  obtain ⟨rfl, rfl, hv⟩ := hp_3
  rcases hv with ⟨hv, j, hj, rfl⟩ | ⟨hv, rfl⟩
  · show Z _ _ _ _ _ _ _ _ 6 _ [.int (nI j)]
    exact z_iret C ⟨rfl, rfl, Or.inl ⟨hv, j, hj, rfl⟩⟩ d_jS_indexOf_6
  · show Z _ _ _ _ _ _ _ _ 6 _ [.int (-1)]
    exact z_iret C ⟨rfl, rfl, Or.inr ⟨hv, rfl⟩⟩ d_jS_indexOf_6
set_option maxHeartbeats 4000000 in
/-- Line.mayHold -/
theorem l_mayHold (E : zE) (l : Launch) (sz : Nat) (M : zM) (x : Int32) : zMet E l y_L_mayHold c_L_mayHold 1 (some .boolean) { frames := 4, cells := 0, slots := 0, locals := 91 } 0 0 [.int x] sz M (fun v s M' => sz = s ∧ M = M' ∧ ((∃ c : Nat, c < 128 ∧ x = nI c ∧ mayH c ∧ some (.int 1) = v) ∨ ((¬ ∃ c : Nat, c < 128 ∧ x = nI c ∧ mayH c) ∧ some (.int 0) = v))) := by
  refine zMet.ofZ (by decide) (Nat.le_of_ble_eq_true rfl) ?_
  intro X hl hini C
  show Z X E 1 _ 0 0 sz M 0 [(0, .int x)] []
  have no0 : ¬ mayH 0 := by rintro ⟨j, hj, e⟩; revert j; decide
  refine z_iload_n C d_L_mayHold_0 rfl rfl ?_
  refine z_if_le (tgt := 25) C d_L_mayHold_1 (by decide) (fun c_1 => ?_) (fun c_1 => ?_)
  · refine z_iconst (v := nI 0) C d_L_mayHold_25 (by decide) ?_
    refine z_zret C rfl ⟨rfl, rfl, Or.inr ⟨?_, rfl⟩⟩ d_L_mayHold_26
    rintro ⟨c, h1, h2, h3⟩
    first | exact absurd (h2 ▸ c_8 : (128 : Int32) ≤ nI c) (fun q => absurd ((nI_leI (a := 128) (b := c) (by omega) (by omega)).mp q) (by omega)) | (have q : nI c ≤ nI 0 := h2 ▸ c_1; have q := (nI_leI (a := c) (b := 0) (by omega) (by omega)).mp q; rw [show c = 0 by omega] at h3; exact no0 h3)
  · refine z_iload_n C d_L_mayHold_4 rfl rfl ?_
    refine z_sipush (v := nI 128) C d_L_mayHold_5 (by decide) ?_
    refine z_icmp_ge (tgt := 25) C d_L_mayHold_8 (by decide) (fun c_8 => ?_) (fun c_8 => ?_)
    · refine z_iconst (v := nI 0) C d_L_mayHold_25 (by decide) ?_
      refine z_zret C rfl ⟨rfl, rfl, Or.inr ⟨?_, rfl⟩⟩ d_L_mayHold_26
      rintro ⟨c, h1, h2, h3⟩
      first | exact absurd (h2 ▸ c_8 : (128 : Int32) ≤ nI c) (fun q => absurd ((nI_leI (a := 128) (b := c) (by omega) (by omega)).mp q) (by omega)) | (have q : nI c ≤ nI 0 := h2 ▸ c_1; have q := (nI_leI (a := c) (b := 0) (by omega) (by omega)).mp q; rw [show c = 0 by omega] at h3; exact no0 h3)
    · obtain ⟨c, hc, rfl⟩ : ∃ c : Nat, c < 128 ∧ x = nI c := by
        obtain ⟨c, hc, rfl⟩ := nI_of (fun q => c_1 (Int32.le_of_lt q))
        exact ⟨c, Nat.not_le.mp (fun q => c_8 ((nI_leI (a := 128) (b := c) (by omega) (by omega)).mpr q)), rfl⟩
      refine z_ldcS C d_L_mayHold_11 ?_
      refine z_iload_n C d_L_mayHold_13 rfl rfl ?_
      refine z_i2c (v := nI c) C d_L_mayHold_14 ((sb_byte c (by omega)).2.1) ?_
      refine z_callT (rest := []) (n := 1) (As := [.int (nI c)]) C (j_indexOf E X.2.1 sz M c hc) ⟨z_cb C k_jS_indexOf ml_L_21 ii_jS rfl rfl (by decide +kernel) ⟨by decide, by decide⟩, C.2.2.2.2.1 _ im_jS_indexOf, C.2.2.2.2.1 _ se_jS_indexOf⟩ rfl rfl (Nat.le_of_ble_eq_true rfl) d_L_mayHold_15 ⟨by decide, by decide⟩ ?_
      intro v_15 s_15 M_15 hp_15
      obtain ⟨rfl, rfl, hv⟩ := hp_15
      rcases hv with ⟨hv, j, hj, rfl⟩ | ⟨hv, rfl⟩
      · show Z _ _ _ _ _ _ _ _ 18 _ [.int (nI j)]
        refine z_if_lt (tgt := 25) C d_L_mayHold_18 (by decide) (fun c_18 => absurd c_18 (nI_pos (by omega))) (fun _ => ?_)
        refine z_iconst (v := nI 1) C d_L_mayHold_21 (by decide) ?_
        refine z_goto (tgt := 26) C d_L_mayHold_22 (by decide) ?_
        exact z_zret C rfl ⟨rfl, rfl, Or.inl ⟨c, hc, rfl, hv, rfl⟩⟩ d_L_mayHold_26
      · show Z _ _ _ _ _ _ _ _ 18 _ [.int (-1)]
        refine z_if_lt (tgt := 25) C d_L_mayHold_18 (by decide) (fun _ => ?_) (fun c_18 => absurd (by decide) c_18)
        refine z_iconst (v := nI 0) C d_L_mayHold_25 (by decide) ?_
        refine z_zret C rfl ⟨rfl, rfl, Or.inr ⟨?_, rfl⟩⟩ d_L_mayHold_26
        rintro ⟨c1, h1, h2, h3⟩
        rw [(nI_eq (by omega) (by omega)).mp h2] at hv
        exact hv h3
