set_option maxHeartbeats 4000000 in
/-- put -/
theorem t_put (E : zE) (l : Launch) (sz : Nat) (M : zM) {t W : Nat} {ls : List Nat} (H : zts M t W ls) (c : Nat) (hl2 : ls.length + 1 < 2 ^ 20) : zMet E l y_T_put c_T_put 2 none { frames := 0, cells := 0, slots := 0, locals := 0 } 0 0 [.ref t, .int (nI c)] sz M (fun v s M' => none = v ∧ sz = s ∧ (∀ q, q ≠ t → M' q = M q) ∧ zts M' t W (ls ++ [c])) := by
  obtain ⟨h0, h1, h2⟩ := id H
  refine zMet.ofZ (by decide) (Nat.le_of_ble_eq_true rfl) ?_
  intro X hl hini C
  show Z X E 2 _ 0 0 sz M 0 [(0, .ref t), (1, .int (nI c))] []
  refine z_aload_n C d_T_put_0 rfl rfl ?_
  refine z_get C in_T h0 rfl 1 (by decide) fl_T_13 rfl rfl d_T_put_1 ?_
  refine z_aload_n C d_T_put_4 rfl rfl ?_
  refine z_get C in_T h0 rfl 0 (by decide) fl_T_7 rfl rfl d_T_put_5 ?_
  refine z_icmp_ne (tgt := 16) C d_T_put_8 (by decide) (fun c_8 => ?_) (fun c_8 => ?_)
  · have c_8 : ¬ ls.length = W := fun q => c_8 (congrArg nI q)
    refine z_aload_n C d_T_put_16 rfl rfl ?_
    refine z_dup C d_T_put_17 rfl ?_
    refine z_get C in_T h0 rfl 1 (by decide) fl_T_13 rfl rfl d_T_put_18 ?_
    refine z_iconst (v := nI 1) C d_T_put_21 (by decide) ?_
    refine z_iadd C d_T_put_22 ?_
    refine z_top (y := nI (ls.length + 1)) (nI_add _ _) ?_
    refine z_put C in_T ty_T tok_T nm_T h0 rfl 1 (by decide) fl_T_13 rfl rfl rfl (rfl) (rfl) (Nat.le_of_ble_eq_true rfl) d_T_put_23 ?_
    show Z _ _ _ _ _ _ _ (zU M t (.inr (7, [.int (nI W), .int (nI (ls.length + 1)), .int (nI (ls.getD W 0))]))) _ _ _
    refine z_vret C ⟨rfl, rfl, fun q hq => zU_ne hq, ?_, h1, by rw [List.length_append]; exact hl2⟩ d_T_put_26
    rw [getD_ap, if_neg (by omega), List.length_append]; exact zU_eq
  · have c_8 : ls.length = W := (nI_eq (a := ls.length) (b := W) (by omega) (by omega)).mp c_8
    refine z_aload_n C d_T_put_11 rfl rfl ?_
    refine z_iload_n C d_T_put_12 rfl rfl ?_
    refine z_put C in_T ty_T tok_T nm_T h0 rfl 2 (by decide) fl_T_16 rfl rfl rfl (rfl) (rfl) (Nat.le_of_ble_eq_true rfl) d_T_put_13 ?_
    show Z _ _ _ _ _ _ _ (zU M t (.inr (7, [.int (nI W), .int (nI ls.length), .int (nI c)]))) _ _ _
    refine z_aload_n C d_T_put_16 rfl rfl ?_
    refine z_dup C d_T_put_17 rfl ?_
    refine z_get C in_T zU_eq rfl 1 (by decide) fl_T_13 rfl rfl d_T_put_18 ?_
    refine z_iconst (v := nI 1) C d_T_put_21 (by decide) ?_
    refine z_iadd C d_T_put_22 ?_
    refine z_top (y := nI (ls.length + 1)) (nI_add _ _) ?_
    refine z_put C in_T ty_T tok_T nm_T zU_eq rfl 1 (by decide) fl_T_13 rfl rfl rfl (rfl) (rfl) (Nat.le_of_ble_eq_true rfl) d_T_put_23 ?_
    show Z _ _ _ _ _ _ _ (zU (zU M t (.inr (7, [.int (nI W), .int (nI ls.length), .int (nI c)]))) t (.inr (7, [.int (nI W), .int (nI (ls.length + 1)), .int (nI c)]))) _ _ _
    refine z_world zU_uu ?_
    refine z_vret C ⟨rfl, rfl, fun q hq => zU_ne hq, ?_, h1, by rw [List.length_append]; exact hl2⟩ d_T_put_26
    rw [getD_ap, if_pos (by omega), List.length_append]; exact zU_eq
set_option maxHeartbeats 4000000 in
/-- spellNumber -/
theorem t_spellNumber (E : zE) (l : Launch) (sz : Nat) (M : zM) {t W : Nat} {ls : List Nat} (H : zts M t W ls) (c : Nat) (hc : c < 2 ^ 20) (hl2 : ls.length + 6 < 2 ^ 20) : zMet E l y_T_spellNumber c_T_spellNumber 3 none { frames := 1, cells := 0, slots := 0, locals := 21 } 0 0 [.ref t, .int (nI c)] sz M (fun v s M' => none = v ∧ sz = s ∧ (∀ q, q ≠ t → M' q = M q) ∧ zts M' t W (ls ++ sn c)) := by
  refine zMet.ofZ (by decide) (Nat.le_of_ble_eq_true rfl) ?_
  intro X hl hini C
  have k0 : ∀ (M1 : zM) (l1 : List Nat), l1.length + 0 ≤ ls.length + 5 → (∀ q, q ≠ t → M1 q = M q) → zts M1 t W l1 → ls ++ sn c = l1 ++ snd c 0 0 → Z X E 3 (zQ X E 0 0 (fun v s M' => none = v ∧ sz = s ∧ (∀ q, q ≠ t → M' q = M q) ∧ zts M' t W (ls ++ sn c))) 0 0 sz M1 4 [(0, .ref t), (1, .int (nI c)), (2, .int (nI 0))] [] := by
    intro M1 l1 hll hfr H1 e1
    refine z_iload_n C d_T_spellNumber_4 rfl rfl ?_
    refine z_if_le (tgt := 35) C d_T_spellNumber_5 (by decide) (fun _ => ?_) (fun c_5 => absurd (by decide) c_5)
    exact z_vret C ⟨rfl, rfl, hfr, by rw [e1, show snd c 0 0 = [] from rfl, List.append_nil]; exact H1⟩ d_T_spellNumber_35
  have k1 : ∀ (M1 : zM) (l1 : List Nat), l1.length + 1 ≤ ls.length + 5 → (∀ q, q ≠ t → M1 q = M q) → zts M1 t W l1 → ls ++ sn c = l1 ++ snd c 1 1 → Z X E 3 (zQ X E 0 0 (fun v s M' => none = v ∧ sz = s ∧ (∀ q, q ≠ t → M' q = M q) ∧ zts M' t W (ls ++ sn c))) 0 0 sz M1 4 [(0, .ref t), (1, .int (nI c)), (2, .int (nI 1))] [] := by
    intro M1 l1 hll hfr H1 e1
    refine z_iload_n C d_T_spellNumber_4 rfl rfl ?_
    refine z_if_le (tgt := 35) C d_T_spellNumber_5 (by decide) (fun c_5 => absurd c_5 (by decide)) (fun _ => ?_)
    refine z_iload_n C d_T_spellNumber_8 rfl rfl ?_
    refine z_iload_n C d_T_spellNumber_9 rfl rfl ?_
    refine z_icmp_lt (tgt := 27) C d_T_spellNumber_10 (by decide) (fun c_10 => ?_) (fun c_10 => ?_)
    · have c_10 : c < 1 := (nI_ltI (a := c) (b := 1) (by omega) (by omega)).mp c_10
      refine z_iload_n C d_T_spellNumber_27 rfl rfl ?_
      refine z_bipush (v := nI 10) C d_T_spellNumber_28 (by decide) ?_
      refine z_idiv C d_T_spellNumber_30 (by decide) ?_
      refine z_top (y := nI 0) (by decide) ?_
      refine z_istore_n (L' := [(0, .ref t), (1, .int (nI c)), (2, .int (nI 0))]) C d_T_spellNumber_31 rfl (by decide) rfl ?_
      refine z_goto (tgt := 4) C d_T_spellNumber_32 (by decide) ?_
      refine k0 _ (l1) (by simp; omega) hfr H1 ?_
      rw [e1, show snd c 1 1 = (if 1 ≤ c then [48 + c / 1 % 10] else []) ++ snd c 0 0 from rfl, if_neg (by omega), List.nil_append]
    · have c_10 : 1 ≤ c := Nat.not_lt.mp (fun q => c_10 ((nI_ltI (a := c) (b := 1) (by omega) (by omega)).mpr q))
      refine z_aload_n C d_T_spellNumber_13 rfl rfl ?_
      refine z_bipush (v := nI 48) C d_T_spellNumber_14 (by decide) ?_
      refine z_iload_n C d_T_spellNumber_16 rfl rfl ?_
      refine z_iload_n C d_T_spellNumber_17 rfl rfl ?_
      refine z_idiv C d_T_spellNumber_18 (by decide) ?_
      refine z_top (y := nI (c / 1)) (pk_div (by omega) (by decide) (by decide)) ?_
      refine z_bipush (v := nI 10) C d_T_spellNumber_19 (by decide) ?_
      refine z_irem C d_T_spellNumber_21 (by decide) ?_
      refine z_top (y := nI ((c / 1) % 10)) (pk_rem (by omega) (by decide) (by decide)) ?_
      refine z_iadd C d_T_spellNumber_22 ?_
      refine z_top (y := nI (48 + ((c / 1) % 10))) (nI_add _ _) ?_
      refine z_i2c (v := nI (48 + c / 1 % 10)) C d_T_spellNumber_23 ((sb_byte _ (by omega)).2.1) ?_
      refine z_callV (rest := []) (n := 1) (As := [.int (nI (48 + c / 1 % 10))]) C (t_put E X.2.1 sz _ H1 (48 + c / 1 % 10) (by have := H1.2.2; simp only [List.length_append, List.length_singleton, List.length_nil] at *; omega)) ⟨z_cb C k_T_put ml_T_37 ii_T rfl rfl (by decide +kernel) ⟨by decide, by decide⟩, C.2.2.2.2.1 _ im_T_put, C.2.2.2.2.1 _ se_T_put⟩ H1.1 rfl rfl rfl (Nat.le_of_ble_eq_true rfl) d_T_spellNumber_24 ⟨by decide, by decide⟩ ?_
      intro v_M1_24 s_M1_24 M_M1_24 hp_M1_24
      obtain ⟨rfl, rfl, ho_M1_24, H_M1_24⟩ := hp_M1_24
      show Z _ _ _ _ _ _ _ _ 27 _ []
      refine z_iload_n C d_T_spellNumber_27 rfl rfl ?_
      refine z_bipush (v := nI 10) C d_T_spellNumber_28 (by decide) ?_
      refine z_idiv C d_T_spellNumber_30 (by decide) ?_
      refine z_top (y := nI 0) (by decide) ?_
      refine z_istore_n (L' := [(0, .ref t), (1, .int (nI c)), (2, .int (nI 0))]) C d_T_spellNumber_31 rfl (by decide) rfl ?_
      refine z_goto (tgt := 4) C d_T_spellNumber_32 (by decide) ?_
      refine k0 _ (l1 ++ [(48 + c / 1 % 10)]) (by simp; omega) (fun q hq => (ho_M1_24 q hq).trans (hfr q hq)) H_M1_24 ?_
      rw [e1, show snd c 1 1 = (if 1 ≤ c then [48 + c / 1 % 10] else []) ++ snd c 0 0 from rfl, if_pos (by omega), List.append_assoc]
  have k2 : ∀ (M1 : zM) (l1 : List Nat), l1.length + 2 ≤ ls.length + 5 → (∀ q, q ≠ t → M1 q = M q) → zts M1 t W l1 → ls ++ sn c = l1 ++ snd c 2 10 → Z X E 3 (zQ X E 0 0 (fun v s M' => none = v ∧ sz = s ∧ (∀ q, q ≠ t → M' q = M q) ∧ zts M' t W (ls ++ sn c))) 0 0 sz M1 4 [(0, .ref t), (1, .int (nI c)), (2, .int (nI 10))] [] := by
    intro M1 l1 hll hfr H1 e1
    refine z_iload_n C d_T_spellNumber_4 rfl rfl ?_
    refine z_if_le (tgt := 35) C d_T_spellNumber_5 (by decide) (fun c_5 => absurd c_5 (by decide)) (fun _ => ?_)
    refine z_iload_n C d_T_spellNumber_8 rfl rfl ?_
    refine z_iload_n C d_T_spellNumber_9 rfl rfl ?_
    refine z_icmp_lt (tgt := 27) C d_T_spellNumber_10 (by decide) (fun c_10 => ?_) (fun c_10 => ?_)
    · have c_10 : c < 10 := (nI_ltI (a := c) (b := 10) (by omega) (by omega)).mp c_10
      refine z_iload_n C d_T_spellNumber_27 rfl rfl ?_
      refine z_bipush (v := nI 10) C d_T_spellNumber_28 (by decide) ?_
      refine z_idiv C d_T_spellNumber_30 (by decide) ?_
      refine z_top (y := nI 1) (by decide) ?_
      refine z_istore_n (L' := [(0, .ref t), (1, .int (nI c)), (2, .int (nI 1))]) C d_T_spellNumber_31 rfl (by decide) rfl ?_
      refine z_goto (tgt := 4) C d_T_spellNumber_32 (by decide) ?_
      refine k1 _ (l1) (by simp; omega) hfr H1 ?_
      rw [e1, show snd c 2 10 = (if 10 ≤ c then [48 + c / 10 % 10] else []) ++ snd c 1 1 from rfl, if_neg (by omega), List.nil_append]
    · have c_10 : 10 ≤ c := Nat.not_lt.mp (fun q => c_10 ((nI_ltI (a := c) (b := 10) (by omega) (by omega)).mpr q))
      refine z_aload_n C d_T_spellNumber_13 rfl rfl ?_
      refine z_bipush (v := nI 48) C d_T_spellNumber_14 (by decide) ?_
      refine z_iload_n C d_T_spellNumber_16 rfl rfl ?_
      refine z_iload_n C d_T_spellNumber_17 rfl rfl ?_
      refine z_idiv C d_T_spellNumber_18 (by decide) ?_
      refine z_top (y := nI (c / 10)) (pk_div (by omega) (by decide) (by decide)) ?_
      refine z_bipush (v := nI 10) C d_T_spellNumber_19 (by decide) ?_
      refine z_irem C d_T_spellNumber_21 (by decide) ?_
      refine z_top (y := nI ((c / 10) % 10)) (pk_rem (by omega) (by decide) (by decide)) ?_
      refine z_iadd C d_T_spellNumber_22 ?_
      refine z_top (y := nI (48 + ((c / 10) % 10))) (nI_add _ _) ?_
      refine z_i2c (v := nI (48 + c / 10 % 10)) C d_T_spellNumber_23 ((sb_byte _ (by omega)).2.1) ?_
      refine z_callV (rest := []) (n := 1) (As := [.int (nI (48 + c / 10 % 10))]) C (t_put E X.2.1 sz _ H1 (48 + c / 10 % 10) (by have := H1.2.2; simp only [List.length_append, List.length_singleton, List.length_nil] at *; omega)) ⟨z_cb C k_T_put ml_T_37 ii_T rfl rfl (by decide +kernel) ⟨by decide, by decide⟩, C.2.2.2.2.1 _ im_T_put, C.2.2.2.2.1 _ se_T_put⟩ H1.1 rfl rfl rfl (Nat.le_of_ble_eq_true rfl) d_T_spellNumber_24 ⟨by decide, by decide⟩ ?_
      intro v_M1_24 s_M1_24 M_M1_24 hp_M1_24
      obtain ⟨rfl, rfl, ho_M1_24, H_M1_24⟩ := hp_M1_24
      show Z _ _ _ _ _ _ _ _ 27 _ []
      refine z_iload_n C d_T_spellNumber_27 rfl rfl ?_
      refine z_bipush (v := nI 10) C d_T_spellNumber_28 (by decide) ?_
      refine z_idiv C d_T_spellNumber_30 (by decide) ?_
      refine z_top (y := nI 1) (by decide) ?_
      refine z_istore_n (L' := [(0, .ref t), (1, .int (nI c)), (2, .int (nI 1))]) C d_T_spellNumber_31 rfl (by decide) rfl ?_
      refine z_goto (tgt := 4) C d_T_spellNumber_32 (by decide) ?_
      refine k1 _ (l1 ++ [(48 + c / 10 % 10)]) (by simp; omega) (fun q hq => (ho_M1_24 q hq).trans (hfr q hq)) H_M1_24 ?_
      rw [e1, show snd c 2 10 = (if 10 ≤ c then [48 + c / 10 % 10] else []) ++ snd c 1 1 from rfl, if_pos (by omega), List.append_assoc]
  have k3 : ∀ (M1 : zM) (l1 : List Nat), l1.length + 3 ≤ ls.length + 5 → (∀ q, q ≠ t → M1 q = M q) → zts M1 t W l1 → ls ++ sn c = l1 ++ snd c 3 100 → Z X E 3 (zQ X E 0 0 (fun v s M' => none = v ∧ sz = s ∧ (∀ q, q ≠ t → M' q = M q) ∧ zts M' t W (ls ++ sn c))) 0 0 sz M1 4 [(0, .ref t), (1, .int (nI c)), (2, .int (nI 100))] [] := by
    intro M1 l1 hll hfr H1 e1
    refine z_iload_n C d_T_spellNumber_4 rfl rfl ?_
    refine z_if_le (tgt := 35) C d_T_spellNumber_5 (by decide) (fun c_5 => absurd c_5 (by decide)) (fun _ => ?_)
    refine z_iload_n C d_T_spellNumber_8 rfl rfl ?_
    refine z_iload_n C d_T_spellNumber_9 rfl rfl ?_
    refine z_icmp_lt (tgt := 27) C d_T_spellNumber_10 (by decide) (fun c_10 => ?_) (fun c_10 => ?_)
    · have c_10 : c < 100 := (nI_ltI (a := c) (b := 100) (by omega) (by omega)).mp c_10
      refine z_iload_n C d_T_spellNumber_27 rfl rfl ?_
      refine z_bipush (v := nI 10) C d_T_spellNumber_28 (by decide) ?_
      refine z_idiv C d_T_spellNumber_30 (by decide) ?_
      refine z_top (y := nI 10) (by decide) ?_
      refine z_istore_n (L' := [(0, .ref t), (1, .int (nI c)), (2, .int (nI 10))]) C d_T_spellNumber_31 rfl (by decide) rfl ?_
      refine z_goto (tgt := 4) C d_T_spellNumber_32 (by decide) ?_
      refine k2 _ (l1) (by simp; omega) hfr H1 ?_
      rw [e1, show snd c 3 100 = (if 100 ≤ c then [48 + c / 100 % 10] else []) ++ snd c 2 10 from rfl, if_neg (by omega), List.nil_append]
    · have c_10 : 100 ≤ c := Nat.not_lt.mp (fun q => c_10 ((nI_ltI (a := c) (b := 100) (by omega) (by omega)).mpr q))
      refine z_aload_n C d_T_spellNumber_13 rfl rfl ?_
      refine z_bipush (v := nI 48) C d_T_spellNumber_14 (by decide) ?_
      refine z_iload_n C d_T_spellNumber_16 rfl rfl ?_
      refine z_iload_n C d_T_spellNumber_17 rfl rfl ?_
      refine z_idiv C d_T_spellNumber_18 (by decide) ?_
      refine z_top (y := nI (c / 100)) (pk_div (by omega) (by decide) (by decide)) ?_
      refine z_bipush (v := nI 10) C d_T_spellNumber_19 (by decide) ?_
      refine z_irem C d_T_spellNumber_21 (by decide) ?_
      refine z_top (y := nI ((c / 100) % 10)) (pk_rem (by omega) (by decide) (by decide)) ?_
      refine z_iadd C d_T_spellNumber_22 ?_
      refine z_top (y := nI (48 + ((c / 100) % 10))) (nI_add _ _) ?_
      refine z_i2c (v := nI (48 + c / 100 % 10)) C d_T_spellNumber_23 ((sb_byte _ (by omega)).2.1) ?_
      refine z_callV (rest := []) (n := 1) (As := [.int (nI (48 + c / 100 % 10))]) C (t_put E X.2.1 sz _ H1 (48 + c / 100 % 10) (by have := H1.2.2; simp only [List.length_append, List.length_singleton, List.length_nil] at *; omega)) ⟨z_cb C k_T_put ml_T_37 ii_T rfl rfl (by decide +kernel) ⟨by decide, by decide⟩, C.2.2.2.2.1 _ im_T_put, C.2.2.2.2.1 _ se_T_put⟩ H1.1 rfl rfl rfl (Nat.le_of_ble_eq_true rfl) d_T_spellNumber_24 ⟨by decide, by decide⟩ ?_
      intro v_M1_24 s_M1_24 M_M1_24 hp_M1_24
      obtain ⟨rfl, rfl, ho_M1_24, H_M1_24⟩ := hp_M1_24
      show Z _ _ _ _ _ _ _ _ 27 _ []
      refine z_iload_n C d_T_spellNumber_27 rfl rfl ?_
      refine z_bipush (v := nI 10) C d_T_spellNumber_28 (by decide) ?_
      refine z_idiv C d_T_spellNumber_30 (by decide) ?_
      refine z_top (y := nI 10) (by decide) ?_
      refine z_istore_n (L' := [(0, .ref t), (1, .int (nI c)), (2, .int (nI 10))]) C d_T_spellNumber_31 rfl (by decide) rfl ?_
      refine z_goto (tgt := 4) C d_T_spellNumber_32 (by decide) ?_
      refine k2 _ (l1 ++ [(48 + c / 100 % 10)]) (by simp; omega) (fun q hq => (ho_M1_24 q hq).trans (hfr q hq)) H_M1_24 ?_
      rw [e1, show snd c 3 100 = (if 100 ≤ c then [48 + c / 100 % 10] else []) ++ snd c 2 10 from rfl, if_pos (by omega), List.append_assoc]
  have k4 : ∀ (M1 : zM) (l1 : List Nat), l1.length + 4 ≤ ls.length + 5 → (∀ q, q ≠ t → M1 q = M q) → zts M1 t W l1 → ls ++ sn c = l1 ++ snd c 4 1000 → Z X E 3 (zQ X E 0 0 (fun v s M' => none = v ∧ sz = s ∧ (∀ q, q ≠ t → M' q = M q) ∧ zts M' t W (ls ++ sn c))) 0 0 sz M1 4 [(0, .ref t), (1, .int (nI c)), (2, .int (nI 1000))] [] := by
    intro M1 l1 hll hfr H1 e1
    refine z_iload_n C d_T_spellNumber_4 rfl rfl ?_
    refine z_if_le (tgt := 35) C d_T_spellNumber_5 (by decide) (fun c_5 => absurd c_5 (by decide)) (fun _ => ?_)
    refine z_iload_n C d_T_spellNumber_8 rfl rfl ?_
    refine z_iload_n C d_T_spellNumber_9 rfl rfl ?_
    refine z_icmp_lt (tgt := 27) C d_T_spellNumber_10 (by decide) (fun c_10 => ?_) (fun c_10 => ?_)
    · have c_10 : c < 1000 := (nI_ltI (a := c) (b := 1000) (by omega) (by omega)).mp c_10
      refine z_iload_n C d_T_spellNumber_27 rfl rfl ?_
      refine z_bipush (v := nI 10) C d_T_spellNumber_28 (by decide) ?_
      refine z_idiv C d_T_spellNumber_30 (by decide) ?_
      refine z_top (y := nI 100) (by decide) ?_
      refine z_istore_n (L' := [(0, .ref t), (1, .int (nI c)), (2, .int (nI 100))]) C d_T_spellNumber_31 rfl (by decide) rfl ?_
      refine z_goto (tgt := 4) C d_T_spellNumber_32 (by decide) ?_
      refine k3 _ (l1) (by simp; omega) hfr H1 ?_
      rw [e1, show snd c 4 1000 = (if 1000 ≤ c then [48 + c / 1000 % 10] else []) ++ snd c 3 100 from rfl, if_neg (by omega), List.nil_append]
    · have c_10 : 1000 ≤ c := Nat.not_lt.mp (fun q => c_10 ((nI_ltI (a := c) (b := 1000) (by omega) (by omega)).mpr q))
      refine z_aload_n C d_T_spellNumber_13 rfl rfl ?_
      refine z_bipush (v := nI 48) C d_T_spellNumber_14 (by decide) ?_
      refine z_iload_n C d_T_spellNumber_16 rfl rfl ?_
      refine z_iload_n C d_T_spellNumber_17 rfl rfl ?_
      refine z_idiv C d_T_spellNumber_18 (by decide) ?_
      refine z_top (y := nI (c / 1000)) (pk_div (by omega) (by decide) (by decide)) ?_
      refine z_bipush (v := nI 10) C d_T_spellNumber_19 (by decide) ?_
      refine z_irem C d_T_spellNumber_21 (by decide) ?_
      refine z_top (y := nI ((c / 1000) % 10)) (pk_rem (by omega) (by decide) (by decide)) ?_
      refine z_iadd C d_T_spellNumber_22 ?_
      refine z_top (y := nI (48 + ((c / 1000) % 10))) (nI_add _ _) ?_
      refine z_i2c (v := nI (48 + c / 1000 % 10)) C d_T_spellNumber_23 ((sb_byte _ (by omega)).2.1) ?_
      refine z_callV (rest := []) (n := 1) (As := [.int (nI (48 + c / 1000 % 10))]) C (t_put E X.2.1 sz _ H1 (48 + c / 1000 % 10) (by have := H1.2.2; simp only [List.length_append, List.length_singleton, List.length_nil] at *; omega)) ⟨z_cb C k_T_put ml_T_37 ii_T rfl rfl (by decide +kernel) ⟨by decide, by decide⟩, C.2.2.2.2.1 _ im_T_put, C.2.2.2.2.1 _ se_T_put⟩ H1.1 rfl rfl rfl (Nat.le_of_ble_eq_true rfl) d_T_spellNumber_24 ⟨by decide, by decide⟩ ?_
      intro v_M1_24 s_M1_24 M_M1_24 hp_M1_24
      obtain ⟨rfl, rfl, ho_M1_24, H_M1_24⟩ := hp_M1_24
      show Z _ _ _ _ _ _ _ _ 27 _ []
      refine z_iload_n C d_T_spellNumber_27 rfl rfl ?_
      refine z_bipush (v := nI 10) C d_T_spellNumber_28 (by decide) ?_
      refine z_idiv C d_T_spellNumber_30 (by decide) ?_
      refine z_top (y := nI 100) (by decide) ?_
      refine z_istore_n (L' := [(0, .ref t), (1, .int (nI c)), (2, .int (nI 100))]) C d_T_spellNumber_31 rfl (by decide) rfl ?_
      refine z_goto (tgt := 4) C d_T_spellNumber_32 (by decide) ?_
      refine k3 _ (l1 ++ [(48 + c / 1000 % 10)]) (by simp; omega) (fun q hq => (ho_M1_24 q hq).trans (hfr q hq)) H_M1_24 ?_
      rw [e1, show snd c 4 1000 = (if 1000 ≤ c then [48 + c / 1000 % 10] else []) ++ snd c 3 100 from rfl, if_pos (by omega), List.append_assoc]
  have k5 : ∀ (M1 : zM) (l1 : List Nat), l1.length + 5 ≤ ls.length + 5 → (∀ q, q ≠ t → M1 q = M q) → zts M1 t W l1 → ls ++ sn c = l1 ++ snd c 5 10000 → Z X E 3 (zQ X E 0 0 (fun v s M' => none = v ∧ sz = s ∧ (∀ q, q ≠ t → M' q = M q) ∧ zts M' t W (ls ++ sn c))) 0 0 sz M1 4 [(0, .ref t), (1, .int (nI c)), (2, .int (nI 10000))] [] := by
    intro M1 l1 hll hfr H1 e1
    refine z_iload_n C d_T_spellNumber_4 rfl rfl ?_
    refine z_if_le (tgt := 35) C d_T_spellNumber_5 (by decide) (fun c_5 => absurd c_5 (by decide)) (fun _ => ?_)
    refine z_iload_n C d_T_spellNumber_8 rfl rfl ?_
    refine z_iload_n C d_T_spellNumber_9 rfl rfl ?_
    refine z_icmp_lt (tgt := 27) C d_T_spellNumber_10 (by decide) (fun c_10 => ?_) (fun c_10 => ?_)
    · have c_10 : c < 10000 := (nI_ltI (a := c) (b := 10000) (by omega) (by omega)).mp c_10
      refine z_iload_n C d_T_spellNumber_27 rfl rfl ?_
      refine z_bipush (v := nI 10) C d_T_spellNumber_28 (by decide) ?_
      refine z_idiv C d_T_spellNumber_30 (by decide) ?_
      refine z_top (y := nI 1000) (by decide) ?_
      refine z_istore_n (L' := [(0, .ref t), (1, .int (nI c)), (2, .int (nI 1000))]) C d_T_spellNumber_31 rfl (by decide) rfl ?_
      refine z_goto (tgt := 4) C d_T_spellNumber_32 (by decide) ?_
      refine k4 _ (l1) (by simp; omega) hfr H1 ?_
      rw [e1, show snd c 5 10000 = (if 10000 ≤ c then [48 + c / 10000 % 10] else []) ++ snd c 4 1000 from rfl, if_neg (by omega), List.nil_append]
    · have c_10 : 10000 ≤ c := Nat.not_lt.mp (fun q => c_10 ((nI_ltI (a := c) (b := 10000) (by omega) (by omega)).mpr q))
      refine z_aload_n C d_T_spellNumber_13 rfl rfl ?_
      refine z_bipush (v := nI 48) C d_T_spellNumber_14 (by decide) ?_
      refine z_iload_n C d_T_spellNumber_16 rfl rfl ?_
      refine z_iload_n C d_T_spellNumber_17 rfl rfl ?_
      refine z_idiv C d_T_spellNumber_18 (by decide) ?_
      refine z_top (y := nI (c / 10000)) (pk_div (by omega) (by decide) (by decide)) ?_
      refine z_bipush (v := nI 10) C d_T_spellNumber_19 (by decide) ?_
      refine z_irem C d_T_spellNumber_21 (by decide) ?_
      refine z_top (y := nI ((c / 10000) % 10)) (pk_rem (by omega) (by decide) (by decide)) ?_
      refine z_iadd C d_T_spellNumber_22 ?_
      refine z_top (y := nI (48 + ((c / 10000) % 10))) (nI_add _ _) ?_
      refine z_i2c (v := nI (48 + c / 10000 % 10)) C d_T_spellNumber_23 ((sb_byte _ (by omega)).2.1) ?_
      refine z_callV (rest := []) (n := 1) (As := [.int (nI (48 + c / 10000 % 10))]) C (t_put E X.2.1 sz _ H1 (48 + c / 10000 % 10) (by have := H1.2.2; simp only [List.length_append, List.length_singleton, List.length_nil] at *; omega)) ⟨z_cb C k_T_put ml_T_37 ii_T rfl rfl (by decide +kernel) ⟨by decide, by decide⟩, C.2.2.2.2.1 _ im_T_put, C.2.2.2.2.1 _ se_T_put⟩ H1.1 rfl rfl rfl (Nat.le_of_ble_eq_true rfl) d_T_spellNumber_24 ⟨by decide, by decide⟩ ?_
      intro v_M1_24 s_M1_24 M_M1_24 hp_M1_24
      obtain ⟨rfl, rfl, ho_M1_24, H_M1_24⟩ := hp_M1_24
      show Z _ _ _ _ _ _ _ _ 27 _ []
      refine z_iload_n C d_T_spellNumber_27 rfl rfl ?_
      refine z_bipush (v := nI 10) C d_T_spellNumber_28 (by decide) ?_
      refine z_idiv C d_T_spellNumber_30 (by decide) ?_
      refine z_top (y := nI 1000) (by decide) ?_
      refine z_istore_n (L' := [(0, .ref t), (1, .int (nI c)), (2, .int (nI 1000))]) C d_T_spellNumber_31 rfl (by decide) rfl ?_
      refine z_goto (tgt := 4) C d_T_spellNumber_32 (by decide) ?_
      refine k4 _ (l1 ++ [(48 + c / 10000 % 10)]) (by simp; omega) (fun q hq => (ho_M1_24 q hq).trans (hfr q hq)) H_M1_24 ?_
      rw [e1, show snd c 5 10000 = (if 10000 ≤ c then [48 + c / 10000 % 10] else []) ++ snd c 4 1000 from rfl, if_pos (by omega), List.append_assoc]
  show Z X E 3 _ 0 0 sz M 0 [(0, .ref t), (1, .int (nI c))] []
  refine z_sipush (v := nI 10000) C d_T_spellNumber_0 (by decide) ?_
  refine z_istore_n (L' := [(0, .ref t), (1, .int (nI c)), (2, .int (nI 10000))]) C d_T_spellNumber_3 rfl (by decide) rfl ?_
  exact k5 M ls (by omega) (fun _ _ => rfl) H rfl
set_option maxHeartbeats 4000000 in
/-- spellPart -/
theorem t_spellPart (E : zE) (l : Launch) (sz : Nat) (M : zM) {t W : Nat} {ls : List Nat} (H : zts M t W ls) (c k : Nat) (hc : c < 2 ^ 20) (hk : k < 2 ^ 20) (hl2 : ls.length + 20 < 2 ^ 20) : zMet E l y_T_spellPart c_T_spellPart 3 none { frames := 2, cells := 0, slots := 0, locals := 43 } 0 0 [.ref t, .int (nI c), .int (nI k)] sz M (fun v s M' => none = v ∧ sz = s ∧ (∀ q, q ≠ t → M' q = M q) ∧ zts M' t W (ls ++ sp c k)) := by
  have n1 := sn_len c
  have n2 := sn_len k
  refine zMet.ofZ (by decide) (Nat.le_of_ble_eq_true rfl) ?_
  intro X hl hini C
  show Z X E 3 _ 0 0 sz M 0 [(0, .ref t), (1, .int (nI c)), (2, .int (nI k))] []
  refine z_iload_n C d_T_spellPart_0 rfl rfl ?_
  refine z_if_ne (tgt := 10) C d_T_spellPart_1 (by decide) (fun c_1 => ?_) (fun c_1 => ?_)
  · have c_1 : ¬ k = 0 := fun q => c_1 (congrArg nI q)
    refine z_iload_n C d_T_spellPart_10 rfl rfl ?_
    refine z_iconst (v := nI 1) C d_T_spellPart_11 (by decide) ?_
    refine z_icmp_eq (tgt := 26) C d_T_spellPart_12 (by decide) (fun c_12 => ?_) (fun c_12 => ?_)
    · have c_12 : c = 1 := (nI_eq (a := c) (b := 1) (by omega) (by omega)).mp c_12
      refine z_aload_n C d_T_spellPart_26 rfl rfl ?_
      refine z_bipush (v := nI 120) C d_T_spellPart_27 (by decide) ?_
      refine z_callV (rest := []) (n := 1) (As := [.int (nI 120)]) C (t_put E X.2.1 sz _ H 120 (by have := H.2.2; simp only [List.length_append, List.length_singleton, List.length_nil] at *; omega)) ⟨z_cb C k_T_put ml_T_37 ii_T rfl rfl (by decide +kernel) ⟨by decide, by decide⟩, C.2.2.2.2.1 _ im_T_put, C.2.2.2.2.1 _ se_T_put⟩ H.1 rfl rfl rfl (Nat.le_of_ble_eq_true rfl) d_T_spellPart_29 ⟨by decide, by decide⟩ ?_
      intro v_M_29 s_M_29 M_M_29 hp_M_29
      obtain ⟨rfl, rfl, ho_M_29, H_M_29⟩ := hp_M_29
      show Z _ _ _ _ _ _ _ _ 32 _ []
      refine z_iload_n C d_T_spellPart_32 rfl rfl ?_
      refine z_iconst (v := nI 1) C d_T_spellPart_33 (by decide) ?_
      refine z_icmp_le (tgt := 48) C d_T_spellPart_34 (by decide) (fun c_34 => ?_) (fun c_34 => ?_)
      · have c_34 : k ≤ 1 := (nI_leI (a := k) (b := 1) (by omega) (by omega)).mp c_34
        have e : ls ++ sp c k = ls ++ [120] := by
          unfold sp
          (repeat' split) <;> first | omega | simp
        exact z_vret C ⟨rfl, rfl, (fun q hq => (ho_M_29 q hq).trans ((fun _ _ => rfl) q hq)), by rw [e]; exact H_M_29⟩ d_T_spellPart_48
      · have c_34 : 1 < k := Nat.not_le.mp (fun q => c_34 ((nI_leI (a := k) (b := 1) (by omega) (by omega)).mpr q))
        refine z_aload_n C d_T_spellPart_37 rfl rfl ?_
        refine z_bipush (v := nI 94) C d_T_spellPart_38 (by decide) ?_
        refine z_callV (rest := []) (n := 1) (As := [.int (nI 94)]) C (t_put E X.2.1 sz _ H_M_29 94 (by have := H_M_29.2.2; simp only [List.length_append, List.length_singleton, List.length_nil] at *; omega)) ⟨z_cb C k_T_put ml_T_37 ii_T rfl rfl (by decide +kernel) ⟨by decide, by decide⟩, C.2.2.2.2.1 _ im_T_put, C.2.2.2.2.1 _ se_T_put⟩ H_M_29.1 rfl rfl rfl (Nat.le_of_ble_eq_true rfl) d_T_spellPart_40 ⟨by decide, by decide⟩ ?_
        intro v_M_M_29_40 s_M_M_29_40 M_M_M_29_40 hp_M_M_29_40
        obtain ⟨rfl, rfl, ho_M_M_29_40, H_M_M_29_40⟩ := hp_M_M_29_40
        show Z _ _ _ _ _ _ _ _ 43 _ []
        refine z_aload_n C d_T_spellPart_43 rfl rfl ?_
        refine z_iload_n C d_T_spellPart_44 rfl rfl ?_
        refine z_callV (rest := []) (n := 1) (As := [.int (nI k)]) C (t_spellNumber E X.2.1 sz _ H_M_M_29_40 k (by omega) (by have := sn_len c; simp only [List.length_append, List.length_singleton, List.length_nil] at *; omega)) ⟨z_cb C k_T_spellNumber ml_T_53 ii_T rfl rfl (by decide +kernel) ⟨by decide, by decide⟩, C.2.2.2.2.1 _ im_T_spellNumber, C.2.2.2.2.1 _ se_T_spellNumber⟩ H_M_M_29_40.1 rfl rfl rfl (Nat.le_of_ble_eq_true rfl) d_T_spellPart_45 ⟨by decide, by decide⟩ ?_
        intro v_M_M_M_29_40_45 s_M_M_M_29_40_45 M_M_M_M_29_40_45 hp_M_M_M_29_40_45
        obtain ⟨rfl, rfl, ho_M_M_M_29_40_45, H_M_M_M_29_40_45⟩ := hp_M_M_M_29_40_45
        show Z _ _ _ _ _ _ _ _ 48 _ []
        have e : ls ++ sp c k = ls ++ [120] ++ [94] ++ sn k := by
          unfold sp
          (repeat' split) <;> first | omega | simp
        exact z_vret C ⟨rfl, rfl, (fun q hq => (ho_M_M_M_29_40_45 q hq).trans ((fun q hq => (ho_M_M_29_40 q hq).trans ((fun q hq => (ho_M_29 q hq).trans ((fun _ _ => rfl) q hq)) q hq)) q hq)), by rw [e]; exact H_M_M_M_29_40_45⟩ d_T_spellPart_48
    · have c_12 : ¬ c = 1 := fun q => c_12 (congrArg nI q)
      refine z_aload_n C d_T_spellPart_15 rfl rfl ?_
      refine z_iload_n C d_T_spellPart_16 rfl rfl ?_
      refine z_callV (rest := []) (n := 1) (As := [.int (nI c)]) C (t_spellNumber E X.2.1 sz _ H c (by omega) (by have := sn_len c; simp only [List.length_append, List.length_singleton, List.length_nil] at *; omega)) ⟨z_cb C k_T_spellNumber ml_T_53 ii_T rfl rfl (by decide +kernel) ⟨by decide, by decide⟩, C.2.2.2.2.1 _ im_T_spellNumber, C.2.2.2.2.1 _ se_T_spellNumber⟩ H.1 rfl rfl rfl (Nat.le_of_ble_eq_true rfl) d_T_spellPart_17 ⟨by decide, by decide⟩ ?_
      intro v_M_17 s_M_17 M_M_17 hp_M_17
      obtain ⟨rfl, rfl, ho_M_17, H_M_17⟩ := hp_M_17
      show Z _ _ _ _ _ _ _ _ 20 _ []
      refine z_aload_n C d_T_spellPart_20 rfl rfl ?_
      refine z_bipush (v := nI 42) C d_T_spellPart_21 (by decide) ?_
      refine z_callV (rest := []) (n := 1) (As := [.int (nI 42)]) C (t_put E X.2.1 sz _ H_M_17 42 (by have := H_M_17.2.2; simp only [List.length_append, List.length_singleton, List.length_nil] at *; omega)) ⟨z_cb C k_T_put ml_T_37 ii_T rfl rfl (by decide +kernel) ⟨by decide, by decide⟩, C.2.2.2.2.1 _ im_T_put, C.2.2.2.2.1 _ se_T_put⟩ H_M_17.1 rfl rfl rfl (Nat.le_of_ble_eq_true rfl) d_T_spellPart_23 ⟨by decide, by decide⟩ ?_
      intro v_M_M_17_23 s_M_M_17_23 M_M_M_17_23 hp_M_M_17_23
      obtain ⟨rfl, rfl, ho_M_M_17_23, H_M_M_17_23⟩ := hp_M_M_17_23
      show Z _ _ _ _ _ _ _ _ 26 _ []
      refine z_aload_n C d_T_spellPart_26 rfl rfl ?_
      refine z_bipush (v := nI 120) C d_T_spellPart_27 (by decide) ?_
      refine z_callV (rest := []) (n := 1) (As := [.int (nI 120)]) C (t_put E X.2.1 sz _ H_M_M_17_23 120 (by have := H_M_M_17_23.2.2; simp only [List.length_append, List.length_singleton, List.length_nil] at *; omega)) ⟨z_cb C k_T_put ml_T_37 ii_T rfl rfl (by decide +kernel) ⟨by decide, by decide⟩, C.2.2.2.2.1 _ im_T_put, C.2.2.2.2.1 _ se_T_put⟩ H_M_M_17_23.1 rfl rfl rfl (Nat.le_of_ble_eq_true rfl) d_T_spellPart_29 ⟨by decide, by decide⟩ ?_
      intro v_M_M_M_17_23_29 s_M_M_M_17_23_29 M_M_M_M_17_23_29 hp_M_M_M_17_23_29
      obtain ⟨rfl, rfl, ho_M_M_M_17_23_29, H_M_M_M_17_23_29⟩ := hp_M_M_M_17_23_29
      show Z _ _ _ _ _ _ _ _ 32 _ []
      refine z_iload_n C d_T_spellPart_32 rfl rfl ?_
      refine z_iconst (v := nI 1) C d_T_spellPart_33 (by decide) ?_
      refine z_icmp_le (tgt := 48) C d_T_spellPart_34 (by decide) (fun c_34 => ?_) (fun c_34 => ?_)
      · have c_34 : k ≤ 1 := (nI_leI (a := k) (b := 1) (by omega) (by omega)).mp c_34
        have e : ls ++ sp c k = ls ++ sn c ++ [42] ++ [120] := by
          unfold sp
          (repeat' split) <;> first | omega | simp
        exact z_vret C ⟨rfl, rfl, (fun q hq => (ho_M_M_M_17_23_29 q hq).trans ((fun q hq => (ho_M_M_17_23 q hq).trans ((fun q hq => (ho_M_17 q hq).trans ((fun _ _ => rfl) q hq)) q hq)) q hq)), by rw [e]; exact H_M_M_M_17_23_29⟩ d_T_spellPart_48
      · have c_34 : 1 < k := Nat.not_le.mp (fun q => c_34 ((nI_leI (a := k) (b := 1) (by omega) (by omega)).mpr q))
        refine z_aload_n C d_T_spellPart_37 rfl rfl ?_
        refine z_bipush (v := nI 94) C d_T_spellPart_38 (by decide) ?_
        refine z_callV (rest := []) (n := 1) (As := [.int (nI 94)]) C (t_put E X.2.1 sz _ H_M_M_M_17_23_29 94 (by have := H_M_M_M_17_23_29.2.2; simp only [List.length_append, List.length_singleton, List.length_nil] at *; omega)) ⟨z_cb C k_T_put ml_T_37 ii_T rfl rfl (by decide +kernel) ⟨by decide, by decide⟩, C.2.2.2.2.1 _ im_T_put, C.2.2.2.2.1 _ se_T_put⟩ H_M_M_M_17_23_29.1 rfl rfl rfl (Nat.le_of_ble_eq_true rfl) d_T_spellPart_40 ⟨by decide, by decide⟩ ?_
        intro v_M_M_M_M_17_23_29_40 s_M_M_M_M_17_23_29_40 M_M_M_M_M_17_23_29_40 hp_M_M_M_M_17_23_29_40
        obtain ⟨rfl, rfl, ho_M_M_M_M_17_23_29_40, H_M_M_M_M_17_23_29_40⟩ := hp_M_M_M_M_17_23_29_40
        show Z _ _ _ _ _ _ _ _ 43 _ []
        refine z_aload_n C d_T_spellPart_43 rfl rfl ?_
        refine z_iload_n C d_T_spellPart_44 rfl rfl ?_
        refine z_callV (rest := []) (n := 1) (As := [.int (nI k)]) C (t_spellNumber E X.2.1 sz _ H_M_M_M_M_17_23_29_40 k (by omega) (by have := sn_len c; simp only [List.length_append, List.length_singleton, List.length_nil] at *; omega)) ⟨z_cb C k_T_spellNumber ml_T_53 ii_T rfl rfl (by decide +kernel) ⟨by decide, by decide⟩, C.2.2.2.2.1 _ im_T_spellNumber, C.2.2.2.2.1 _ se_T_spellNumber⟩ H_M_M_M_M_17_23_29_40.1 rfl rfl rfl (Nat.le_of_ble_eq_true rfl) d_T_spellPart_45 ⟨by decide, by decide⟩ ?_
        intro v_M_M_M_M_M_17_23_29_40_45 s_M_M_M_M_M_17_23_29_40_45 M_M_M_M_M_M_17_23_29_40_45 hp_M_M_M_M_M_17_23_29_40_45
        obtain ⟨rfl, rfl, ho_M_M_M_M_M_17_23_29_40_45, H_M_M_M_M_M_17_23_29_40_45⟩ := hp_M_M_M_M_M_17_23_29_40_45
        show Z _ _ _ _ _ _ _ _ 48 _ []
        have e : ls ++ sp c k = ls ++ sn c ++ [42] ++ [120] ++ [94] ++ sn k := by
          unfold sp
          (repeat' split) <;> first | omega | simp
        exact z_vret C ⟨rfl, rfl, (fun q hq => (ho_M_M_M_M_M_17_23_29_40_45 q hq).trans ((fun q hq => (ho_M_M_M_M_17_23_29_40 q hq).trans ((fun q hq => (ho_M_M_M_17_23_29 q hq).trans ((fun q hq => (ho_M_M_17_23 q hq).trans ((fun q hq => (ho_M_17 q hq).trans ((fun _ _ => rfl) q hq)) q hq)) q hq)) q hq)) q hq)), by rw [e]; exact H_M_M_M_M_M_17_23_29_40_45⟩ d_T_spellPart_48
  · have c_1 : k = 0 := (nI_eq (a := k) (b := 0) (by omega) (by omega)).mp c_1
    refine z_aload_n C d_T_spellPart_4 rfl rfl ?_
    refine z_iload_n C d_T_spellPart_5 rfl rfl ?_
    refine z_callV (rest := []) (n := 1) (As := [.int (nI c)]) C (t_spellNumber E X.2.1 sz _ H c (by omega) (by have := sn_len c; simp only [List.length_append, List.length_singleton, List.length_nil] at *; omega)) ⟨z_cb C k_T_spellNumber ml_T_53 ii_T rfl rfl (by decide +kernel) ⟨by decide, by decide⟩, C.2.2.2.2.1 _ im_T_spellNumber, C.2.2.2.2.1 _ se_T_spellNumber⟩ H.1 rfl rfl rfl (Nat.le_of_ble_eq_true rfl) d_T_spellPart_6 ⟨by decide, by decide⟩ ?_
    intro v_M_6 s_M_6 M_M_6 hp_M_6
    obtain ⟨rfl, rfl, ho_M_6, H_M_6⟩ := hp_M_6
    show Z _ _ _ _ _ _ _ _ 9 _ []
    have e : ls ++ sp c k = ls ++ sn c := by
      unfold sp
      (repeat' split) <;> first | omega | simp
    exact z_vret C ⟨rfl, rfl, (fun q hq => (ho_M_6 q hq).trans ((fun _ _ => rfl) q hq)), by rw [e]; exact H_M_6⟩ d_T_spellPart_9
set_option maxHeartbeats 4000000 in
/-- spell -/
theorem t_spell (E : zE) (l : Launch) (sz : Nat) (M : zM) {t W : Nat} {ls : List Nat} (H : zts M t W ls) {a n k : Nat} {P : PS} (ha : zp E M a n k P) (at1 : a ≠ t) (at2 : a + 1 ≠ t) (hn : n ≤ 13) (hl2 : ls.length + 300 < 2 ^ 20) : zMet E l y_T_spell c_T_spell 4 none { frames := 3, cells := 0, slots := 0, locals := 65 } 0 0 [.ref t, .ref a] sz M (fun v s M' => none = v ∧ sz = s ∧ (∀ q, q ≠ t → M' q = M q) ∧ zts M' t W (ls ++ txtP P k)) := by
  have hkn := (zp_lt ha).1
  refine zMet.ofZ (by decide) (Nat.le_of_ble_eq_true rfl) ?_
  intro X hl hini C
  have zk : ∀ M1 : zM, (∀ q, q ≠ t → M1 q = M q) → zp E M1 a n k P := fun M1 hfr => zp_kept ha (hfr _ at1) (hfr _ at2)
  have loop : ∀ (m : Nat) (M1 : zM) (l1 : List Nat) (u : Option Value), m ≤ k → l1.length + 14 * m ≤ ls.length + 14 * k + 1 → (∀ q, q ≠ t → M1 q = M q) → zts M1 t W l1 → ls ++ txtP P k = l1 ++ spl P k m → Z X E 4 (zQ X E 0 0 (fun v s M' => none = v ∧ sz = s ∧ (∀ q, q ≠ t → M' q = M q) ∧ zts M' t W (ls ++ txtP P k))) 0 0 sz M1 18 [(0, .ref t), (1, .ref a), (2, .int (tI m))] [] := by
    intro m
    induction m with
    | zero =>
      intro M1 l1 u hm hll hfr H1 e1
      refine z_iload_n C d_T_spell_18 rfl rfl ?_
      refine z_if_lt (tgt := 58) C d_T_spell_19 (by decide) (fun _ => ?_) (fun c_19 => absurd (by decide) c_19)
      exact z_vret C ⟨rfl, rfl, hfr, by rw [e1, show spl P k 0 = [] from rfl, List.append_nil]; exact H1⟩ d_T_spell_58
    | succ m ih =>
      intro M1 l1 u hm hll hfr H1 e1
      have za := zk M1 hfr
      have hf := (P m).isLt
      rw [tI_s]
      refine z_iload_n C d_T_spell_18 rfl rfl ?_
      refine z_if_lt (tgt := 58) C d_T_spell_19 (by decide) (fun c_19 => absurd c_19 (nI_pos (by omega))) (fun _ => ?_)
      refine z_aload_n C d_T_spell_22 rfl rfl ?_
      refine z_iload_n C d_T_spell_23 rfl rfl ?_
      refine z_callV (rest := []) (n := 1) (As := [.int (nI m)]) C (p_get E X.2.1 sz _ m (by omega) za) ⟨z_cb C k_P_get ml_T_45 ii_P rfl rfl (by decide +kernel) ⟨by decide, by decide⟩, C.2.2.2.2.1 _ im_P_get, C.2.2.2.2.1 _ se_P_get⟩ (zp_c0 za) rfl rfl rfl (Nat.le_of_ble_eq_true rfl) d_T_spell_24 ⟨by decide, by decide⟩ ?_
      intro v_24 s_24 M_24 hp_24
      obtain ⟨rfl, rfl, rfl⟩ := hp_24
      show Z _ _ _ _ _ _ _ _ 27 _ [.int (nI (P m).val)]
      refine z_istore_n (L' := [(0, .ref t), (1, .ref a), (2, .int (nI m)), (3, .int (nI (P m).val))]) C d_T_spell_27 rfl (by decide) rfl ?_
      refine z_iload_n C d_T_spell_28 rfl rfl ?_
      refine z_if_eq (tgt := 52) C d_T_spell_29 (by decide) (fun c_29 => ?_) (fun c_29 => ?_)
      · have c_29 : P m = 0 := Fin.ext ((nI_z (by omega)).mp c_29)
        refine z_iinc (v := tI m) (L' := [(0, .ref t), (1, .ref a), (2, .int (tI m)), (3, .int (nI (P m).val))]) C d_T_spell_52 rfl (by rw [← tI_s]; exact tI_dec m) (by decide) rfl ?_
        refine z_goto (tgt := 18) C d_T_spell_55 (by decide) ?_
        refine z_sub [0, 1, 2] rfl ?_
        refine ih _ (l1) none (by omega) (by have := sp_len (P m).val m; (try simp only [List.length_append, List.length_singleton]); omega) hfr H1 ?_
        rw [e1, show spl P k (m + 1) = (if P m = 0 then [] else (if m + 1 < k then [43] else []) ++ sp (P m).val m) ++ spl P k m from rfl]
        rw [if_pos c_29, List.nil_append]
      · have c_29 : ¬ P m = 0 := fun q => c_29 (by rw [q]; rfl)
        refine z_iload_n C d_T_spell_32 rfl rfl ?_
        refine z_aload_n C d_T_spell_33 rfl rfl ?_
        refine z_getN C in_P (zp_c0 za) rfl 1 (by decide) fl_T_25 rfl rfl d_T_spell_34 ?_
        refine z_icmp_ge (tgt := 46) C d_T_spell_37 (by decide) (fun c_37 => ?_) (fun c_37 => ?_)
        · have c_37 : k ≤ m + 1 := (tI_len (by omega) (by omega)).mp c_37
          refine z_aload_n C d_T_spell_46 rfl rfl ?_
          refine z_iload_n C d_T_spell_47 rfl rfl ?_
          refine z_iload_n C d_T_spell_48 rfl rfl ?_
          refine z_callV (rest := []) (n := 2) (As := [.int (nI (P m).val), .int (nI m)]) C (t_spellPart E X.2.1 sz _ H1 (P m).val m (by omega) (by omega) (by simp only [List.length_append, List.length_singleton, List.length_nil] at *; omega)) ⟨z_cb C k_T_spellPart ml_T_49 ii_T rfl rfl (by decide +kernel) ⟨by decide, by decide⟩, C.2.2.2.2.1 _ im_T_spellPart, C.2.2.2.2.1 _ se_T_spellPart⟩ H1.1 rfl rfl rfl (Nat.le_of_ble_eq_true rfl) d_T_spell_49 ⟨by decide, by decide⟩ ?_
          intro v_M1_49 s_M1_49 M_M1_49 hp_M1_49
          obtain ⟨rfl, rfl, ho_M1_49, H_M1_49⟩ := hp_M1_49
          have hk0_M1_49 := (ho_M1_49 _ (by omega)).trans (zp_c0 za)
          show Z _ _ _ _ _ _ _ _ 52 _ []
          refine z_iinc (v := tI m) (L' := [(0, .ref t), (1, .ref a), (2, .int (tI m)), (3, .int (nI (P m).val))]) C d_T_spell_52 rfl (by rw [← tI_s]; exact tI_dec m) (by decide) rfl ?_
          refine z_goto (tgt := 18) C d_T_spell_55 (by decide) ?_
          refine z_sub [0, 1, 2] rfl ?_
          refine ih _ (l1 ++ sp (P m).val m) none (by omega) (by have := sp_len (P m).val m; (try simp only [List.length_append, List.length_singleton]); omega) (fun q hq => (ho_M1_49 q hq).trans (hfr q hq)) H_M1_49 ?_
          rw [e1, show spl P k (m + 1) = (if P m = 0 then [] else (if m + 1 < k then [43] else []) ++ sp (P m).val m) ++ spl P k m from rfl]
          rw [if_neg c_29, if_neg (by omega), List.nil_append, List.append_assoc]
        · have c_37 : m + 1 < k := Nat.not_le.mp (fun q => c_37 ((tI_len (by omega) (by omega)).mpr q))
          refine z_aload_n C d_T_spell_40 rfl rfl ?_
          refine z_bipush (v := nI 43) C d_T_spell_41 (by decide) ?_
          refine z_callV (rest := []) (n := 1) (As := [.int (nI 43)]) C (t_put E X.2.1 sz _ H1 43 (by have := H1.2.2; simp only [List.length_append, List.length_singleton, List.length_nil] at *; omega)) ⟨z_cb C k_T_put ml_T_37 ii_T rfl rfl (by decide +kernel) ⟨by decide, by decide⟩, C.2.2.2.2.1 _ im_T_put, C.2.2.2.2.1 _ se_T_put⟩ H1.1 rfl rfl rfl (Nat.le_of_ble_eq_true rfl) d_T_spell_43 ⟨by decide, by decide⟩ ?_
          intro v_M1_43 s_M1_43 M_M1_43 hp_M1_43
          obtain ⟨rfl, rfl, ho_M1_43, H_M1_43⟩ := hp_M1_43
          have hk0_M1_43 := (ho_M1_43 _ (by omega)).trans (zp_c0 za)
          show Z _ _ _ _ _ _ _ _ 46 _ []
          refine z_aload_n C d_T_spell_46 rfl rfl ?_
          refine z_iload_n C d_T_spell_47 rfl rfl ?_
          refine z_iload_n C d_T_spell_48 rfl rfl ?_
          refine z_callV (rest := []) (n := 2) (As := [.int (nI (P m).val), .int (nI m)]) C (t_spellPart E X.2.1 sz _ H_M1_43 (P m).val m (by omega) (by omega) (by simp only [List.length_append, List.length_singleton, List.length_nil] at *; omega)) ⟨z_cb C k_T_spellPart ml_T_49 ii_T rfl rfl (by decide +kernel) ⟨by decide, by decide⟩, C.2.2.2.2.1 _ im_T_spellPart, C.2.2.2.2.1 _ se_T_spellPart⟩ H_M1_43.1 rfl rfl rfl (Nat.le_of_ble_eq_true rfl) d_T_spell_49 ⟨by decide, by decide⟩ ?_
          intro v_M_M1_43_49 s_M_M1_43_49 M_M_M1_43_49 hp_M_M1_43_49
          obtain ⟨rfl, rfl, ho_M_M1_43_49, H_M_M1_43_49⟩ := hp_M_M1_43_49
          have hk0_M_M1_43_49 := (ho_M_M1_43_49 _ (by omega)).trans hk0_M1_43
          show Z _ _ _ _ _ _ _ _ 52 _ []
          refine z_iinc (v := tI m) (L' := [(0, .ref t), (1, .ref a), (2, .int (tI m)), (3, .int (nI (P m).val))]) C d_T_spell_52 rfl (by rw [← tI_s]; exact tI_dec m) (by decide) rfl ?_
          refine z_goto (tgt := 18) C d_T_spell_55 (by decide) ?_
          refine z_sub [0, 1, 2] rfl ?_
          refine ih _ (l1 ++ [43] ++ sp (P m).val m) none (by omega) (by have := sp_len (P m).val m; (try simp only [List.length_append, List.length_singleton]); omega) (fun q hq => (ho_M_M1_43_49 q hq).trans ((fun q hq => (ho_M1_43 q hq).trans (hfr q hq)) q hq)) H_M_M1_43_49 ?_
          rw [e1, show spl P k (m + 1) = (if P m = 0 then [] else (if m + 1 < k then [43] else []) ++ sp (P m).val m) ++ spl P k m from rfl]
          rw [if_neg c_29, if_pos (by omega)]; simp only [List.append_assoc]
  show Z X E 4 _ 0 0 sz M 0 [(0, .ref t), (1, .ref a)] []
  refine z_aload_n C d_T_spell_0 rfl rfl ?_
  refine z_callV (rest := []) (n := 0) (As := []) C (p_isZero E X.2.1 sz _ ha) ⟨z_cb C k_P_isZero ml_T_41 ii_P rfl rfl (by decide +kernel) ⟨by decide, by decide⟩, C.2.2.2.2.1 _ im_P_isZero, C.2.2.2.2.1 _ se_P_isZero⟩ (zp_c0 ha) rfl rfl rfl (Nat.le_of_ble_eq_true rfl) d_T_spell_1 ⟨by decide, by decide⟩ ?_
  intro v_1 s_1 M_1 hp_1
  obtain ⟨rfl, rfl, rfl⟩ := hp_1
  show Z _ _ _ _ _ _ _ _ 4 _ [.int (if k = 0 then 1 else 0)]
  refine z_if_eq (tgt := 13) C d_T_spell_4 (by decide) (fun c_4 => ?_) (fun c_4 => ?_)
  · have c_4 : ¬ k = 0 := fun q => by rw [if_pos q] at c_4; exact absurd c_4 (by decide)
    refine z_aload_n C d_T_spell_13 rfl rfl ?_
    refine z_getN C in_P (zp_c0 ha) rfl 1 (by decide) fl_T_25 rfl rfl d_T_spell_14 ?_
    refine z_istore_n (L' := [(0, .ref t), (1, .ref a), (2, .int (tI k))]) C d_T_spell_17 rfl (by decide) rfl ?_
    refine loop k _ (ls) none (by omega) (by (try simp only [List.length_append, List.length_singleton]); omega) (fun _ _ => rfl) H ?_
    unfold txtP
    rw [if_neg c_4, List.nil_append]
  · have c_4 : k = 0 := by
      by_cases q : k = 0
      · exact q
      · exact absurd (if_neg q) c_4
    refine z_aload_n C d_T_spell_7 rfl rfl ?_
    refine z_bipush (v := nI 48) C d_T_spell_8 (by decide) ?_
    refine z_callV (rest := []) (n := 1) (As := [.int (nI 48)]) C (t_put E X.2.1 sz _ H 48 (by have := H.2.2; simp only [List.length_append, List.length_singleton, List.length_nil] at *; omega)) ⟨z_cb C k_T_put ml_T_37 ii_T rfl rfl (by decide +kernel) ⟨by decide, by decide⟩, C.2.2.2.2.1 _ im_T_put, C.2.2.2.2.1 _ se_T_put⟩ H.1 rfl rfl rfl (Nat.le_of_ble_eq_true rfl) d_T_spell_10 ⟨by decide, by decide⟩ ?_
    intro v_M_10 s_M_10 M_M_10 hp_M_10
    obtain ⟨rfl, rfl, ho_M_10, H_M_10⟩ := hp_M_10
    have hk0_M_10 := (ho_M_10 _ (by omega)).trans (zp_c0 ha)
    show Z _ _ _ _ _ _ _ _ 13 _ []
    refine z_aload_n C d_T_spell_13 rfl rfl ?_
    refine z_getN C in_P hk0_M_10 rfl 1 (by decide) fl_T_25 rfl rfl d_T_spell_14 ?_
    refine z_istore_n (L' := [(0, .ref t), (1, .ref a), (2, .int (tI k))]) C d_T_spell_17 rfl (by decide) rfl ?_
    refine loop k _ (ls ++ [48]) none (by omega) (by (try simp only [List.length_append, List.length_singleton]); omega) (fun q hq => (ho_M_10 q hq).trans ((fun _ _ => rfl) q hq)) H_M_10 ?_
    unfold txtP
    rw [if_pos c_4, List.append_assoc]
set_option maxHeartbeats 4000000 in
/-- seek -/
theorem t_seek (E : zE) (l : Launch) (sz : Nat) (M : zM) {t W : Nat} {w0 u0 f0 : Int32} (h0 : M t = some (.inr (7, [.int w0, .int u0, .int f0]))) (hW : W < 2 ^ 31) {q kn kd : Nat} {N D : PS} (hF : zf E M q kn kd N D) (aq : t + 1 ≤ q ∨ q + 5 ≤ t) : zMet E l y_T_seek c_T_seek 3 (some .int) { frames := 4, cells := 0, slots := 0, locals := 88 } 0 0 [.ref t, .ref q, .int (nI W)] sz M (fun v s M' => some (.int (nI ((txtF N D kn kd).getD W 0))) = v ∧ sz = s ∧ (∀ x, x ≠ t → M' x = M x) ∧ ∃ w u f : Int32, M' t = some (.inr (7, [.int w, .int u, .int f]))) := by
  have bn := (zp_lt hF.2.1).1
  have bd := (zp_lt hF.2.2).1
  have tn := txtP_len N kn
  have td := txtP_len D kd
  refine zMet.ofZ (by decide) (Nat.le_of_ble_eq_true rfl) ?_
  intro X hl hini C
  show Z X E 3 _ 0 0 sz M 0 [(0, .ref t), (1, .ref q), (2, .int (nI W))] []
  have go : ∀ M1 : zM, (∀ x, x ≠ t → M1 x = M x) → zts M1 t W [] → Z X E 3 (zQ X E 0 0 (fun v s M' => some (.int (nI ((txtF N D kn kd).getD W 0))) = v ∧ sz = s ∧ (∀ x, x ≠ t → M' x = M x) ∧ ∃ w u f : Int32, M' t = some (.inr (7, [.int w, .int u, .int f])))) 0 0 sz M1 15 [(0, .ref t), (1, .ref q), (2, .int (nI W))] [] := by
    intro M1 hfr H1
    have hF1 : zf E M1 q kn kd N D := ⟨(hfr _ (by omega)).trans hF.1, zp_kept hF.2.1 (hfr _ (by omega)) (hfr _ (by omega)), zp_kept hF.2.2 (hfr _ (by omega)) (hfr _ (by omega))⟩
    refine z_aload_n C d_T_seek_15 rfl rfl ?_
    refine z_getN C in_F hF1.1 rfl 1 (by decide) fl_T_19 rfl rfl d_T_seek_16 ?_
    refine z_getN C in_P (zp_c0 hF1.2.2) rfl 1 (by decide) fl_T_25 rfl rfl d_T_seek_19 ?_
    refine z_if_ne (tgt := 36) C d_T_seek_22 (by decide) (fun c_22 => ?_) (fun c_22 => ?_)
    · have c_22 : ¬ kd = 1 := fun q => c_22 (by rw [q]; decide)
      refine z_aload_n C d_T_seek_36 rfl rfl ?_
      refine z_bipush (v := nI 40) C d_T_seek_37 (by decide) ?_
      refine z_callV (rest := []) (n := 1) (As := [.int (nI 40)]) C (t_put E X.2.1 sz _ H1 40 (by have := H1.2.2; simp only [List.length_append, List.length_singleton, List.length_nil] at *; omega)) ⟨z_cb C k_T_put ml_T_37 ii_T rfl rfl (by decide +kernel) ⟨by decide, by decide⟩, C.2.2.2.2.1 _ im_T_put, C.2.2.2.2.1 _ se_T_put⟩ H1.1 rfl rfl rfl (Nat.le_of_ble_eq_true rfl) d_T_seek_39 ⟨by decide, by decide⟩ ?_
      intro v_M1_39 s_M1_39 M_M1_39 hp_M1_39
      obtain ⟨rfl, rfl, ho_M1_39, H_M1_39⟩ := hp_M1_39
      have hk0_M1_39 := (ho_M1_39 _ (by omega)).trans hF1.1
      have hk1_M1_39 := (ho_M1_39 _ (by omega)).trans (zp_c0 hF1.2.1)
      have hk2_M1_39 := (ho_M1_39 _ (by omega)).trans (zp_c0 hF1.2.2)
      show Z _ _ _ _ _ _ _ _ 42 _ []
      refine z_aload_n C d_T_seek_42 rfl rfl ?_
      refine z_aload_n C d_T_seek_43 rfl rfl ?_
      refine z_getN C in_F hk0_M1_39 rfl 0 (by decide) fl_T_30 rfl rfl d_T_seek_44 ?_
      refine z_callV (rest := []) (n := 1) (As := [.ref (q + 1)]) C (t_spell E X.2.1 sz _ H_M1_39 (zp_kept hF.2.1 ((fun q hq => (ho_M1_39 q hq).trans (hfr q hq)) _ (by omega)) ((fun q hq => (ho_M1_39 q hq).trans (hfr q hq)) _ (by omega))) (by omega) (by omega) (by omega) (by simp only [List.length_append, List.length_singleton, List.length_nil] at *; omega)) ⟨z_cb C k_T_spell ml_T_33 ii_T rfl rfl (by decide +kernel) ⟨by decide, by decide⟩, C.2.2.2.2.1 _ im_T_spell, C.2.2.2.2.1 _ se_T_spell⟩ H_M1_39.1 rfl rfl rfl (Nat.le_of_ble_eq_true rfl) d_T_seek_47 ⟨by decide, by decide⟩ ?_
      intro v_M_M1_39_47 s_M_M1_39_47 M_M_M1_39_47 hp_M_M1_39_47
      obtain ⟨rfl, rfl, ho_M_M1_39_47, H_M_M1_39_47⟩ := hp_M_M1_39_47
      have hk0_M_M1_39_47 := (ho_M_M1_39_47 _ (by omega)).trans hk0_M1_39
      have hk1_M_M1_39_47 := (ho_M_M1_39_47 _ (by omega)).trans hk1_M1_39
      have hk2_M_M1_39_47 := (ho_M_M1_39_47 _ (by omega)).trans hk2_M1_39
      show Z _ _ _ _ _ _ _ _ 50 _ []
      refine z_aload_n C d_T_seek_50 rfl rfl ?_
      refine z_bipush (v := nI 41) C d_T_seek_51 (by decide) ?_
      refine z_callV (rest := []) (n := 1) (As := [.int (nI 41)]) C (t_put E X.2.1 sz _ H_M_M1_39_47 41 (by have := H_M_M1_39_47.2.2; simp only [List.length_append, List.length_singleton, List.length_nil] at *; omega)) ⟨z_cb C k_T_put ml_T_37 ii_T rfl rfl (by decide +kernel) ⟨by decide, by decide⟩, C.2.2.2.2.1 _ im_T_put, C.2.2.2.2.1 _ se_T_put⟩ H_M_M1_39_47.1 rfl rfl rfl (Nat.le_of_ble_eq_true rfl) d_T_seek_53 ⟨by decide, by decide⟩ ?_
      intro v_M_M_M1_39_47_53 s_M_M_M1_39_47_53 M_M_M_M1_39_47_53 hp_M_M_M1_39_47_53
      obtain ⟨rfl, rfl, ho_M_M_M1_39_47_53, H_M_M_M1_39_47_53⟩ := hp_M_M_M1_39_47_53
      have hk0_M_M_M1_39_47_53 := (ho_M_M_M1_39_47_53 _ (by omega)).trans hk0_M_M1_39_47
      have hk1_M_M_M1_39_47_53 := (ho_M_M_M1_39_47_53 _ (by omega)).trans hk1_M_M1_39_47
      have hk2_M_M_M1_39_47_53 := (ho_M_M_M1_39_47_53 _ (by omega)).trans hk2_M_M1_39_47
      show Z _ _ _ _ _ _ _ _ 56 _ []
      refine z_aload_n C d_T_seek_56 rfl rfl ?_
      refine z_bipush (v := nI 47) C d_T_seek_57 (by decide) ?_
      refine z_callV (rest := []) (n := 1) (As := [.int (nI 47)]) C (t_put E X.2.1 sz _ H_M_M_M1_39_47_53 47 (by have := H_M_M_M1_39_47_53.2.2; simp only [List.length_append, List.length_singleton, List.length_nil] at *; omega)) ⟨z_cb C k_T_put ml_T_37 ii_T rfl rfl (by decide +kernel) ⟨by decide, by decide⟩, C.2.2.2.2.1 _ im_T_put, C.2.2.2.2.1 _ se_T_put⟩ H_M_M_M1_39_47_53.1 rfl rfl rfl (Nat.le_of_ble_eq_true rfl) d_T_seek_59 ⟨by decide, by decide⟩ ?_
      intro v_M_M_M_M1_39_47_53_59 s_M_M_M_M1_39_47_53_59 M_M_M_M_M1_39_47_53_59 hp_M_M_M_M1_39_47_53_59
      obtain ⟨rfl, rfl, ho_M_M_M_M1_39_47_53_59, H_M_M_M_M1_39_47_53_59⟩ := hp_M_M_M_M1_39_47_53_59
      have hk0_M_M_M_M1_39_47_53_59 := (ho_M_M_M_M1_39_47_53_59 _ (by omega)).trans hk0_M_M_M1_39_47_53
      have hk1_M_M_M_M1_39_47_53_59 := (ho_M_M_M_M1_39_47_53_59 _ (by omega)).trans hk1_M_M_M1_39_47_53
      have hk2_M_M_M_M1_39_47_53_59 := (ho_M_M_M_M1_39_47_53_59 _ (by omega)).trans hk2_M_M_M1_39_47_53
      show Z _ _ _ _ _ _ _ _ 62 _ []
      refine z_aload_n C d_T_seek_62 rfl rfl ?_
      refine z_bipush (v := nI 40) C d_T_seek_63 (by decide) ?_
      refine z_callV (rest := []) (n := 1) (As := [.int (nI 40)]) C (t_put E X.2.1 sz _ H_M_M_M_M1_39_47_53_59 40 (by have := H_M_M_M_M1_39_47_53_59.2.2; simp only [List.length_append, List.length_singleton, List.length_nil] at *; omega)) ⟨z_cb C k_T_put ml_T_37 ii_T rfl rfl (by decide +kernel) ⟨by decide, by decide⟩, C.2.2.2.2.1 _ im_T_put, C.2.2.2.2.1 _ se_T_put⟩ H_M_M_M_M1_39_47_53_59.1 rfl rfl rfl (Nat.le_of_ble_eq_true rfl) d_T_seek_65 ⟨by decide, by decide⟩ ?_
      intro v_M_M_M_M_M1_39_47_53_59_65 s_M_M_M_M_M1_39_47_53_59_65 M_M_M_M_M_M1_39_47_53_59_65 hp_M_M_M_M_M1_39_47_53_59_65
      obtain ⟨rfl, rfl, ho_M_M_M_M_M1_39_47_53_59_65, H_M_M_M_M_M1_39_47_53_59_65⟩ := hp_M_M_M_M_M1_39_47_53_59_65
      have hk0_M_M_M_M_M1_39_47_53_59_65 := (ho_M_M_M_M_M1_39_47_53_59_65 _ (by omega)).trans hk0_M_M_M_M1_39_47_53_59
      have hk1_M_M_M_M_M1_39_47_53_59_65 := (ho_M_M_M_M_M1_39_47_53_59_65 _ (by omega)).trans hk1_M_M_M_M1_39_47_53_59
      have hk2_M_M_M_M_M1_39_47_53_59_65 := (ho_M_M_M_M_M1_39_47_53_59_65 _ (by omega)).trans hk2_M_M_M_M1_39_47_53_59
      show Z _ _ _ _ _ _ _ _ 68 _ []
      refine z_aload_n C d_T_seek_68 rfl rfl ?_
      refine z_aload_n C d_T_seek_69 rfl rfl ?_
      refine z_getN C in_F hk0_M_M_M_M_M1_39_47_53_59_65 rfl 1 (by decide) fl_T_19 rfl rfl d_T_seek_70 ?_
      refine z_callV (rest := []) (n := 1) (As := [.ref (q + 3)]) C (t_spell E X.2.1 sz _ H_M_M_M_M_M1_39_47_53_59_65 (zp_kept hF.2.2 ((fun q hq => (ho_M_M_M_M_M1_39_47_53_59_65 q hq).trans ((fun q hq => (ho_M_M_M_M1_39_47_53_59 q hq).trans ((fun q hq => (ho_M_M_M1_39_47_53 q hq).trans ((fun q hq => (ho_M_M1_39_47 q hq).trans ((fun q hq => (ho_M1_39 q hq).trans (hfr q hq)) q hq)) q hq)) q hq)) q hq)) _ (by omega)) ((fun q hq => (ho_M_M_M_M_M1_39_47_53_59_65 q hq).trans ((fun q hq => (ho_M_M_M_M1_39_47_53_59 q hq).trans ((fun q hq => (ho_M_M_M1_39_47_53 q hq).trans ((fun q hq => (ho_M_M1_39_47 q hq).trans ((fun q hq => (ho_M1_39 q hq).trans (hfr q hq)) q hq)) q hq)) q hq)) q hq)) _ (by omega))) (by omega) (by omega) (by omega) (by simp only [List.length_append, List.length_singleton, List.length_nil] at *; omega)) ⟨z_cb C k_T_spell ml_T_33 ii_T rfl rfl (by decide +kernel) ⟨by decide, by decide⟩, C.2.2.2.2.1 _ im_T_spell, C.2.2.2.2.1 _ se_T_spell⟩ H_M_M_M_M_M1_39_47_53_59_65.1 rfl rfl rfl (Nat.le_of_ble_eq_true rfl) d_T_seek_73 ⟨by decide, by decide⟩ ?_
      intro v_M_M_M_M_M_M1_39_47_53_59_65_73 s_M_M_M_M_M_M1_39_47_53_59_65_73 M_M_M_M_M_M_M1_39_47_53_59_65_73 hp_M_M_M_M_M_M1_39_47_53_59_65_73
      obtain ⟨rfl, rfl, ho_M_M_M_M_M_M1_39_47_53_59_65_73, H_M_M_M_M_M_M1_39_47_53_59_65_73⟩ := hp_M_M_M_M_M_M1_39_47_53_59_65_73
      have hk0_M_M_M_M_M_M1_39_47_53_59_65_73 := (ho_M_M_M_M_M_M1_39_47_53_59_65_73 _ (by omega)).trans hk0_M_M_M_M_M1_39_47_53_59_65
      have hk1_M_M_M_M_M_M1_39_47_53_59_65_73 := (ho_M_M_M_M_M_M1_39_47_53_59_65_73 _ (by omega)).trans hk1_M_M_M_M_M1_39_47_53_59_65
      have hk2_M_M_M_M_M_M1_39_47_53_59_65_73 := (ho_M_M_M_M_M_M1_39_47_53_59_65_73 _ (by omega)).trans hk2_M_M_M_M_M1_39_47_53_59_65
      show Z _ _ _ _ _ _ _ _ 76 _ []
      refine z_aload_n C d_T_seek_76 rfl rfl ?_
      refine z_bipush (v := nI 41) C d_T_seek_77 (by decide) ?_
      refine z_callV (rest := []) (n := 1) (As := [.int (nI 41)]) C (t_put E X.2.1 sz _ H_M_M_M_M_M_M1_39_47_53_59_65_73 41 (by have := H_M_M_M_M_M_M1_39_47_53_59_65_73.2.2; simp only [List.length_append, List.length_singleton, List.length_nil] at *; omega)) ⟨z_cb C k_T_put ml_T_37 ii_T rfl rfl (by decide +kernel) ⟨by decide, by decide⟩, C.2.2.2.2.1 _ im_T_put, C.2.2.2.2.1 _ se_T_put⟩ H_M_M_M_M_M_M1_39_47_53_59_65_73.1 rfl rfl rfl (Nat.le_of_ble_eq_true rfl) d_T_seek_79 ⟨by decide, by decide⟩ ?_
      intro v_M_M_M_M_M_M_M1_39_47_53_59_65_73_79 s_M_M_M_M_M_M_M1_39_47_53_59_65_73_79 M_M_M_M_M_M_M_M1_39_47_53_59_65_73_79 hp_M_M_M_M_M_M_M1_39_47_53_59_65_73_79
      obtain ⟨rfl, rfl, ho_M_M_M_M_M_M_M1_39_47_53_59_65_73_79, H_M_M_M_M_M_M_M1_39_47_53_59_65_73_79⟩ := hp_M_M_M_M_M_M_M1_39_47_53_59_65_73_79
      have hk0_M_M_M_M_M_M_M1_39_47_53_59_65_73_79 := (ho_M_M_M_M_M_M_M1_39_47_53_59_65_73_79 _ (by omega)).trans hk0_M_M_M_M_M_M1_39_47_53_59_65_73
      have hk1_M_M_M_M_M_M_M1_39_47_53_59_65_73_79 := (ho_M_M_M_M_M_M_M1_39_47_53_59_65_73_79 _ (by omega)).trans hk1_M_M_M_M_M_M1_39_47_53_59_65_73
      have hk2_M_M_M_M_M_M_M1_39_47_53_59_65_73_79 := (ho_M_M_M_M_M_M_M1_39_47_53_59_65_73_79 _ (by omega)).trans hk2_M_M_M_M_M_M1_39_47_53_59_65_73
      show Z _ _ _ _ _ _ _ _ 82 _ []
      refine z_aload_n C d_T_seek_82 rfl rfl ?_
      refine z_get C in_T H_M_M_M_M_M_M_M1_39_47_53_59_65_73_79.1 rfl 2 (by decide) fl_T_16 rfl rfl d_T_seek_83 ?_
      have e : txtF N D kn kd = [] ++ [40] ++ txtP N kn ++ [41] ++ [47] ++ [40] ++ txtP D kd ++ [41] := by
        unfold txtF
        rw [if_neg c_22, List.nil_append]
      exact z_iret C ⟨by rw [e], rfl, (fun q hq => (ho_M_M_M_M_M_M_M1_39_47_53_59_65_73_79 q hq).trans ((fun q hq => (ho_M_M_M_M_M_M1_39_47_53_59_65_73 q hq).trans ((fun q hq => (ho_M_M_M_M_M1_39_47_53_59_65 q hq).trans ((fun q hq => (ho_M_M_M_M1_39_47_53_59 q hq).trans ((fun q hq => (ho_M_M_M1_39_47_53 q hq).trans ((fun q hq => (ho_M_M1_39_47 q hq).trans ((fun q hq => (ho_M1_39 q hq).trans (hfr q hq)) q hq)) q hq)) q hq)) q hq)) q hq)) q hq)), _, _, _, H_M_M_M_M_M_M_M1_39_47_53_59_65_73_79.1⟩ d_T_seek_86
    · have c_22 : kd = 1 := (tI_eq (by omega) (by decide)).mp (c_22.trans (by decide : (0 : Int32) = tI 1))
      refine z_aload_n C d_T_seek_25 rfl rfl ?_
      refine z_aload_n C d_T_seek_26 rfl rfl ?_
      refine z_getN C in_F hF1.1 rfl 0 (by decide) fl_T_30 rfl rfl d_T_seek_27 ?_
      refine z_callV (rest := []) (n := 1) (As := [.ref (q + 1)]) C (t_spell E X.2.1 sz _ H1 (zp_kept hF.2.1 (hfr _ (by omega)) (hfr _ (by omega))) (by omega) (by omega) (by omega) (by simp only [List.length_append, List.length_singleton, List.length_nil] at *; omega)) ⟨z_cb C k_T_spell ml_T_33 ii_T rfl rfl (by decide +kernel) ⟨by decide, by decide⟩, C.2.2.2.2.1 _ im_T_spell, C.2.2.2.2.1 _ se_T_spell⟩ H1.1 rfl rfl rfl (Nat.le_of_ble_eq_true rfl) d_T_seek_30 ⟨by decide, by decide⟩ ?_
      intro v_M1_30 s_M1_30 M_M1_30 hp_M1_30
      obtain ⟨rfl, rfl, ho_M1_30, H_M1_30⟩ := hp_M1_30
      have hk0_M1_30 := (ho_M1_30 _ (by omega)).trans hF1.1
      have hk1_M1_30 := (ho_M1_30 _ (by omega)).trans (zp_c0 hF1.2.1)
      have hk2_M1_30 := (ho_M1_30 _ (by omega)).trans (zp_c0 hF1.2.2)
      show Z _ _ _ _ _ _ _ _ 33 _ []
      refine z_goto (tgt := 82) C d_T_seek_33 (by decide) ?_
      refine z_aload_n C d_T_seek_82 rfl rfl ?_
      refine z_get C in_T H_M1_30.1 rfl 2 (by decide) fl_T_16 rfl rfl d_T_seek_83 ?_
      have e : txtF N D kn kd = [] ++ txtP N kn := by
        unfold txtF
        rw [if_pos c_22, List.nil_append]
      exact z_iret C ⟨by rw [e], rfl, (fun q hq => (ho_M1_30 q hq).trans (hfr q hq)), _, _, _, H_M1_30.1⟩ d_T_seek_86
  refine z_aload_n C d_T_seek_0 rfl rfl ?_
  refine z_iload_n C d_T_seek_1 rfl rfl ?_
  refine z_put C in_T ty_T tok_T nm_T h0 rfl 0 (by decide) fl_T_7 rfl rfl rfl (rfl) (rfl) (Nat.le_of_ble_eq_true rfl) d_T_seek_2 ?_
  show Z _ _ _ _ _ _ _ (zU M t (.inr (7, [.int (nI W), .int u0, .int f0]))) _ _ _
  refine z_aload_n C d_T_seek_5 rfl rfl ?_
  refine z_iconst (v := nI 0) C d_T_seek_6 (by decide) ?_
  refine z_put C in_T ty_T tok_T nm_T zU_eq rfl 1 (by decide) fl_T_13 rfl rfl rfl (rfl) (rfl) (Nat.le_of_ble_eq_true rfl) d_T_seek_7 ?_
  show Z _ _ _ _ _ _ _ (zU (zU M t (.inr (7, [.int (nI W), .int u0, .int f0]))) t (.inr (7, [.int (nI W), .int (nI 0), .int f0]))) _ _ _
  refine z_world zU_uu ?_
  refine z_aload_n C d_T_seek_10 rfl rfl ?_
  refine z_iconst (v := nI 0) C d_T_seek_11 (by decide) ?_
  refine z_put C in_T ty_T tok_T nm_T zU_eq rfl 2 (by decide) fl_T_16 rfl rfl rfl (rfl) (rfl) (Nat.le_of_ble_eq_true rfl) d_T_seek_12 ?_
  show Z _ _ _ _ _ _ _ (zU (zU M t (.inr (7, [.int (nI W), .int (nI 0), .int f0]))) t (.inr (7, [.int (nI W), .int (nI 0), .int (nI 0)]))) _ _ _
  refine z_world zU_uu ?_
  refine go _ (fun x hx => zU_ne hx) ⟨zU_eq, hW, by decide⟩
