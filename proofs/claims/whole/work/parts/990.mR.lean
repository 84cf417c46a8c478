set_option maxHeartbeats 4000000 in
/-- M_emit -/
theorem m_emit (E : zE) (l : Launch) (sz : Nat) (M : zM) {m : Nat} {xln : Nat → Nat} {xlen : Nat} {xlab : Nat} {xbad : Int32} {xlev : Nat} {xtr : Int32} {xwa : Nat} {xsf : Nat → Nat} {xbf : Nat → Nat} {xF : Nat → FF} {xG : Nat → FF} {xP : Nat → FF} {xQ : Nat → FF} {xmm : Nat → FF} {xsl : Nat → Nat} {xkd : Nat → Nat} {xhs : Nat → Nat} {xht : Nat → Nat} {xsg : Nat → Nat} {xdv : Nat → Nat} {ls : List Nat} (H : mw E M m xln xlen xlab xbad xlev xtr xwa ((ls).length) ((ls).getD xwa 0) xsf xbf xF xG xP xQ xmm xsl xkd xhs xht xsg xdv) (hwa : xwa < 2 ^ 31) (c : Nat) (hl : ls.length + 1 < 2 ^ 20) : zMet E l y_M_emit c_M_emit 2 none { frames := 0, cells := 0, slots := 0, locals := 0 } 0 0 [.ref m, .int (nI c)] sz M (fun v s M' => none = v ∧ sz = s ∧ zoutR M M' m (m + 15) ∧ mw E M' m xln xlen xlab xbad xlev xtr xwa ((ls ++ [c]).length) ((ls ++ [c]).getD xwa 0) xsf xbf xF xG xP xQ xmm xsl xkd xhs xht xsg xdv) := by
  refine zMet.ofZ (by decide) (Nat.le_of_ble_eq_true rfl) ?_
  intro X hl hini C
  show Z X E 2 _ 0 0 sz M 0 [(0, .ref m), (1, .int (nI c))] []
  refine z_aload_n C d_M_emit_0 rfl rfl ?_
  refine z_get C in_M H.1 rfl 7 (by decide) fl_M_208 rfl rfl d_M_emit_1 ?_
  refine z_aload_n C d_M_emit_4 rfl rfl ?_
  refine z_get C in_M H.1 rfl 6 (by decide) fl_M_211 rfl rfl d_M_emit_5 ?_
  refine z_icmp_ne (tgt := 16) C d_M_emit_8 (by decide) (fun c_8 => ?_) (fun c_8 => ?_)
  · have c_8 : ¬ ((ls).length) = xwa := fun q => c_8 (congrArg nI q)
    refine z_aload_n C d_M_emit_16 rfl rfl ?_
    refine z_dup C d_M_emit_17 rfl ?_
    refine z_get C in_M H.1 rfl 7 (by decide) fl_M_208 rfl rfl d_M_emit_18 ?_
    refine z_iconst (v := nI 1) C d_M_emit_21 (by decide) ?_
    refine z_iadd C d_M_emit_22 ?_
    refine z_top (y := nI (((ls).length) + 1)) (nI_add _ _) ?_
    refine z_put C in_M ty_M tok_M nm_M H.1 rfl 7 (by decide) fl_M_208 rfl rfl rfl (rfl) (rfl) (Nat.le_of_ble_eq_true rfl) d_M_emit_23 ?_
    show Z _ _ _ _ _ _ _ (zU M m (.inr (10, [.ref (m + 1), .int (nI xlen), .int (nI xlab), .int xbad, .int (nI xlev), .int xtr, .int (nI xwa), .int (nI (((ls).length) + 1)), .int (nI ((ls).getD xwa 0)), .ref (m + 2), .ref (m + 3), .ref (m + 4), .ref (m + 5), .ref (m + 6), .ref (m + 7), .ref (m + 8), .ref (m + 9), .ref (m + 10), .ref (m + 11), .ref (m + 12), .ref (m + 13), .ref (m + 14)]))) _ _ _
    have e1 : (ls ++ [c]).length = ls.length + 1 := by rw [List.length_append]; rfl
    have e2 : (ls ++ [c]).getD xwa 0 = ls.getD xwa 0 := by rw [getD_ap, if_neg c_8]
    refine z_vret C ⟨rfl, rfl, (zoutR_tr zoutR_rf (zo_u (by omega) (by omega))), ?_⟩ d_M_emit_26
    rw [e1, e2]
    exact (mw_o H xlen xlab xbad xlev xtr xwa (((ls).length) + 1) ((ls).getD xwa 0))
  · have c_8 : ((ls).length) = xwa := (nI_eq (a := ((ls).length)) (b := xwa) (by omega) (by omega)).mp c_8
    refine z_aload_n C d_M_emit_11 rfl rfl ?_
    refine z_iload_n C d_M_emit_12 rfl rfl ?_
    refine z_put C in_M ty_M tok_M nm_M H.1 rfl 8 (by decide) fl_M_214 rfl rfl rfl (rfl) (rfl) (Nat.le_of_ble_eq_true rfl) d_M_emit_13 ?_
    show Z _ _ _ _ _ _ _ (zU M m (.inr (10, [.ref (m + 1), .int (nI xlen), .int (nI xlab), .int xbad, .int (nI xlev), .int xtr, .int (nI xwa), .int (nI ((ls).length)), .int (nI c), .ref (m + 2), .ref (m + 3), .ref (m + 4), .ref (m + 5), .ref (m + 6), .ref (m + 7), .ref (m + 8), .ref (m + 9), .ref (m + 10), .ref (m + 11), .ref (m + 12), .ref (m + 13), .ref (m + 14)]))) _ _ _
    refine z_aload_n C d_M_emit_16 rfl rfl ?_
    refine z_dup C d_M_emit_17 rfl ?_
    refine z_get C in_M zU_eq rfl 7 (by decide) fl_M_208 rfl rfl d_M_emit_18 ?_
    refine z_iconst (v := nI 1) C d_M_emit_21 (by decide) ?_
    refine z_iadd C d_M_emit_22 ?_
    refine z_top (y := nI (((ls).length) + 1)) (nI_add _ _) ?_
    refine z_put C in_M ty_M tok_M nm_M zU_eq rfl 7 (by decide) fl_M_208 rfl rfl rfl (rfl) (rfl) (Nat.le_of_ble_eq_true rfl) d_M_emit_23 ?_
    show Z _ _ _ _ _ _ _ (zU (zU M m (.inr (10, [.ref (m + 1), .int (nI xlen), .int (nI xlab), .int xbad, .int (nI xlev), .int xtr, .int (nI xwa), .int (nI ((ls).length)), .int (nI c), .ref (m + 2), .ref (m + 3), .ref (m + 4), .ref (m + 5), .ref (m + 6), .ref (m + 7), .ref (m + 8), .ref (m + 9), .ref (m + 10), .ref (m + 11), .ref (m + 12), .ref (m + 13), .ref (m + 14)]))) m (.inr (10, [.ref (m + 1), .int (nI xlen), .int (nI xlab), .int xbad, .int (nI xlev), .int xtr, .int (nI xwa), .int (nI (((ls).length) + 1)), .int (nI c), .ref (m + 2), .ref (m + 3), .ref (m + 4), .ref (m + 5), .ref (m + 6), .ref (m + 7), .ref (m + 8), .ref (m + 9), .ref (m + 10), .ref (m + 11), .ref (m + 12), .ref (m + 13), .ref (m + 14)]))) _ _ _
    refine z_world zU_uu ?_
    have e1 : (ls ++ [c]).length = ls.length + 1 := by rw [List.length_append]; rfl
    have e2 : (ls ++ [c]).getD xwa 0 = c := by rw [getD_ap, if_pos c_8]
    refine z_vret C ⟨rfl, rfl, (zoutR_tr zoutR_rf (zo_u (by omega) (by omega))), ?_⟩ d_M_emit_26
    rw [e1, e2]
    exact (mw_o H xlen xlab xbad xlev xtr xwa (((ls).length) + 1) c)
set_option maxHeartbeats 4000000 in
/-- M_emitNumber -/
theorem m_emitNumber (E : zE) (l : Launch) (sz : Nat) (M : zM) {m : Nat} {xln : Nat → Nat} {xlen : Nat} {xlab : Nat} {xbad : Int32} {xlev : Nat} {xtr : Int32} {xwa : Nat} {xsf : Nat → Nat} {xbf : Nat → Nat} {xF : Nat → FF} {xG : Nat → FF} {xP : Nat → FF} {xQ : Nat → FF} {xmm : Nat → FF} {xsl : Nat → Nat} {xkd : Nat → Nat} {xhs : Nat → Nat} {xht : Nat → Nat} {xsg : Nat → Nat} {xdv : Nat → Nat} {ls : List Nat} (H : mw E M m xln xlen xlab xbad xlev xtr xwa ((ls).length) ((ls).getD xwa 0) xsf xbf xF xG xP xQ xmm xsl xkd xhs xht xsg xdv) (hwa : xwa < 2 ^ 31) (c : Nat) (hc : c < 2 ^ 20) (hc1 : 1 ≤ c) (hl : ls.length + 6 < 2 ^ 20) : zMet E l y_M_emitNumber c_M_emitNumber 3 none { frames := 1, cells := 0, slots := 0, locals := 21 } 0 0 [.ref m, .int (nI c)] sz M (fun v s M' => none = v ∧ sz = s ∧ zoutR M M' m (m + 15) ∧ mw E M' m xln xlen xlab xbad xlev xtr xwa ((ls ++ sn c).length) ((ls ++ sn c).getD xwa 0) xsf xbf xF xG xP xQ xmm xsl xkd xhs xht xsg xdv) := by
  refine zMet.ofZ (by decide) (Nat.le_of_ble_eq_true rfl) ?_
  intro X hl hini C
  have k0 : ∀ (M1 : zM) (l1 : List Nat), l1.length + 0 ≤ ls.length + 5 → zoutR M M1 m (m + 15) → mw E M1 m xln xlen xlab xbad xlev xtr xwa ((l1).length) ((l1).getD xwa 0) xsf xbf xF xG xP xQ xmm xsl xkd xhs xht xsg xdv → ls ++ sn c = l1 ++ snd c 0 0 → Z X E 3 (zQ X E 0 0 (fun v s M' => none = v ∧ sz = s ∧ zoutR M M' m (m + 15) ∧ mw E M' m xln xlen xlab xbad xlev xtr xwa ((ls ++ sn c).length) ((ls ++ sn c).getD xwa 0) xsf xbf xF xG xP xQ xmm xsl xkd xhs xht xsg xdv)) 0 0 sz M1 4 [(0, .ref m), (1, .int (nI c)), (2, .int (nI 0))] [] := by
    intro M1 l1 hll hz1 H1 e1
    refine z_iload_n C d_M_emitNumber_4 rfl rfl ?_
    refine z_if_le (tgt := 39) C d_M_emitNumber_5 (by decide) (fun _ => ?_) (fun c_5 => absurd (by decide) c_5)
    refine z_vret C ⟨rfl, rfl, hz1, ?_⟩ d_M_emitNumber_39
    rw [e1, show snd c 0 0 = [] from rfl, List.append_nil]
    exact H1
  have k1 : ∀ (M1 : zM) (l1 : List Nat), l1.length + 1 ≤ ls.length + 5 → zoutR M M1 m (m + 15) → mw E M1 m xln xlen xlab xbad xlev xtr xwa ((l1).length) ((l1).getD xwa 0) xsf xbf xF xG xP xQ xmm xsl xkd xhs xht xsg xdv → ls ++ sn c = l1 ++ snd c 1 1 → Z X E 3 (zQ X E 0 0 (fun v s M' => none = v ∧ sz = s ∧ zoutR M M' m (m + 15) ∧ mw E M' m xln xlen xlab xbad xlev xtr xwa ((ls ++ sn c).length) ((ls ++ sn c).getD xwa 0) xsf xbf xF xG xP xQ xmm xsl xkd xhs xht xsg xdv)) 0 0 sz M1 4 [(0, .ref m), (1, .int (nI c)), (2, .int (nI 1))] [] := by
    intro M1 l1 hll hz1 H1 e1
    refine z_iload_n C d_M_emitNumber_4 rfl rfl ?_
    refine z_if_le (tgt := 39) C d_M_emitNumber_5 (by decide) (fun c_5 => absurd c_5 (by decide)) (fun _ => ?_)
    refine z_iload_n C d_M_emitNumber_8 rfl rfl ?_
    refine z_iload_n C d_M_emitNumber_9 rfl rfl ?_
    refine z_icmp_ge (tgt := 18) C d_M_emitNumber_10 (by decide) (fun _ => ?_) (fun c_10 => absurd ((nI_leI (a := 1) (b := c) (by omega) (by omega)).mpr hc1) c_10)
    refine z_aload_n C d_M_emitNumber_18 rfl rfl ?_
    refine z_bipush (v := nI 48) C d_M_emitNumber_19 (by decide) ?_
    refine z_iload_n C d_M_emitNumber_21 rfl rfl ?_
    refine z_iload_n C d_M_emitNumber_22 rfl rfl ?_
    refine z_idiv C d_M_emitNumber_23 (by decide) ?_
    refine z_top (y := nI (c / 1)) (pk_div (by omega) (by decide) (by decide)) ?_
    refine z_bipush (v := nI 10) C d_M_emitNumber_24 (by decide) ?_
    refine z_irem C d_M_emitNumber_26 (by decide) ?_
    refine z_top (y := nI ((c / 1) % 10)) (pk_rem (by omega) (by decide) (by decide)) ?_
    refine z_iadd C d_M_emitNumber_27 ?_
    refine z_top (y := nI (48 + ((c / 1) % 10))) (nI_add _ _) ?_
    refine z_callV (rest := []) (n := 1) (As := [.int (nI (48 + ((c / 1) % 10)))]) C (m_emit E X.2.1 sz _ H1 hwa (48 + ((c / 1) % 10)) (by simp only [List.length_append, List.length_singleton, List.length_nil] at *; omega)) ⟨z_cb C k_M_emit ml_M_217 ii_M rfl rfl (by decide +kernel) ⟨by decide, by decide⟩, C.2.2.2.2.1 _ im_M_emit, C.2.2.2.2.1 _ se_M_emit⟩ H1.1 rfl rfl rfl (Nat.le_of_ble_eq_true rfl) d_M_emitNumber_28 ⟨by decide, by decide⟩ ?_
    intro v_M1_28 s_M1_28 M_M1_28 hp_M1_28
    obtain ⟨rfl, rfl, ho_M1_28, H_M1_28⟩ := hp_M1_28
    have hz_M1_28 : zoutR M M_M1_28 m (m + 15) := zoutR_tr hz1 ho_M1_28
    show Z _ _ _ _ _ _ _ _ 31 _ []
    refine z_iload_n C d_M_emitNumber_31 rfl rfl ?_
    refine z_bipush (v := nI 10) C d_M_emitNumber_32 (by decide) ?_
    refine z_idiv C d_M_emitNumber_34 (by decide) ?_
    refine z_top (y := nI 0) (by decide) ?_
    refine z_istore_n (L' := [(0, .ref m), (1, .int (nI c)), (2, .int (nI 0))]) C d_M_emitNumber_35 rfl (by decide) rfl ?_
    refine z_goto (tgt := 4) C d_M_emitNumber_36 (by decide) ?_
    refine k0 _ (l1 ++ [(48 + ((c / 1) % 10))]) (by simp; omega) hz_M1_28 H_M1_28 ?_
    rw [e1, show snd c 1 1 = (if 1 ≤ c then [48 + c / 1 % 10] else []) ++ snd c 0 0 from rfl, if_pos (by omega), List.append_assoc]
  have k2 : ∀ (M1 : zM) (l1 : List Nat), l1.length + 2 ≤ ls.length + 5 → zoutR M M1 m (m + 15) → mw E M1 m xln xlen xlab xbad xlev xtr xwa ((l1).length) ((l1).getD xwa 0) xsf xbf xF xG xP xQ xmm xsl xkd xhs xht xsg xdv → ls ++ sn c = l1 ++ snd c 2 10 → Z X E 3 (zQ X E 0 0 (fun v s M' => none = v ∧ sz = s ∧ zoutR M M' m (m + 15) ∧ mw E M' m xln xlen xlab xbad xlev xtr xwa ((ls ++ sn c).length) ((ls ++ sn c).getD xwa 0) xsf xbf xF xG xP xQ xmm xsl xkd xhs xht xsg xdv)) 0 0 sz M1 4 [(0, .ref m), (1, .int (nI c)), (2, .int (nI 10))] [] := by
    intro M1 l1 hll hz1 H1 e1
    refine z_iload_n C d_M_emitNumber_4 rfl rfl ?_
    refine z_if_le (tgt := 39) C d_M_emitNumber_5 (by decide) (fun c_5 => absurd c_5 (by decide)) (fun _ => ?_)
    refine z_iload_n C d_M_emitNumber_8 rfl rfl ?_
    refine z_iload_n C d_M_emitNumber_9 rfl rfl ?_
    refine z_icmp_ge (tgt := 18) C d_M_emitNumber_10 (by decide) (fun c_10 => ?_) (fun c_10 => ?_)
    · have c_10 : 10 ≤ c := (nI_leI (a := 10) (b := c) (by omega) (by omega)).mp c_10
      refine z_aload_n C d_M_emitNumber_18 rfl rfl ?_
      refine z_bipush (v := nI 48) C d_M_emitNumber_19 (by decide) ?_
      refine z_iload_n C d_M_emitNumber_21 rfl rfl ?_
      refine z_iload_n C d_M_emitNumber_22 rfl rfl ?_
      refine z_idiv C d_M_emitNumber_23 (by decide) ?_
      refine z_top (y := nI (c / 10)) (pk_div (by omega) (by decide) (by decide)) ?_
      refine z_bipush (v := nI 10) C d_M_emitNumber_24 (by decide) ?_
      refine z_irem C d_M_emitNumber_26 (by decide) ?_
      refine z_top (y := nI ((c / 10) % 10)) (pk_rem (by omega) (by decide) (by decide)) ?_
      refine z_iadd C d_M_emitNumber_27 ?_
      refine z_top (y := nI (48 + ((c / 10) % 10))) (nI_add _ _) ?_
      refine z_callV (rest := []) (n := 1) (As := [.int (nI (48 + ((c / 10) % 10)))]) C (m_emit E X.2.1 sz _ H1 hwa (48 + ((c / 10) % 10)) (by simp only [List.length_append, List.length_singleton, List.length_nil] at *; omega)) ⟨z_cb C k_M_emit ml_M_217 ii_M rfl rfl (by decide +kernel) ⟨by decide, by decide⟩, C.2.2.2.2.1 _ im_M_emit, C.2.2.2.2.1 _ se_M_emit⟩ H1.1 rfl rfl rfl (Nat.le_of_ble_eq_true rfl) d_M_emitNumber_28 ⟨by decide, by decide⟩ ?_
      intro v_M1_28 s_M1_28 M_M1_28 hp_M1_28
      obtain ⟨rfl, rfl, ho_M1_28, H_M1_28⟩ := hp_M1_28
      have hz_M1_28 : zoutR M M_M1_28 m (m + 15) := zoutR_tr hz1 ho_M1_28
      show Z _ _ _ _ _ _ _ _ 31 _ []
      refine z_iload_n C d_M_emitNumber_31 rfl rfl ?_
      refine z_bipush (v := nI 10) C d_M_emitNumber_32 (by decide) ?_
      refine z_idiv C d_M_emitNumber_34 (by decide) ?_
      refine z_top (y := nI 1) (by decide) ?_
      refine z_istore_n (L' := [(0, .ref m), (1, .int (nI c)), (2, .int (nI 1))]) C d_M_emitNumber_35 rfl (by decide) rfl ?_
      refine z_goto (tgt := 4) C d_M_emitNumber_36 (by decide) ?_
      refine k1 _ (l1 ++ [(48 + ((c / 10) % 10))]) (by simp; omega) hz_M1_28 H_M1_28 ?_
      rw [e1, show snd c 2 10 = (if 10 ≤ c then [48 + c / 10 % 10] else []) ++ snd c 1 1 from rfl, if_pos (by omega), List.append_assoc]
    · have c_10 : c < 10 := Nat.not_le.mp (fun q => c_10 ((nI_leI (a := 10) (b := c) (by omega) (by omega)).mpr q))
      refine z_iload_n C d_M_emitNumber_13 rfl rfl ?_
      refine z_iconst (v := nI 1) C d_M_emitNumber_14 (by decide) ?_
      refine z_icmp_ne (tgt := 31) C d_M_emitNumber_15 (by decide) (fun _ => ?_) (fun c_15 => absurd c_15 (by decide))
      refine z_iload_n C d_M_emitNumber_31 rfl rfl ?_
      refine z_bipush (v := nI 10) C d_M_emitNumber_32 (by decide) ?_
      refine z_idiv C d_M_emitNumber_34 (by decide) ?_
      refine z_top (y := nI 1) (by decide) ?_
      refine z_istore_n (L' := [(0, .ref m), (1, .int (nI c)), (2, .int (nI 1))]) C d_M_emitNumber_35 rfl (by decide) rfl ?_
      refine z_goto (tgt := 4) C d_M_emitNumber_36 (by decide) ?_
      refine k1 _ (l1) (by simp; omega) hz1 H1 ?_
      rw [e1, show snd c 2 10 = (if 10 ≤ c then [48 + c / 10 % 10] else []) ++ snd c 1 1 from rfl, if_neg (by omega), List.nil_append]
  have k3 : ∀ (M1 : zM) (l1 : List Nat), l1.length + 3 ≤ ls.length + 5 → zoutR M M1 m (m + 15) → mw E M1 m xln xlen xlab xbad xlev xtr xwa ((l1).length) ((l1).getD xwa 0) xsf xbf xF xG xP xQ xmm xsl xkd xhs xht xsg xdv → ls ++ sn c = l1 ++ snd c 3 100 → Z X E 3 (zQ X E 0 0 (fun v s M' => none = v ∧ sz = s ∧ zoutR M M' m (m + 15) ∧ mw E M' m xln xlen xlab xbad xlev xtr xwa ((ls ++ sn c).length) ((ls ++ sn c).getD xwa 0) xsf xbf xF xG xP xQ xmm xsl xkd xhs xht xsg xdv)) 0 0 sz M1 4 [(0, .ref m), (1, .int (nI c)), (2, .int (nI 100))] [] := by
    intro M1 l1 hll hz1 H1 e1
    refine z_iload_n C d_M_emitNumber_4 rfl rfl ?_
    refine z_if_le (tgt := 39) C d_M_emitNumber_5 (by decide) (fun c_5 => absurd c_5 (by decide)) (fun _ => ?_)
    refine z_iload_n C d_M_emitNumber_8 rfl rfl ?_
    refine z_iload_n C d_M_emitNumber_9 rfl rfl ?_
    refine z_icmp_ge (tgt := 18) C d_M_emitNumber_10 (by decide) (fun c_10 => ?_) (fun c_10 => ?_)
    · have c_10 : 100 ≤ c := (nI_leI (a := 100) (b := c) (by omega) (by omega)).mp c_10
      refine z_aload_n C d_M_emitNumber_18 rfl rfl ?_
      refine z_bipush (v := nI 48) C d_M_emitNumber_19 (by decide) ?_
      refine z_iload_n C d_M_emitNumber_21 rfl rfl ?_
      refine z_iload_n C d_M_emitNumber_22 rfl rfl ?_
      refine z_idiv C d_M_emitNumber_23 (by decide) ?_
      refine z_top (y := nI (c / 100)) (pk_div (by omega) (by decide) (by decide)) ?_
      refine z_bipush (v := nI 10) C d_M_emitNumber_24 (by decide) ?_
      refine z_irem C d_M_emitNumber_26 (by decide) ?_
      refine z_top (y := nI ((c / 100) % 10)) (pk_rem (by omega) (by decide) (by decide)) ?_
      refine z_iadd C d_M_emitNumber_27 ?_
      refine z_top (y := nI (48 + ((c / 100) % 10))) (nI_add _ _) ?_
      refine z_callV (rest := []) (n := 1) (As := [.int (nI (48 + ((c / 100) % 10)))]) C (m_emit E X.2.1 sz _ H1 hwa (48 + ((c / 100) % 10)) (by simp only [List.length_append, List.length_singleton, List.length_nil] at *; omega)) ⟨z_cb C k_M_emit ml_M_217 ii_M rfl rfl (by decide +kernel) ⟨by decide, by decide⟩, C.2.2.2.2.1 _ im_M_emit, C.2.2.2.2.1 _ se_M_emit⟩ H1.1 rfl rfl rfl (Nat.le_of_ble_eq_true rfl) d_M_emitNumber_28 ⟨by decide, by decide⟩ ?_
      intro v_M1_28 s_M1_28 M_M1_28 hp_M1_28
      obtain ⟨rfl, rfl, ho_M1_28, H_M1_28⟩ := hp_M1_28
      have hz_M1_28 : zoutR M M_M1_28 m (m + 15) := zoutR_tr hz1 ho_M1_28
      show Z _ _ _ _ _ _ _ _ 31 _ []
      refine z_iload_n C d_M_emitNumber_31 rfl rfl ?_
      refine z_bipush (v := nI 10) C d_M_emitNumber_32 (by decide) ?_
      refine z_idiv C d_M_emitNumber_34 (by decide) ?_
      refine z_top (y := nI 10) (by decide) ?_
      refine z_istore_n (L' := [(0, .ref m), (1, .int (nI c)), (2, .int (nI 10))]) C d_M_emitNumber_35 rfl (by decide) rfl ?_
      refine z_goto (tgt := 4) C d_M_emitNumber_36 (by decide) ?_
      refine k2 _ (l1 ++ [(48 + ((c / 100) % 10))]) (by simp; omega) hz_M1_28 H_M1_28 ?_
      rw [e1, show snd c 3 100 = (if 100 ≤ c then [48 + c / 100 % 10] else []) ++ snd c 2 10 from rfl, if_pos (by omega), List.append_assoc]
    · have c_10 : c < 100 := Nat.not_le.mp (fun q => c_10 ((nI_leI (a := 100) (b := c) (by omega) (by omega)).mpr q))
      refine z_iload_n C d_M_emitNumber_13 rfl rfl ?_
      refine z_iconst (v := nI 1) C d_M_emitNumber_14 (by decide) ?_
      refine z_icmp_ne (tgt := 31) C d_M_emitNumber_15 (by decide) (fun _ => ?_) (fun c_15 => absurd c_15 (by decide))
      refine z_iload_n C d_M_emitNumber_31 rfl rfl ?_
      refine z_bipush (v := nI 10) C d_M_emitNumber_32 (by decide) ?_
      refine z_idiv C d_M_emitNumber_34 (by decide) ?_
      refine z_top (y := nI 10) (by decide) ?_
      refine z_istore_n (L' := [(0, .ref m), (1, .int (nI c)), (2, .int (nI 10))]) C d_M_emitNumber_35 rfl (by decide) rfl ?_
      refine z_goto (tgt := 4) C d_M_emitNumber_36 (by decide) ?_
      refine k2 _ (l1) (by simp; omega) hz1 H1 ?_
      rw [e1, show snd c 3 100 = (if 100 ≤ c then [48 + c / 100 % 10] else []) ++ snd c 2 10 from rfl, if_neg (by omega), List.nil_append]
  have k4 : ∀ (M1 : zM) (l1 : List Nat), l1.length + 4 ≤ ls.length + 5 → zoutR M M1 m (m + 15) → mw E M1 m xln xlen xlab xbad xlev xtr xwa ((l1).length) ((l1).getD xwa 0) xsf xbf xF xG xP xQ xmm xsl xkd xhs xht xsg xdv → ls ++ sn c = l1 ++ snd c 4 1000 → Z X E 3 (zQ X E 0 0 (fun v s M' => none = v ∧ sz = s ∧ zoutR M M' m (m + 15) ∧ mw E M' m xln xlen xlab xbad xlev xtr xwa ((ls ++ sn c).length) ((ls ++ sn c).getD xwa 0) xsf xbf xF xG xP xQ xmm xsl xkd xhs xht xsg xdv)) 0 0 sz M1 4 [(0, .ref m), (1, .int (nI c)), (2, .int (nI 1000))] [] := by
    intro M1 l1 hll hz1 H1 e1
    refine z_iload_n C d_M_emitNumber_4 rfl rfl ?_
    refine z_if_le (tgt := 39) C d_M_emitNumber_5 (by decide) (fun c_5 => absurd c_5 (by decide)) (fun _ => ?_)
    refine z_iload_n C d_M_emitNumber_8 rfl rfl ?_
    refine z_iload_n C d_M_emitNumber_9 rfl rfl ?_
    refine z_icmp_ge (tgt := 18) C d_M_emitNumber_10 (by decide) (fun c_10 => ?_) (fun c_10 => ?_)
    · have c_10 : 1000 ≤ c := (nI_leI (a := 1000) (b := c) (by omega) (by omega)).mp c_10
      refine z_aload_n C d_M_emitNumber_18 rfl rfl ?_
      refine z_bipush (v := nI 48) C d_M_emitNumber_19 (by decide) ?_
      refine z_iload_n C d_M_emitNumber_21 rfl rfl ?_
      refine z_iload_n C d_M_emitNumber_22 rfl rfl ?_
      refine z_idiv C d_M_emitNumber_23 (by decide) ?_
      refine z_top (y := nI (c / 1000)) (pk_div (by omega) (by decide) (by decide)) ?_
      refine z_bipush (v := nI 10) C d_M_emitNumber_24 (by decide) ?_
      refine z_irem C d_M_emitNumber_26 (by decide) ?_
      refine z_top (y := nI ((c / 1000) % 10)) (pk_rem (by omega) (by decide) (by decide)) ?_
      refine z_iadd C d_M_emitNumber_27 ?_
      refine z_top (y := nI (48 + ((c / 1000) % 10))) (nI_add _ _) ?_
      refine z_callV (rest := []) (n := 1) (As := [.int (nI (48 + ((c / 1000) % 10)))]) C (m_emit E X.2.1 sz _ H1 hwa (48 + ((c / 1000) % 10)) (by simp only [List.length_append, List.length_singleton, List.length_nil] at *; omega)) ⟨z_cb C k_M_emit ml_M_217 ii_M rfl rfl (by decide +kernel) ⟨by decide, by decide⟩, C.2.2.2.2.1 _ im_M_emit, C.2.2.2.2.1 _ se_M_emit⟩ H1.1 rfl rfl rfl (Nat.le_of_ble_eq_true rfl) d_M_emitNumber_28 ⟨by decide, by decide⟩ ?_
      intro v_M1_28 s_M1_28 M_M1_28 hp_M1_28
      obtain ⟨rfl, rfl, ho_M1_28, H_M1_28⟩ := hp_M1_28
      have hz_M1_28 : zoutR M M_M1_28 m (m + 15) := zoutR_tr hz1 ho_M1_28
      show Z _ _ _ _ _ _ _ _ 31 _ []
      refine z_iload_n C d_M_emitNumber_31 rfl rfl ?_
      refine z_bipush (v := nI 10) C d_M_emitNumber_32 (by decide) ?_
      refine z_idiv C d_M_emitNumber_34 (by decide) ?_
      refine z_top (y := nI 100) (by decide) ?_
      refine z_istore_n (L' := [(0, .ref m), (1, .int (nI c)), (2, .int (nI 100))]) C d_M_emitNumber_35 rfl (by decide) rfl ?_
      refine z_goto (tgt := 4) C d_M_emitNumber_36 (by decide) ?_
      refine k3 _ (l1 ++ [(48 + ((c / 1000) % 10))]) (by simp; omega) hz_M1_28 H_M1_28 ?_
      rw [e1, show snd c 4 1000 = (if 1000 ≤ c then [48 + c / 1000 % 10] else []) ++ snd c 3 100 from rfl, if_pos (by omega), List.append_assoc]
    · have c_10 : c < 1000 := Nat.not_le.mp (fun q => c_10 ((nI_leI (a := 1000) (b := c) (by omega) (by omega)).mpr q))
      refine z_iload_n C d_M_emitNumber_13 rfl rfl ?_
      refine z_iconst (v := nI 1) C d_M_emitNumber_14 (by decide) ?_
      refine z_icmp_ne (tgt := 31) C d_M_emitNumber_15 (by decide) (fun _ => ?_) (fun c_15 => absurd c_15 (by decide))
      refine z_iload_n C d_M_emitNumber_31 rfl rfl ?_
      refine z_bipush (v := nI 10) C d_M_emitNumber_32 (by decide) ?_
      refine z_idiv C d_M_emitNumber_34 (by decide) ?_
      refine z_top (y := nI 100) (by decide) ?_
      refine z_istore_n (L' := [(0, .ref m), (1, .int (nI c)), (2, .int (nI 100))]) C d_M_emitNumber_35 rfl (by decide) rfl ?_
      refine z_goto (tgt := 4) C d_M_emitNumber_36 (by decide) ?_
      refine k3 _ (l1) (by simp; omega) hz1 H1 ?_
      rw [e1, show snd c 4 1000 = (if 1000 ≤ c then [48 + c / 1000 % 10] else []) ++ snd c 3 100 from rfl, if_neg (by omega), List.nil_append]
  have k5 : ∀ (M1 : zM) (l1 : List Nat), l1.length + 5 ≤ ls.length + 5 → zoutR M M1 m (m + 15) → mw E M1 m xln xlen xlab xbad xlev xtr xwa ((l1).length) ((l1).getD xwa 0) xsf xbf xF xG xP xQ xmm xsl xkd xhs xht xsg xdv → ls ++ sn c = l1 ++ snd c 5 10000 → Z X E 3 (zQ X E 0 0 (fun v s M' => none = v ∧ sz = s ∧ zoutR M M' m (m + 15) ∧ mw E M' m xln xlen xlab xbad xlev xtr xwa ((ls ++ sn c).length) ((ls ++ sn c).getD xwa 0) xsf xbf xF xG xP xQ xmm xsl xkd xhs xht xsg xdv)) 0 0 sz M1 4 [(0, .ref m), (1, .int (nI c)), (2, .int (nI 10000))] [] := by
    intro M1 l1 hll hz1 H1 e1
    refine z_iload_n C d_M_emitNumber_4 rfl rfl ?_
    refine z_if_le (tgt := 39) C d_M_emitNumber_5 (by decide) (fun c_5 => absurd c_5 (by decide)) (fun _ => ?_)
    refine z_iload_n C d_M_emitNumber_8 rfl rfl ?_
    refine z_iload_n C d_M_emitNumber_9 rfl rfl ?_
    refine z_icmp_ge (tgt := 18) C d_M_emitNumber_10 (by decide) (fun c_10 => ?_) (fun c_10 => ?_)
    · have c_10 : 10000 ≤ c := (nI_leI (a := 10000) (b := c) (by omega) (by omega)).mp c_10
      refine z_aload_n C d_M_emitNumber_18 rfl rfl ?_
      refine z_bipush (v := nI 48) C d_M_emitNumber_19 (by decide) ?_
      refine z_iload_n C d_M_emitNumber_21 rfl rfl ?_
      refine z_iload_n C d_M_emitNumber_22 rfl rfl ?_
      refine z_idiv C d_M_emitNumber_23 (by decide) ?_
      refine z_top (y := nI (c / 10000)) (pk_div (by omega) (by decide) (by decide)) ?_
      refine z_bipush (v := nI 10) C d_M_emitNumber_24 (by decide) ?_
      refine z_irem C d_M_emitNumber_26 (by decide) ?_
      refine z_top (y := nI ((c / 10000) % 10)) (pk_rem (by omega) (by decide) (by decide)) ?_
      refine z_iadd C d_M_emitNumber_27 ?_
      refine z_top (y := nI (48 + ((c / 10000) % 10))) (nI_add _ _) ?_
      refine z_callV (rest := []) (n := 1) (As := [.int (nI (48 + ((c / 10000) % 10)))]) C (m_emit E X.2.1 sz _ H1 hwa (48 + ((c / 10000) % 10)) (by simp only [List.length_append, List.length_singleton, List.length_nil] at *; omega)) ⟨z_cb C k_M_emit ml_M_217 ii_M rfl rfl (by decide +kernel) ⟨by decide, by decide⟩, C.2.2.2.2.1 _ im_M_emit, C.2.2.2.2.1 _ se_M_emit⟩ H1.1 rfl rfl rfl (Nat.le_of_ble_eq_true rfl) d_M_emitNumber_28 ⟨by decide, by decide⟩ ?_
      intro v_M1_28 s_M1_28 M_M1_28 hp_M1_28
      obtain ⟨rfl, rfl, ho_M1_28, H_M1_28⟩ := hp_M1_28
      have hz_M1_28 : zoutR M M_M1_28 m (m + 15) := zoutR_tr hz1 ho_M1_28
      show Z _ _ _ _ _ _ _ _ 31 _ []
      refine z_iload_n C d_M_emitNumber_31 rfl rfl ?_
      refine z_bipush (v := nI 10) C d_M_emitNumber_32 (by decide) ?_
      refine z_idiv C d_M_emitNumber_34 (by decide) ?_
      refine z_top (y := nI 1000) (by decide) ?_
      refine z_istore_n (L' := [(0, .ref m), (1, .int (nI c)), (2, .int (nI 1000))]) C d_M_emitNumber_35 rfl (by decide) rfl ?_
      refine z_goto (tgt := 4) C d_M_emitNumber_36 (by decide) ?_
      refine k4 _ (l1 ++ [(48 + ((c / 10000) % 10))]) (by simp; omega) hz_M1_28 H_M1_28 ?_
      rw [e1, show snd c 5 10000 = (if 10000 ≤ c then [48 + c / 10000 % 10] else []) ++ snd c 4 1000 from rfl, if_pos (by omega), List.append_assoc]
    · have c_10 : c < 10000 := Nat.not_le.mp (fun q => c_10 ((nI_leI (a := 10000) (b := c) (by omega) (by omega)).mpr q))
      refine z_iload_n C d_M_emitNumber_13 rfl rfl ?_
      refine z_iconst (v := nI 1) C d_M_emitNumber_14 (by decide) ?_
      refine z_icmp_ne (tgt := 31) C d_M_emitNumber_15 (by decide) (fun _ => ?_) (fun c_15 => absurd c_15 (by decide))
      refine z_iload_n C d_M_emitNumber_31 rfl rfl ?_
      refine z_bipush (v := nI 10) C d_M_emitNumber_32 (by decide) ?_
      refine z_idiv C d_M_emitNumber_34 (by decide) ?_
      refine z_top (y := nI 1000) (by decide) ?_
      refine z_istore_n (L' := [(0, .ref m), (1, .int (nI c)), (2, .int (nI 1000))]) C d_M_emitNumber_35 rfl (by decide) rfl ?_
      refine z_goto (tgt := 4) C d_M_emitNumber_36 (by decide) ?_
      refine k4 _ (l1) (by simp; omega) hz1 H1 ?_
      rw [e1, show snd c 5 10000 = (if 10000 ≤ c then [48 + c / 10000 % 10] else []) ++ snd c 4 1000 from rfl, if_neg (by omega), List.nil_append]
  show Z X E 3 _ 0 0 sz M 0 [(0, .ref m), (1, .int (nI c))] []
  refine z_sipush (v := nI 10000) C d_M_emitNumber_0 (by decide) ?_
  refine z_istore_n (L' := [(0, .ref m), (1, .int (nI c)), (2, .int (nI 10000))]) C d_M_emitNumber_3 rfl (by decide) rfl ?_
  exact k5 M ls (by omega) zoutR_rf H rfl
set_option maxHeartbeats 4000000 in
/-- M_emitPolynomial -/
theorem m_emitPoly0 (E : zE) (l : Launch) (sz : Nat) (M : zM) {m : Nat} {xln : Nat → Nat} {xlen : Nat} {xlab : Nat} {xbad : Int32} {xlev : Nat} {xtr : Int32} {xwa : Nat} {xsf : Nat → Nat} {xbf : Nat → Nat} {xF : Nat → FF} {xG : Nat → FF} {xP : Nat → FF} {xQ : Nat → FF} {xmm : Nat → FF} {xsl : Nat → Nat} {xkd : Nat → Nat} {xhs : Nat → Nat} {xht : Nat → Nat} {xsg : Nat → Nat} {xdv : Nat → Nat} {ls : List Nat} (H : mw E M m xln xlen xlab xbad xlev xtr xwa ((ls).length) ((ls).getD xwa 0) xsf xbf xF xG xP xQ xmm xsl xkd xhs xht xsg xdv) (hwa : xwa < 2 ^ 31) (r K : Nat) (hr : r < 78) (hK : isC (pg xF r) K) (hl : ls.length + 300 < 2 ^ 20) : zMet E l y_M_emitPolynomial c_M_emitPolynomial 6 none { frames := 2, cells := 0, slots := 0, locals := 43 } 0 0 [.ref m, .int (nI r), .int (nI 0)] sz M (fun v s M' => none = v ∧ sz = s ∧ zoutR M M' m (m + 15) ∧ mw E M' m xln xlen xlab xbad xlev xtr xwa ((ls ++ txtP (pg xF r) K).length) ((ls ++ txtP (pg xF r) K).getD xwa 0) xsf xbf xF xG xP xQ xmm xsl xkd xhs xht xsg xdv) := by
  have hK13 := isC_pg hK
  refine zMet.ofZ (by decide) (Nat.le_of_ble_eq_true rfl) ?_
  intro X hl hini C
  have loop : ∀ (k : Nat) (M1 : zM) (l1 : List Nat), k ≤ K → l1.length + 14 * k ≤ ls.length + 14 * K + 1 → zoutR M M1 m (m + 15) → mw E M1 m xln xlen xlab xbad xlev xtr xwa ((l1).length) ((l1).getD xwa 0) xsf xbf xF xG xP xQ xmm xsl xkd xhs xht xsg xdv → ls ++ txtP (pg xF r) K = l1 ++ spl (pg xF r) K k → Z X E 6 (zQ X E 0 0 (fun v s M' => none = v ∧ sz = s ∧ zoutR M M' m (m + 15) ∧ mw E M' m xln xlen xlab xbad xlev xtr xwa ((ls ++ txtP (pg xF r) K).length) ((ls ++ txtP (pg xF r) K).getD xwa 0) xsf xbf xF xG xP xQ xmm xsl xkd xhs xht xsg xdv)) 0 0 sz M1 20 [(0, .ref m), (1, .int (nI r)), (2, .int (nI 0)), (3, .int (tI K)), (4, .int (tI k))] [] := by
    intro k
    induction k with
    | zero =>
      intro M1 l1 hk hll hz1 H1 e1
      refine z_iload C d_M_emitPolynomial_20 rfl ?_
      refine z_if_lt (tgt := 150) C d_M_emitPolynomial_22 (by decide) (fun _ => ?_) (fun c_22 => absurd (by decide) c_22)
      refine z_vret C ⟨rfl, rfl, hz1, ?_⟩ d_M_emitPolynomial_150
      rw [e1, show spl (pg xF r) K 0 = [] from rfl, List.append_nil]
      exact H1
    | succ k ih =>
      intro M1 l1 hk hll hz1 H1 e1
      rw [tI_s k]
      have hf := ((pg xF r) k).isLt
      have n1 := sn_len ((pg xF r) k).val
      have n2 := sn_len k
      by_cases hz0 : ((pg xF r) k) = 0
      · refine z_iload C d_M_emitPolynomial_20 rfl ?_
        refine z_if_lt (tgt := 150) C d_M_emitPolynomial_22 (by decide) (fun c_22 => absurd c_22 (fun q => absurd ((nI_ltI (a := k) (b := 0) (by omega) (by omega)).mp q) (by omega))) (fun _ => ?_)
        refine z_iload_n C d_M_emitPolynomial_25 rfl rfl ?_
        refine z_if_eq (tgt := 44) C d_M_emitPolynomial_26 (by decide) (fun _ => ?_) (fun c_26 => absurd (rfl) c_26)
        refine z_aload_n C d_M_emitPolynomial_44 rfl rfl ?_
        refine z_get C in_M H1.1 rfl 11 (by decide) fl_M_23 rfl rfl d_M_emitPolynomial_45 ?_
        refine z_iload_n C d_M_emitPolynomial_48 rfl rfl ?_
        refine z_bipush (v := nI 13) C d_M_emitPolynomial_49 (by decide) ?_
        refine z_imul C d_M_emitPolynomial_51 ?_
        refine z_top (y := nI (r * 13)) (pk_mul _ _) ?_
        refine z_iload C d_M_emitPolynomial_52 rfl ?_
        refine z_iadd C d_M_emitPolynomial_54 ?_
        refine z_top (y := nI ((r * 13) + k)) (nI_add _ _) ?_
        refine z_iald C H1.2.2.2.2.1 0 rfl ((r * 13) + k) (rfl) (by omega) (by omega) d_M_emitPolynomial_55 ?_
        refine z_top (y := fI ((pg xF r) k)) (congrArg fI (pg_at (by omega)).symm) ?_
        refine z_istore (L' := [(0, .ref m), (1, .int (nI r)), (2, .int (nI 0)), (3, .int (tI K)), (4, .int (nI k)), (5, .int (fI ((pg xF r) k)))]) C d_M_emitPolynomial_56 (by decide) rfl ?_
        refine z_iload C d_M_emitPolynomial_58 rfl ?_
        refine z_if_eq (tgt := 144) C d_M_emitPolynomial_60 (by decide) (fun _ => ?_) (fun c_60 => absurd (fI_eq0.mpr hz0) c_60)
        refine z_iinc (v := tI k) (L' := [(0, .ref m), (1, .int (nI r)), (2, .int (nI 0)), (3, .int (tI K)), (4, .int (tI k)), (5, .int (fI ((pg xF r) k)))]) C d_M_emitPolynomial_144 rfl (nI_dec k) (by decide) rfl ?_
        refine z_goto (tgt := 20) C d_M_emitPolynomial_147 (by decide) ?_
        refine z_sub [0, 1, 2, 3, 4] rfl ?_
        refine ih _ (l1) (by omega) (by simp only [List.length_append, List.length_singleton, List.length_nil] at *; omega) hz1 H1 ?_
        rw [e1, show spl (pg xF r) K (k + 1) = (if (pg xF r) k = 0 then [] else (if k + 1 < K then [43] else []) ++ sp ((pg xF r) k).val k) ++ spl (pg xF r) K k from rfl, if_pos hz0]
        rfl
      have hv1 : 1 ≤ ((pg xF r) k).val := Nat.pos_of_ne_zero (fun q => hz0 (Fin.ext q))
      have g001 : k = 0 → ((pg xF r) k).val = 1 → k + 1 < K → Z X E 6 (zQ X E 0 0 (fun v s M' => none = v ∧ sz = s ∧ zoutR M M' m (m + 15) ∧ mw E M' m xln xlen xlab xbad xlev xtr xwa ((ls ++ txtP (pg xF r) K).length) ((ls ++ txtP (pg xF r) K).getD xwa 0) xsf xbf xF xG xP xQ xmm xsl xkd xhs xht xsg xdv)) 0 0 sz M1 20 [(0, .ref m), (1, .int (nI r)), (2, .int (nI 0)), (3, .int (tI K)), (4, .int (nI k))] [] := by
        intro hk0 hv0 hh0
        refine z_iload C d_M_emitPolynomial_20 rfl ?_
        refine z_if_lt (tgt := 150) C d_M_emitPolynomial_22 (by decide) (fun c_22 => absurd c_22 (fun q => absurd ((nI_ltI (a := k) (b := 0) (by omega) (by omega)).mp q) (by omega))) (fun _ => ?_)
        refine z_iload_n C d_M_emitPolynomial_25 rfl rfl ?_
        refine z_if_eq (tgt := 44) C d_M_emitPolynomial_26 (by decide) (fun _ => ?_) (fun c_26 => absurd (rfl) c_26)
        refine z_aload_n C d_M_emitPolynomial_44 rfl rfl ?_
        refine z_get C in_M H1.1 rfl 11 (by decide) fl_M_23 rfl rfl d_M_emitPolynomial_45 ?_
        refine z_iload_n C d_M_emitPolynomial_48 rfl rfl ?_
        refine z_bipush (v := nI 13) C d_M_emitPolynomial_49 (by decide) ?_
        refine z_imul C d_M_emitPolynomial_51 ?_
        refine z_top (y := nI (r * 13)) (pk_mul _ _) ?_
        refine z_iload C d_M_emitPolynomial_52 rfl ?_
        refine z_iadd C d_M_emitPolynomial_54 ?_
        refine z_top (y := nI ((r * 13) + k)) (nI_add _ _) ?_
        refine z_iald C H1.2.2.2.2.1 0 rfl ((r * 13) + k) (rfl) (by omega) (by omega) d_M_emitPolynomial_55 ?_
        refine z_top (y := fI ((pg xF r) k)) (congrArg fI (pg_at (by omega)).symm) ?_
        refine z_istore (L' := [(0, .ref m), (1, .int (nI r)), (2, .int (nI 0)), (3, .int (tI K)), (4, .int (nI k)), (5, .int (fI ((pg xF r) k)))]) C d_M_emitPolynomial_56 (by decide) rfl ?_
        refine z_iload C d_M_emitPolynomial_58 rfl ?_
        refine z_if_eq (tgt := 144) C d_M_emitPolynomial_60 (by decide) (fun c_60 => absurd c_60 (fun q => hz0 (fI_eq0.mp q))) (fun _ => ?_)
        refine z_iload C d_M_emitPolynomial_63 rfl ?_
        refine z_iload_n C d_M_emitPolynomial_65 rfl rfl ?_
        refine z_icmp_ge (tgt := 75) C d_M_emitPolynomial_66 (by decide) (fun c_66 => absurd c_66 (fun q => by rw [← tI_s k] at q; have := (tI_lel (by omega) (by omega)).mp q; omega)) (fun _ => ?_)
        refine z_aload_n C d_M_emitPolynomial_69 rfl rfl ?_
        refine z_bipush (v := nI 43) C d_M_emitPolynomial_70 (by decide) ?_
        refine z_callV (rest := []) (n := 1) (As := [.int (nI 43)]) C (m_emit E X.2.1 sz _ H1 hwa 43 (by simp only [List.length_append, List.length_singleton, List.length_nil] at *; omega)) ⟨z_cb C k_M_emit ml_M_217 ii_M rfl rfl (by decide +kernel) ⟨by decide, by decide⟩, C.2.2.2.2.1 _ im_M_emit, C.2.2.2.2.1 _ se_M_emit⟩ H1.1 rfl rfl rfl (Nat.le_of_ble_eq_true rfl) d_M_emitPolynomial_72 ⟨by decide, by decide⟩ ?_
        intro v_M1_72 s_M1_72 M_M1_72 hp_M1_72
        obtain ⟨rfl, rfl, ho_M1_72, H_M1_72⟩ := hp_M1_72
        have hz_M1_72 : zoutR M M_M1_72 m (m + 15) := zoutR_tr hz1 ho_M1_72
        show Z _ _ _ _ _ _ _ _ 75 _ []
        refine z_iload C d_M_emitPolynomial_75 rfl ?_
        refine z_top (y := nI (((pg xF r) k).val)) rfl ?_
        refine z_iconst (v := nI 1) C d_M_emitPolynomial_77 (by decide) ?_
        refine z_icmp_gt (tgt := 86) C d_M_emitPolynomial_78 (by decide) (fun c_78 => absurd c_78 (fun q => by have := (nI_ltI (a := 1) (b := ((pg xF r) k).val) (by omega) (by omega)).mp q; omega)) (fun _ => ?_)
        refine z_iload C d_M_emitPolynomial_81 rfl ?_
        refine z_if_ne (tgt := 92) C d_M_emitPolynomial_83 (by decide) (fun c_83 => absurd c_83 (fun q => q (congrArg nI hk0))) (fun _ => ?_)
        refine z_aload_n C d_M_emitPolynomial_86 rfl rfl ?_
        refine z_iload C d_M_emitPolynomial_87 rfl ?_
        refine z_top (y := nI (((pg xF r) k).val)) rfl ?_
        refine z_callV (rest := []) (n := 1) (As := [.int (nI (((pg xF r) k).val))]) C (m_emitNumber E X.2.1 sz _ H_M1_72 hwa (((pg xF r) k).val) (by omega) (by omega) (by simp only [List.length_append, List.length_singleton, List.length_nil] at *; omega)) ⟨z_cb C k_M_emitNumber ml_M_220 ii_M rfl rfl (by decide +kernel) ⟨by decide, by decide⟩, C.2.2.2.2.1 _ im_M_emitNumber, C.2.2.2.2.1 _ se_M_emitNumber⟩ H_M1_72.1 rfl rfl rfl (Nat.le_of_ble_eq_true rfl) d_M_emitPolynomial_89 ⟨by decide, by decide⟩ ?_
        intro v_M_M1_72_89 s_M_M1_72_89 M_M_M1_72_89 hp_M_M1_72_89
        obtain ⟨rfl, rfl, ho_M_M1_72_89, H_M_M1_72_89⟩ := hp_M_M1_72_89
        have hz_M_M1_72_89 : zoutR M M_M_M1_72_89 m (m + 15) := zoutR_tr hz_M1_72 ho_M_M1_72_89
        show Z _ _ _ _ _ _ _ _ 92 _ []
        refine z_iload C d_M_emitPolynomial_92 rfl ?_
        refine z_top (y := nI (((pg xF r) k).val)) rfl ?_
        refine z_iconst (v := nI 1) C d_M_emitPolynomial_94 (by decide) ?_
        refine z_icmp_le (tgt := 109) C d_M_emitPolynomial_95 (by decide) (fun _ => ?_) (fun c_95 => absurd ((nI_leI (a := ((pg xF r) k).val) (b := 1) (by omega) (by omega)).mpr (by omega)) c_95)
        refine z_iload C d_M_emitPolynomial_109 rfl ?_
        refine z_if_le (tgt := 120) C d_M_emitPolynomial_111 (by decide) (fun _ => ?_) (fun c_111 => absurd ((nI_leI (a := k) (b := 0) (by omega) (by omega)).mpr (by omega)) c_111)
        refine z_iload C d_M_emitPolynomial_120 rfl ?_
        refine z_iconst (v := nI 1) C d_M_emitPolynomial_122 (by decide) ?_
        refine z_icmp_le (tgt := 132) C d_M_emitPolynomial_123 (by decide) (fun _ => ?_) (fun c_123 => absurd ((nI_leI (a := k) (b := 1) (by omega) (by omega)).mpr (by omega)) c_123)
        refine z_iload C d_M_emitPolynomial_132 rfl ?_
        refine z_iconst (v := nI 1) C d_M_emitPolynomial_134 (by decide) ?_
        refine z_icmp_le (tgt := 144) C d_M_emitPolynomial_135 (by decide) (fun _ => ?_) (fun c_135 => absurd ((nI_leI (a := k) (b := 1) (by omega) (by omega)).mpr (by omega)) c_135)
        refine z_iinc (v := tI k) (L' := [(0, .ref m), (1, .int (nI r)), (2, .int (nI 0)), (3, .int (tI K)), (4, .int (tI k)), (5, .int (fI ((pg xF r) k)))]) C d_M_emitPolynomial_144 rfl (nI_dec k) (by decide) rfl ?_
        refine z_goto (tgt := 20) C d_M_emitPolynomial_147 (by decide) ?_
        refine z_sub [0, 1, 2, 3, 4] rfl ?_
        refine ih _ (l1 ++ [43] ++ sn (((pg xF r) k).val)) (by omega) (by simp only [List.length_append, List.length_singleton, List.length_nil] at *; omega) hz_M_M1_72_89 H_M_M1_72_89 ?_
        rw [e1, show spl (pg xF r) K (k + 1) = (if (pg xF r) k = 0 then [] else (if k + 1 < K then [43] else []) ++ sp ((pg xF r) k).val k) ++ spl (pg xF r) K k from rfl, if_neg hz0, if_pos hh0]
        unfold sp
        rw [if_pos hk0]
        try simp only [List.append_assoc, List.nil_append, List.append_nil, List.singleton_append, List.cons_append]
      have g000 : k = 0 → ((pg xF r) k).val = 1 → ¬ k + 1 < K → Z X E 6 (zQ X E 0 0 (fun v s M' => none = v ∧ sz = s ∧ zoutR M M' m (m + 15) ∧ mw E M' m xln xlen xlab xbad xlev xtr xwa ((ls ++ txtP (pg xF r) K).length) ((ls ++ txtP (pg xF r) K).getD xwa 0) xsf xbf xF xG xP xQ xmm xsl xkd xhs xht xsg xdv)) 0 0 sz M1 20 [(0, .ref m), (1, .int (nI r)), (2, .int (nI 0)), (3, .int (tI K)), (4, .int (nI k))] [] := by
        intro hk0 hv0 hh0
        refine z_iload C d_M_emitPolynomial_20 rfl ?_
        refine z_if_lt (tgt := 150) C d_M_emitPolynomial_22 (by decide) (fun c_22 => absurd c_22 (fun q => absurd ((nI_ltI (a := k) (b := 0) (by omega) (by omega)).mp q) (by omega))) (fun _ => ?_)
        refine z_iload_n C d_M_emitPolynomial_25 rfl rfl ?_
        refine z_if_eq (tgt := 44) C d_M_emitPolynomial_26 (by decide) (fun _ => ?_) (fun c_26 => absurd (rfl) c_26)
        refine z_aload_n C d_M_emitPolynomial_44 rfl rfl ?_
        refine z_get C in_M H1.1 rfl 11 (by decide) fl_M_23 rfl rfl d_M_emitPolynomial_45 ?_
        refine z_iload_n C d_M_emitPolynomial_48 rfl rfl ?_
        refine z_bipush (v := nI 13) C d_M_emitPolynomial_49 (by decide) ?_
        refine z_imul C d_M_emitPolynomial_51 ?_
        refine z_top (y := nI (r * 13)) (pk_mul _ _) ?_
        refine z_iload C d_M_emitPolynomial_52 rfl ?_
        refine z_iadd C d_M_emitPolynomial_54 ?_
        refine z_top (y := nI ((r * 13) + k)) (nI_add _ _) ?_
        refine z_iald C H1.2.2.2.2.1 0 rfl ((r * 13) + k) (rfl) (by omega) (by omega) d_M_emitPolynomial_55 ?_
        refine z_top (y := fI ((pg xF r) k)) (congrArg fI (pg_at (by omega)).symm) ?_
        refine z_istore (L' := [(0, .ref m), (1, .int (nI r)), (2, .int (nI 0)), (3, .int (tI K)), (4, .int (nI k)), (5, .int (fI ((pg xF r) k)))]) C d_M_emitPolynomial_56 (by decide) rfl ?_
        refine z_iload C d_M_emitPolynomial_58 rfl ?_
        refine z_if_eq (tgt := 144) C d_M_emitPolynomial_60 (by decide) (fun c_60 => absurd c_60 (fun q => hz0 (fI_eq0.mp q))) (fun _ => ?_)
        refine z_iload C d_M_emitPolynomial_63 rfl ?_
        refine z_iload_n C d_M_emitPolynomial_65 rfl rfl ?_
        refine z_icmp_ge (tgt := 75) C d_M_emitPolynomial_66 (by decide) (fun _ => ?_) (fun c_66 => absurd (by rw [← tI_s k]; exact (tI_lel (by omega) (by omega)).mpr (by omega)) c_66)
        refine z_iload C d_M_emitPolynomial_75 rfl ?_
        refine z_top (y := nI (((pg xF r) k).val)) rfl ?_
        refine z_iconst (v := nI 1) C d_M_emitPolynomial_77 (by decide) ?_
        refine z_icmp_gt (tgt := 86) C d_M_emitPolynomial_78 (by decide) (fun c_78 => absurd c_78 (fun q => by have := (nI_ltI (a := 1) (b := ((pg xF r) k).val) (by omega) (by omega)).mp q; omega)) (fun _ => ?_)
        refine z_iload C d_M_emitPolynomial_81 rfl ?_
        refine z_if_ne (tgt := 92) C d_M_emitPolynomial_83 (by decide) (fun c_83 => absurd c_83 (fun q => q (congrArg nI hk0))) (fun _ => ?_)
        refine z_aload_n C d_M_emitPolynomial_86 rfl rfl ?_
        refine z_iload C d_M_emitPolynomial_87 rfl ?_
        refine z_top (y := nI (((pg xF r) k).val)) rfl ?_
        refine z_callV (rest := []) (n := 1) (As := [.int (nI (((pg xF r) k).val))]) C (m_emitNumber E X.2.1 sz _ H1 hwa (((pg xF r) k).val) (by omega) (by omega) (by simp only [List.length_append, List.length_singleton, List.length_nil] at *; omega)) ⟨z_cb C k_M_emitNumber ml_M_220 ii_M rfl rfl (by decide +kernel) ⟨by decide, by decide⟩, C.2.2.2.2.1 _ im_M_emitNumber, C.2.2.2.2.1 _ se_M_emitNumber⟩ H1.1 rfl rfl rfl (Nat.le_of_ble_eq_true rfl) d_M_emitPolynomial_89 ⟨by decide, by decide⟩ ?_
        intro v_M1_89 s_M1_89 M_M1_89 hp_M1_89
        obtain ⟨rfl, rfl, ho_M1_89, H_M1_89⟩ := hp_M1_89
        have hz_M1_89 : zoutR M M_M1_89 m (m + 15) := zoutR_tr hz1 ho_M1_89
        show Z _ _ _ _ _ _ _ _ 92 _ []
        refine z_iload C d_M_emitPolynomial_92 rfl ?_
        refine z_top (y := nI (((pg xF r) k).val)) rfl ?_
        refine z_iconst (v := nI 1) C d_M_emitPolynomial_94 (by decide) ?_
        refine z_icmp_le (tgt := 109) C d_M_emitPolynomial_95 (by decide) (fun _ => ?_) (fun c_95 => absurd ((nI_leI (a := ((pg xF r) k).val) (b := 1) (by omega) (by omega)).mpr (by omega)) c_95)
        refine z_iload C d_M_emitPolynomial_109 rfl ?_
        refine z_if_le (tgt := 120) C d_M_emitPolynomial_111 (by decide) (fun _ => ?_) (fun c_111 => absurd ((nI_leI (a := k) (b := 0) (by omega) (by omega)).mpr (by omega)) c_111)
        refine z_iload C d_M_emitPolynomial_120 rfl ?_
        refine z_iconst (v := nI 1) C d_M_emitPolynomial_122 (by decide) ?_
        refine z_icmp_le (tgt := 132) C d_M_emitPolynomial_123 (by decide) (fun _ => ?_) (fun c_123 => absurd ((nI_leI (a := k) (b := 1) (by omega) (by omega)).mpr (by omega)) c_123)
        refine z_iload C d_M_emitPolynomial_132 rfl ?_
        refine z_iconst (v := nI 1) C d_M_emitPolynomial_134 (by decide) ?_
        refine z_icmp_le (tgt := 144) C d_M_emitPolynomial_135 (by decide) (fun _ => ?_) (fun c_135 => absurd ((nI_leI (a := k) (b := 1) (by omega) (by omega)).mpr (by omega)) c_135)
        refine z_iinc (v := tI k) (L' := [(0, .ref m), (1, .int (nI r)), (2, .int (nI 0)), (3, .int (tI K)), (4, .int (tI k)), (5, .int (fI ((pg xF r) k)))]) C d_M_emitPolynomial_144 rfl (nI_dec k) (by decide) rfl ?_
        refine z_goto (tgt := 20) C d_M_emitPolynomial_147 (by decide) ?_
        refine z_sub [0, 1, 2, 3, 4] rfl ?_
        refine ih _ (l1 ++ sn (((pg xF r) k).val)) (by omega) (by simp only [List.length_append, List.length_singleton, List.length_nil] at *; omega) hz_M1_89 H_M1_89 ?_
        rw [e1, show spl (pg xF r) K (k + 1) = (if (pg xF r) k = 0 then [] else (if k + 1 < K then [43] else []) ++ sp ((pg xF r) k).val k) ++ spl (pg xF r) K k from rfl, if_neg hz0, if_neg hh0]
        unfold sp
        rw [if_pos hk0]
        try simp only [List.append_assoc, List.nil_append, List.append_nil, List.singleton_append, List.cons_append]
      have g011 : k = 0 → 1 < ((pg xF r) k).val → k + 1 < K → Z X E 6 (zQ X E 0 0 (fun v s M' => none = v ∧ sz = s ∧ zoutR M M' m (m + 15) ∧ mw E M' m xln xlen xlab xbad xlev xtr xwa ((ls ++ txtP (pg xF r) K).length) ((ls ++ txtP (pg xF r) K).getD xwa 0) xsf xbf xF xG xP xQ xmm xsl xkd xhs xht xsg xdv)) 0 0 sz M1 20 [(0, .ref m), (1, .int (nI r)), (2, .int (nI 0)), (3, .int (tI K)), (4, .int (nI k))] [] := by
        intro hk0 hv0 hh0
        refine z_iload C d_M_emitPolynomial_20 rfl ?_
        refine z_if_lt (tgt := 150) C d_M_emitPolynomial_22 (by decide) (fun c_22 => absurd c_22 (fun q => absurd ((nI_ltI (a := k) (b := 0) (by omega) (by omega)).mp q) (by omega))) (fun _ => ?_)
        refine z_iload_n C d_M_emitPolynomial_25 rfl rfl ?_
        refine z_if_eq (tgt := 44) C d_M_emitPolynomial_26 (by decide) (fun _ => ?_) (fun c_26 => absurd (rfl) c_26)
        refine z_aload_n C d_M_emitPolynomial_44 rfl rfl ?_
        refine z_get C in_M H1.1 rfl 11 (by decide) fl_M_23 rfl rfl d_M_emitPolynomial_45 ?_
        refine z_iload_n C d_M_emitPolynomial_48 rfl rfl ?_
        refine z_bipush (v := nI 13) C d_M_emitPolynomial_49 (by decide) ?_
        refine z_imul C d_M_emitPolynomial_51 ?_
        refine z_top (y := nI (r * 13)) (pk_mul _ _) ?_
        refine z_iload C d_M_emitPolynomial_52 rfl ?_
        refine z_iadd C d_M_emitPolynomial_54 ?_
        refine z_top (y := nI ((r * 13) + k)) (nI_add _ _) ?_
        refine z_iald C H1.2.2.2.2.1 0 rfl ((r * 13) + k) (rfl) (by omega) (by omega) d_M_emitPolynomial_55 ?_
        refine z_top (y := fI ((pg xF r) k)) (congrArg fI (pg_at (by omega)).symm) ?_
        refine z_istore (L' := [(0, .ref m), (1, .int (nI r)), (2, .int (nI 0)), (3, .int (tI K)), (4, .int (nI k)), (5, .int (fI ((pg xF r) k)))]) C d_M_emitPolynomial_56 (by decide) rfl ?_
        refine z_iload C d_M_emitPolynomial_58 rfl ?_
        refine z_if_eq (tgt := 144) C d_M_emitPolynomial_60 (by decide) (fun c_60 => absurd c_60 (fun q => hz0 (fI_eq0.mp q))) (fun _ => ?_)
        refine z_iload C d_M_emitPolynomial_63 rfl ?_
        refine z_iload_n C d_M_emitPolynomial_65 rfl rfl ?_
        refine z_icmp_ge (tgt := 75) C d_M_emitPolynomial_66 (by decide) (fun c_66 => absurd c_66 (fun q => by rw [← tI_s k] at q; have := (tI_lel (by omega) (by omega)).mp q; omega)) (fun _ => ?_)
        refine z_aload_n C d_M_emitPolynomial_69 rfl rfl ?_
        refine z_bipush (v := nI 43) C d_M_emitPolynomial_70 (by decide) ?_
        refine z_callV (rest := []) (n := 1) (As := [.int (nI 43)]) C (m_emit E X.2.1 sz _ H1 hwa 43 (by simp only [List.length_append, List.length_singleton, List.length_nil] at *; omega)) ⟨z_cb C k_M_emit ml_M_217 ii_M rfl rfl (by decide +kernel) ⟨by decide, by decide⟩, C.2.2.2.2.1 _ im_M_emit, C.2.2.2.2.1 _ se_M_emit⟩ H1.1 rfl rfl rfl (Nat.le_of_ble_eq_true rfl) d_M_emitPolynomial_72 ⟨by decide, by decide⟩ ?_
        intro v_M1_72 s_M1_72 M_M1_72 hp_M1_72
        obtain ⟨rfl, rfl, ho_M1_72, H_M1_72⟩ := hp_M1_72
        have hz_M1_72 : zoutR M M_M1_72 m (m + 15) := zoutR_tr hz1 ho_M1_72
        show Z _ _ _ _ _ _ _ _ 75 _ []
        refine z_iload C d_M_emitPolynomial_75 rfl ?_
        refine z_top (y := nI (((pg xF r) k).val)) rfl ?_
        refine z_iconst (v := nI 1) C d_M_emitPolynomial_77 (by decide) ?_
        refine z_icmp_gt (tgt := 86) C d_M_emitPolynomial_78 (by decide) (fun _ => ?_) (fun c_78 => absurd ((nI_ltI (a := 1) (b := ((pg xF r) k).val) (by omega) (by omega)).mpr (by omega)) c_78)
        refine z_aload_n C d_M_emitPolynomial_86 rfl rfl ?_
        refine z_iload C d_M_emitPolynomial_87 rfl ?_
        refine z_top (y := nI (((pg xF r) k).val)) rfl ?_
        refine z_callV (rest := []) (n := 1) (As := [.int (nI (((pg xF r) k).val))]) C (m_emitNumber E X.2.1 sz _ H_M1_72 hwa (((pg xF r) k).val) (by omega) (by omega) (by simp only [List.length_append, List.length_singleton, List.length_nil] at *; omega)) ⟨z_cb C k_M_emitNumber ml_M_220 ii_M rfl rfl (by decide +kernel) ⟨by decide, by decide⟩, C.2.2.2.2.1 _ im_M_emitNumber, C.2.2.2.2.1 _ se_M_emitNumber⟩ H_M1_72.1 rfl rfl rfl (Nat.le_of_ble_eq_true rfl) d_M_emitPolynomial_89 ⟨by decide, by decide⟩ ?_
        intro v_M_M1_72_89 s_M_M1_72_89 M_M_M1_72_89 hp_M_M1_72_89
        obtain ⟨rfl, rfl, ho_M_M1_72_89, H_M_M1_72_89⟩ := hp_M_M1_72_89
        have hz_M_M1_72_89 : zoutR M M_M_M1_72_89 m (m + 15) := zoutR_tr hz_M1_72 ho_M_M1_72_89
        show Z _ _ _ _ _ _ _ _ 92 _ []
        refine z_iload C d_M_emitPolynomial_92 rfl ?_
        refine z_top (y := nI (((pg xF r) k).val)) rfl ?_
        refine z_iconst (v := nI 1) C d_M_emitPolynomial_94 (by decide) ?_
        refine z_icmp_le (tgt := 109) C d_M_emitPolynomial_95 (by decide) (fun c_95 => absurd c_95 (fun q => by have := (nI_leI (a := ((pg xF r) k).val) (b := 1) (by omega) (by omega)).mp q; omega)) (fun _ => ?_)
        refine z_iload C d_M_emitPolynomial_98 rfl ?_
        refine z_if_le (tgt := 109) C d_M_emitPolynomial_100 (by decide) (fun _ => ?_) (fun c_100 => absurd ((nI_leI (a := k) (b := 0) (by omega) (by omega)).mpr (by omega)) c_100)
        refine z_iload C d_M_emitPolynomial_109 rfl ?_
        refine z_if_le (tgt := 120) C d_M_emitPolynomial_111 (by decide) (fun _ => ?_) (fun c_111 => absurd ((nI_leI (a := k) (b := 0) (by omega) (by omega)).mpr (by omega)) c_111)
        refine z_iload C d_M_emitPolynomial_120 rfl ?_
        refine z_iconst (v := nI 1) C d_M_emitPolynomial_122 (by decide) ?_
        refine z_icmp_le (tgt := 132) C d_M_emitPolynomial_123 (by decide) (fun _ => ?_) (fun c_123 => absurd ((nI_leI (a := k) (b := 1) (by omega) (by omega)).mpr (by omega)) c_123)
        refine z_iload C d_M_emitPolynomial_132 rfl ?_
        refine z_iconst (v := nI 1) C d_M_emitPolynomial_134 (by decide) ?_
        refine z_icmp_le (tgt := 144) C d_M_emitPolynomial_135 (by decide) (fun _ => ?_) (fun c_135 => absurd ((nI_leI (a := k) (b := 1) (by omega) (by omega)).mpr (by omega)) c_135)
        refine z_iinc (v := tI k) (L' := [(0, .ref m), (1, .int (nI r)), (2, .int (nI 0)), (3, .int (tI K)), (4, .int (tI k)), (5, .int (fI ((pg xF r) k)))]) C d_M_emitPolynomial_144 rfl (nI_dec k) (by decide) rfl ?_
        refine z_goto (tgt := 20) C d_M_emitPolynomial_147 (by decide) ?_
        refine z_sub [0, 1, 2, 3, 4] rfl ?_
        refine ih _ (l1 ++ [43] ++ sn (((pg xF r) k).val)) (by omega) (by simp only [List.length_append, List.length_singleton, List.length_nil] at *; omega) hz_M_M1_72_89 H_M_M1_72_89 ?_
        rw [e1, show spl (pg xF r) K (k + 1) = (if (pg xF r) k = 0 then [] else (if k + 1 < K then [43] else []) ++ sp ((pg xF r) k).val k) ++ spl (pg xF r) K k from rfl, if_neg hz0, if_pos hh0]
        unfold sp
        rw [if_pos hk0]
        try simp only [List.append_assoc, List.nil_append, List.append_nil, List.singleton_append, List.cons_append]
      have g010 : k = 0 → 1 < ((pg xF r) k).val → ¬ k + 1 < K → Z X E 6 (zQ X E 0 0 (fun v s M' => none = v ∧ sz = s ∧ zoutR M M' m (m + 15) ∧ mw E M' m xln xlen xlab xbad xlev xtr xwa ((ls ++ txtP (pg xF r) K).length) ((ls ++ txtP (pg xF r) K).getD xwa 0) xsf xbf xF xG xP xQ xmm xsl xkd xhs xht xsg xdv)) 0 0 sz M1 20 [(0, .ref m), (1, .int (nI r)), (2, .int (nI 0)), (3, .int (tI K)), (4, .int (nI k))] [] := by
        intro hk0 hv0 hh0
        refine z_iload C d_M_emitPolynomial_20 rfl ?_
        refine z_if_lt (tgt := 150) C d_M_emitPolynomial_22 (by decide) (fun c_22 => absurd c_22 (fun q => absurd ((nI_ltI (a := k) (b := 0) (by omega) (by omega)).mp q) (by omega))) (fun _ => ?_)
        refine z_iload_n C d_M_emitPolynomial_25 rfl rfl ?_
        refine z_if_eq (tgt := 44) C d_M_emitPolynomial_26 (by decide) (fun _ => ?_) (fun c_26 => absurd (rfl) c_26)
        refine z_aload_n C d_M_emitPolynomial_44 rfl rfl ?_
        refine z_get C in_M H1.1 rfl 11 (by decide) fl_M_23 rfl rfl d_M_emitPolynomial_45 ?_
        refine z_iload_n C d_M_emitPolynomial_48 rfl rfl ?_
        refine z_bipush (v := nI 13) C d_M_emitPolynomial_49 (by decide) ?_
        refine z_imul C d_M_emitPolynomial_51 ?_
        refine z_top (y := nI (r * 13)) (pk_mul _ _) ?_
        refine z_iload C d_M_emitPolynomial_52 rfl ?_
        refine z_iadd C d_M_emitPolynomial_54 ?_
        refine z_top (y := nI ((r * 13) + k)) (nI_add _ _) ?_
        refine z_iald C H1.2.2.2.2.1 0 rfl ((r * 13) + k) (rfl) (by omega) (by omega) d_M_emitPolynomial_55 ?_
        refine z_top (y := fI ((pg xF r) k)) (congrArg fI (pg_at (by omega)).symm) ?_
        refine z_istore (L' := [(0, .ref m), (1, .int (nI r)), (2, .int (nI 0)), (3, .int (tI K)), (4, .int (nI k)), (5, .int (fI ((pg xF r) k)))]) C d_M_emitPolynomial_56 (by decide) rfl ?_
        refine z_iload C d_M_emitPolynomial_58 rfl ?_
        refine z_if_eq (tgt := 144) C d_M_emitPolynomial_60 (by decide) (fun c_60 => absurd c_60 (fun q => hz0 (fI_eq0.mp q))) (fun _ => ?_)
        refine z_iload C d_M_emitPolynomial_63 rfl ?_
        refine z_iload_n C d_M_emitPolynomial_65 rfl rfl ?_
        refine z_icmp_ge (tgt := 75) C d_M_emitPolynomial_66 (by decide) (fun _ => ?_) (fun c_66 => absurd (by rw [← tI_s k]; exact (tI_lel (by omega) (by omega)).mpr (by omega)) c_66)
        refine z_iload C d_M_emitPolynomial_75 rfl ?_
        refine z_top (y := nI (((pg xF r) k).val)) rfl ?_
        refine z_iconst (v := nI 1) C d_M_emitPolynomial_77 (by decide) ?_
        refine z_icmp_gt (tgt := 86) C d_M_emitPolynomial_78 (by decide) (fun _ => ?_) (fun c_78 => absurd ((nI_ltI (a := 1) (b := ((pg xF r) k).val) (by omega) (by omega)).mpr (by omega)) c_78)
        refine z_aload_n C d_M_emitPolynomial_86 rfl rfl ?_
        refine z_iload C d_M_emitPolynomial_87 rfl ?_
        refine z_top (y := nI (((pg xF r) k).val)) rfl ?_
        refine z_callV (rest := []) (n := 1) (As := [.int (nI (((pg xF r) k).val))]) C (m_emitNumber E X.2.1 sz _ H1 hwa (((pg xF r) k).val) (by omega) (by omega) (by simp only [List.length_append, List.length_singleton, List.length_nil] at *; omega)) ⟨z_cb C k_M_emitNumber ml_M_220 ii_M rfl rfl (by decide +kernel) ⟨by decide, by decide⟩, C.2.2.2.2.1 _ im_M_emitNumber, C.2.2.2.2.1 _ se_M_emitNumber⟩ H1.1 rfl rfl rfl (Nat.le_of_ble_eq_true rfl) d_M_emitPolynomial_89 ⟨by decide, by decide⟩ ?_
        intro v_M1_89 s_M1_89 M_M1_89 hp_M1_89
        obtain ⟨rfl, rfl, ho_M1_89, H_M1_89⟩ := hp_M1_89
        have hz_M1_89 : zoutR M M_M1_89 m (m + 15) := zoutR_tr hz1 ho_M1_89
        show Z _ _ _ _ _ _ _ _ 92 _ []
        refine z_iload C d_M_emitPolynomial_92 rfl ?_
        refine z_top (y := nI (((pg xF r) k).val)) rfl ?_
        refine z_iconst (v := nI 1) C d_M_emitPolynomial_94 (by decide) ?_
        refine z_icmp_le (tgt := 109) C d_M_emitPolynomial_95 (by decide) (fun c_95 => absurd c_95 (fun q => by have := (nI_leI (a := ((pg xF r) k).val) (b := 1) (by omega) (by omega)).mp q; omega)) (fun _ => ?_)
        refine z_iload C d_M_emitPolynomial_98 rfl ?_
        refine z_if_le (tgt := 109) C d_M_emitPolynomial_100 (by decide) (fun _ => ?_) (fun c_100 => absurd ((nI_leI (a := k) (b := 0) (by omega) (by omega)).mpr (by omega)) c_100)
        refine z_iload C d_M_emitPolynomial_109 rfl ?_
        refine z_if_le (tgt := 120) C d_M_emitPolynomial_111 (by decide) (fun _ => ?_) (fun c_111 => absurd ((nI_leI (a := k) (b := 0) (by omega) (by omega)).mpr (by omega)) c_111)
        refine z_iload C d_M_emitPolynomial_120 rfl ?_
        refine z_iconst (v := nI 1) C d_M_emitPolynomial_122 (by decide) ?_
        refine z_icmp_le (tgt := 132) C d_M_emitPolynomial_123 (by decide) (fun _ => ?_) (fun c_123 => absurd ((nI_leI (a := k) (b := 1) (by omega) (by omega)).mpr (by omega)) c_123)
        refine z_iload C d_M_emitPolynomial_132 rfl ?_
        refine z_iconst (v := nI 1) C d_M_emitPolynomial_134 (by decide) ?_
        refine z_icmp_le (tgt := 144) C d_M_emitPolynomial_135 (by decide) (fun _ => ?_) (fun c_135 => absurd ((nI_leI (a := k) (b := 1) (by omega) (by omega)).mpr (by omega)) c_135)
        refine z_iinc (v := tI k) (L' := [(0, .ref m), (1, .int (nI r)), (2, .int (nI 0)), (3, .int (tI K)), (4, .int (tI k)), (5, .int (fI ((pg xF r) k)))]) C d_M_emitPolynomial_144 rfl (nI_dec k) (by decide) rfl ?_
        refine z_goto (tgt := 20) C d_M_emitPolynomial_147 (by decide) ?_
        refine z_sub [0, 1, 2, 3, 4] rfl ?_
        refine ih _ (l1 ++ sn (((pg xF r) k).val)) (by omega) (by simp only [List.length_append, List.length_singleton, List.length_nil] at *; omega) hz_M1_89 H_M1_89 ?_
        rw [e1, show spl (pg xF r) K (k + 1) = (if (pg xF r) k = 0 then [] else (if k + 1 < K then [43] else []) ++ sp ((pg xF r) k).val k) ++ spl (pg xF r) K k from rfl, if_neg hz0, if_neg hh0]
        unfold sp
        rw [if_pos hk0]
        try simp only [List.append_assoc, List.nil_append, List.append_nil, List.singleton_append, List.cons_append]
      have g101 : k = 1 → ((pg xF r) k).val = 1 → k + 1 < K → Z X E 6 (zQ X E 0 0 (fun v s M' => none = v ∧ sz = s ∧ zoutR M M' m (m + 15) ∧ mw E M' m xln xlen xlab xbad xlev xtr xwa ((ls ++ txtP (pg xF r) K).length) ((ls ++ txtP (pg xF r) K).getD xwa 0) xsf xbf xF xG xP xQ xmm xsl xkd xhs xht xsg xdv)) 0 0 sz M1 20 [(0, .ref m), (1, .int (nI r)), (2, .int (nI 0)), (3, .int (tI K)), (4, .int (nI k))] [] := by
        intro hk0 hv0 hh0
        refine z_iload C d_M_emitPolynomial_20 rfl ?_
        refine z_if_lt (tgt := 150) C d_M_emitPolynomial_22 (by decide) (fun c_22 => absurd c_22 (fun q => absurd ((nI_ltI (a := k) (b := 0) (by omega) (by omega)).mp q) (by omega))) (fun _ => ?_)
        refine z_iload_n C d_M_emitPolynomial_25 rfl rfl ?_
        refine z_if_eq (tgt := 44) C d_M_emitPolynomial_26 (by decide) (fun _ => ?_) (fun c_26 => absurd (rfl) c_26)
        refine z_aload_n C d_M_emitPolynomial_44 rfl rfl ?_
        refine z_get C in_M H1.1 rfl 11 (by decide) fl_M_23 rfl rfl d_M_emitPolynomial_45 ?_
        refine z_iload_n C d_M_emitPolynomial_48 rfl rfl ?_
        refine z_bipush (v := nI 13) C d_M_emitPolynomial_49 (by decide) ?_
        refine z_imul C d_M_emitPolynomial_51 ?_
        refine z_top (y := nI (r * 13)) (pk_mul _ _) ?_
        refine z_iload C d_M_emitPolynomial_52 rfl ?_
        refine z_iadd C d_M_emitPolynomial_54 ?_
        refine z_top (y := nI ((r * 13) + k)) (nI_add _ _) ?_
        refine z_iald C H1.2.2.2.2.1 0 rfl ((r * 13) + k) (rfl) (by omega) (by omega) d_M_emitPolynomial_55 ?_
        refine z_top (y := fI ((pg xF r) k)) (congrArg fI (pg_at (by omega)).symm) ?_
        refine z_istore (L' := [(0, .ref m), (1, .int (nI r)), (2, .int (nI 0)), (3, .int (tI K)), (4, .int (nI k)), (5, .int (fI ((pg xF r) k)))]) C d_M_emitPolynomial_56 (by decide) rfl ?_
        refine z_iload C d_M_emitPolynomial_58 rfl ?_
        refine z_if_eq (tgt := 144) C d_M_emitPolynomial_60 (by decide) (fun c_60 => absurd c_60 (fun q => hz0 (fI_eq0.mp q))) (fun _ => ?_)
        refine z_iload C d_M_emitPolynomial_63 rfl ?_
        refine z_iload_n C d_M_emitPolynomial_65 rfl rfl ?_
        refine z_icmp_ge (tgt := 75) C d_M_emitPolynomial_66 (by decide) (fun c_66 => absurd c_66 (fun q => by rw [← tI_s k] at q; have := (tI_lel (by omega) (by omega)).mp q; omega)) (fun _ => ?_)
        refine z_aload_n C d_M_emitPolynomial_69 rfl rfl ?_
        refine z_bipush (v := nI 43) C d_M_emitPolynomial_70 (by decide) ?_
        refine z_callV (rest := []) (n := 1) (As := [.int (nI 43)]) C (m_emit E X.2.1 sz _ H1 hwa 43 (by simp only [List.length_append, List.length_singleton, List.length_nil] at *; omega)) ⟨z_cb C k_M_emit ml_M_217 ii_M rfl rfl (by decide +kernel) ⟨by decide, by decide⟩, C.2.2.2.2.1 _ im_M_emit, C.2.2.2.2.1 _ se_M_emit⟩ H1.1 rfl rfl rfl (Nat.le_of_ble_eq_true rfl) d_M_emitPolynomial_72 ⟨by decide, by decide⟩ ?_
        intro v_M1_72 s_M1_72 M_M1_72 hp_M1_72
        obtain ⟨rfl, rfl, ho_M1_72, H_M1_72⟩ := hp_M1_72
        have hz_M1_72 : zoutR M M_M1_72 m (m + 15) := zoutR_tr hz1 ho_M1_72
        show Z _ _ _ _ _ _ _ _ 75 _ []
        refine z_iload C d_M_emitPolynomial_75 rfl ?_
        refine z_top (y := nI (((pg xF r) k).val)) rfl ?_
        refine z_iconst (v := nI 1) C d_M_emitPolynomial_77 (by decide) ?_
        refine z_icmp_gt (tgt := 86) C d_M_emitPolynomial_78 (by decide) (fun c_78 => absurd c_78 (fun q => by have := (nI_ltI (a := 1) (b := ((pg xF r) k).val) (by omega) (by omega)).mp q; omega)) (fun _ => ?_)
        refine z_iload C d_M_emitPolynomial_81 rfl ?_
        refine z_if_ne (tgt := 92) C d_M_emitPolynomial_83 (by decide) (fun _ => ?_) (fun c_83 => absurd c_83 (fun q => absurd ((nI_eq (a := k) (b := 0) (by omega) (by omega)).mp q) (by omega)))
        refine z_iload C d_M_emitPolynomial_92 rfl ?_
        refine z_top (y := nI (((pg xF r) k).val)) rfl ?_
        refine z_iconst (v := nI 1) C d_M_emitPolynomial_94 (by decide) ?_
        refine z_icmp_le (tgt := 109) C d_M_emitPolynomial_95 (by decide) (fun _ => ?_) (fun c_95 => absurd ((nI_leI (a := ((pg xF r) k).val) (b := 1) (by omega) (by omega)).mpr (by omega)) c_95)
        refine z_iload C d_M_emitPolynomial_109 rfl ?_
        refine z_if_le (tgt := 120) C d_M_emitPolynomial_111 (by decide) (fun c_111 => absurd c_111 (fun q => by have := (nI_leI (a := k) (b := 0) (by omega) (by omega)).mp q; omega)) (fun _ => ?_)
        refine z_aload_n C d_M_emitPolynomial_114 rfl rfl ?_
        refine z_bipush (v := nI 120) C d_M_emitPolynomial_115 (by decide) ?_
        refine z_callV (rest := []) (n := 1) (As := [.int (nI 120)]) C (m_emit E X.2.1 sz _ H_M1_72 hwa 120 (by simp only [List.length_append, List.length_singleton, List.length_nil] at *; omega)) ⟨z_cb C k_M_emit ml_M_217 ii_M rfl rfl (by decide +kernel) ⟨by decide, by decide⟩, C.2.2.2.2.1 _ im_M_emit, C.2.2.2.2.1 _ se_M_emit⟩ H_M1_72.1 rfl rfl rfl (Nat.le_of_ble_eq_true rfl) d_M_emitPolynomial_117 ⟨by decide, by decide⟩ ?_
        intro v_M_M1_72_117 s_M_M1_72_117 M_M_M1_72_117 hp_M_M1_72_117
        obtain ⟨rfl, rfl, ho_M_M1_72_117, H_M_M1_72_117⟩ := hp_M_M1_72_117
        have hz_M_M1_72_117 : zoutR M M_M_M1_72_117 m (m + 15) := zoutR_tr hz_M1_72 ho_M_M1_72_117
        show Z _ _ _ _ _ _ _ _ 120 _ []
        refine z_iload C d_M_emitPolynomial_120 rfl ?_
        refine z_iconst (v := nI 1) C d_M_emitPolynomial_122 (by decide) ?_
        refine z_icmp_le (tgt := 132) C d_M_emitPolynomial_123 (by decide) (fun _ => ?_) (fun c_123 => absurd ((nI_leI (a := k) (b := 1) (by omega) (by omega)).mpr (by omega)) c_123)
        refine z_iload C d_M_emitPolynomial_132 rfl ?_
        refine z_iconst (v := nI 1) C d_M_emitPolynomial_134 (by decide) ?_
        refine z_icmp_le (tgt := 144) C d_M_emitPolynomial_135 (by decide) (fun _ => ?_) (fun c_135 => absurd ((nI_leI (a := k) (b := 1) (by omega) (by omega)).mpr (by omega)) c_135)
        refine z_iinc (v := tI k) (L' := [(0, .ref m), (1, .int (nI r)), (2, .int (nI 0)), (3, .int (tI K)), (4, .int (tI k)), (5, .int (fI ((pg xF r) k)))]) C d_M_emitPolynomial_144 rfl (nI_dec k) (by decide) rfl ?_
        refine z_goto (tgt := 20) C d_M_emitPolynomial_147 (by decide) ?_
        refine z_sub [0, 1, 2, 3, 4] rfl ?_
        refine ih _ (l1 ++ [43] ++ [120]) (by omega) (by simp only [List.length_append, List.length_singleton, List.length_nil] at *; omega) hz_M_M1_72_117 H_M_M1_72_117 ?_
        rw [e1, show spl (pg xF r) K (k + 1) = (if (pg xF r) k = 0 then [] else (if k + 1 < K then [43] else []) ++ sp ((pg xF r) k).val k) ++ spl (pg xF r) K k from rfl, if_neg hz0, if_pos hh0]
        unfold sp
        rw [if_neg (show ¬ k = 0 by omega), if_pos hv0, if_neg (show ¬ 1 < k by omega)]
        try simp only [List.append_assoc, List.nil_append, List.append_nil, List.singleton_append, List.cons_append]
      have g100 : k = 1 → ((pg xF r) k).val = 1 → ¬ k + 1 < K → Z X E 6 (zQ X E 0 0 (fun v s M' => none = v ∧ sz = s ∧ zoutR M M' m (m + 15) ∧ mw E M' m xln xlen xlab xbad xlev xtr xwa ((ls ++ txtP (pg xF r) K).length) ((ls ++ txtP (pg xF r) K).getD xwa 0) xsf xbf xF xG xP xQ xmm xsl xkd xhs xht xsg xdv)) 0 0 sz M1 20 [(0, .ref m), (1, .int (nI r)), (2, .int (nI 0)), (3, .int (tI K)), (4, .int (nI k))] [] := by
        intro hk0 hv0 hh0
        refine z_iload C d_M_emitPolynomial_20 rfl ?_
        refine z_if_lt (tgt := 150) C d_M_emitPolynomial_22 (by decide) (fun c_22 => absurd c_22 (fun q => absurd ((nI_ltI (a := k) (b := 0) (by omega) (by omega)).mp q) (by omega))) (fun _ => ?_)
        refine z_iload_n C d_M_emitPolynomial_25 rfl rfl ?_
        refine z_if_eq (tgt := 44) C d_M_emitPolynomial_26 (by decide) (fun _ => ?_) (fun c_26 => absurd (rfl) c_26)
        refine z_aload_n C d_M_emitPolynomial_44 rfl rfl ?_
        refine z_get C in_M H1.1 rfl 11 (by decide) fl_M_23 rfl rfl d_M_emitPolynomial_45 ?_
        refine z_iload_n C d_M_emitPolynomial_48 rfl rfl ?_
        refine z_bipush (v := nI 13) C d_M_emitPolynomial_49 (by decide) ?_
        refine z_imul C d_M_emitPolynomial_51 ?_
        refine z_top (y := nI (r * 13)) (pk_mul _ _) ?_
        refine z_iload C d_M_emitPolynomial_52 rfl ?_
        refine z_iadd C d_M_emitPolynomial_54 ?_
        refine z_top (y := nI ((r * 13) + k)) (nI_add _ _) ?_
        refine z_iald C H1.2.2.2.2.1 0 rfl ((r * 13) + k) (rfl) (by omega) (by omega) d_M_emitPolynomial_55 ?_
        refine z_top (y := fI ((pg xF r) k)) (congrArg fI (pg_at (by omega)).symm) ?_
        refine z_istore (L' := [(0, .ref m), (1, .int (nI r)), (2, .int (nI 0)), (3, .int (tI K)), (4, .int (nI k)), (5, .int (fI ((pg xF r) k)))]) C d_M_emitPolynomial_56 (by decide) rfl ?_
        refine z_iload C d_M_emitPolynomial_58 rfl ?_
        refine z_if_eq (tgt := 144) C d_M_emitPolynomial_60 (by decide) (fun c_60 => absurd c_60 (fun q => hz0 (fI_eq0.mp q))) (fun _ => ?_)
        refine z_iload C d_M_emitPolynomial_63 rfl ?_
        refine z_iload_n C d_M_emitPolynomial_65 rfl rfl ?_
        refine z_icmp_ge (tgt := 75) C d_M_emitPolynomial_66 (by decide) (fun _ => ?_) (fun c_66 => absurd (by rw [← tI_s k]; exact (tI_lel (by omega) (by omega)).mpr (by omega)) c_66)
        refine z_iload C d_M_emitPolynomial_75 rfl ?_
        refine z_top (y := nI (((pg xF r) k).val)) rfl ?_
        refine z_iconst (v := nI 1) C d_M_emitPolynomial_77 (by decide) ?_
        refine z_icmp_gt (tgt := 86) C d_M_emitPolynomial_78 (by decide) (fun c_78 => absurd c_78 (fun q => by have := (nI_ltI (a := 1) (b := ((pg xF r) k).val) (by omega) (by omega)).mp q; omega)) (fun _ => ?_)
        refine z_iload C d_M_emitPolynomial_81 rfl ?_
        refine z_if_ne (tgt := 92) C d_M_emitPolynomial_83 (by decide) (fun _ => ?_) (fun c_83 => absurd c_83 (fun q => absurd ((nI_eq (a := k) (b := 0) (by omega) (by omega)).mp q) (by omega)))
        refine z_iload C d_M_emitPolynomial_92 rfl ?_
        refine z_top (y := nI (((pg xF r) k).val)) rfl ?_
        refine z_iconst (v := nI 1) C d_M_emitPolynomial_94 (by decide) ?_
        refine z_icmp_le (tgt := 109) C d_M_emitPolynomial_95 (by decide) (fun _ => ?_) (fun c_95 => absurd ((nI_leI (a := ((pg xF r) k).val) (b := 1) (by omega) (by omega)).mpr (by omega)) c_95)
        refine z_iload C d_M_emitPolynomial_109 rfl ?_
        refine z_if_le (tgt := 120) C d_M_emitPolynomial_111 (by decide) (fun c_111 => absurd c_111 (fun q => by have := (nI_leI (a := k) (b := 0) (by omega) (by omega)).mp q; omega)) (fun _ => ?_)
        refine z_aload_n C d_M_emitPolynomial_114 rfl rfl ?_
        refine z_bipush (v := nI 120) C d_M_emitPolynomial_115 (by decide) ?_
        refine z_callV (rest := []) (n := 1) (As := [.int (nI 120)]) C (m_emit E X.2.1 sz _ H1 hwa 120 (by simp only [List.length_append, List.length_singleton, List.length_nil] at *; omega)) ⟨z_cb C k_M_emit ml_M_217 ii_M rfl rfl (by decide +kernel) ⟨by decide, by decide⟩, C.2.2.2.2.1 _ im_M_emit, C.2.2.2.2.1 _ se_M_emit⟩ H1.1 rfl rfl rfl (Nat.le_of_ble_eq_true rfl) d_M_emitPolynomial_117 ⟨by decide, by decide⟩ ?_
        intro v_M1_117 s_M1_117 M_M1_117 hp_M1_117
        obtain ⟨rfl, rfl, ho_M1_117, H_M1_117⟩ := hp_M1_117
        have hz_M1_117 : zoutR M M_M1_117 m (m + 15) := zoutR_tr hz1 ho_M1_117
        show Z _ _ _ _ _ _ _ _ 120 _ []
        refine z_iload C d_M_emitPolynomial_120 rfl ?_
        refine z_iconst (v := nI 1) C d_M_emitPolynomial_122 (by decide) ?_
        refine z_icmp_le (tgt := 132) C d_M_emitPolynomial_123 (by decide) (fun _ => ?_) (fun c_123 => absurd ((nI_leI (a := k) (b := 1) (by omega) (by omega)).mpr (by omega)) c_123)
        refine z_iload C d_M_emitPolynomial_132 rfl ?_
        refine z_iconst (v := nI 1) C d_M_emitPolynomial_134 (by decide) ?_
        refine z_icmp_le (tgt := 144) C d_M_emitPolynomial_135 (by decide) (fun _ => ?_) (fun c_135 => absurd ((nI_leI (a := k) (b := 1) (by omega) (by omega)).mpr (by omega)) c_135)
        refine z_iinc (v := tI k) (L' := [(0, .ref m), (1, .int (nI r)), (2, .int (nI 0)), (3, .int (tI K)), (4, .int (tI k)), (5, .int (fI ((pg xF r) k)))]) C d_M_emitPolynomial_144 rfl (nI_dec k) (by decide) rfl ?_
        refine z_goto (tgt := 20) C d_M_emitPolynomial_147 (by decide) ?_
        refine z_sub [0, 1, 2, 3, 4] rfl ?_
        refine ih _ (l1 ++ [120]) (by omega) (by simp only [List.length_append, List.length_singleton, List.length_nil] at *; omega) hz_M1_117 H_M1_117 ?_
        rw [e1, show spl (pg xF r) K (k + 1) = (if (pg xF r) k = 0 then [] else (if k + 1 < K then [43] else []) ++ sp ((pg xF r) k).val k) ++ spl (pg xF r) K k from rfl, if_neg hz0, if_neg hh0]
        unfold sp
        rw [if_neg (show ¬ k = 0 by omega), if_pos hv0, if_neg (show ¬ 1 < k by omega)]
        try simp only [List.append_assoc, List.nil_append, List.append_nil, List.singleton_append, List.cons_append]
      have g111 : k = 1 → 1 < ((pg xF r) k).val → k + 1 < K → Z X E 6 (zQ X E 0 0 (fun v s M' => none = v ∧ sz = s ∧ zoutR M M' m (m + 15) ∧ mw E M' m xln xlen xlab xbad xlev xtr xwa ((ls ++ txtP (pg xF r) K).length) ((ls ++ txtP (pg xF r) K).getD xwa 0) xsf xbf xF xG xP xQ xmm xsl xkd xhs xht xsg xdv)) 0 0 sz M1 20 [(0, .ref m), (1, .int (nI r)), (2, .int (nI 0)), (3, .int (tI K)), (4, .int (nI k))] [] := by
        intro hk0 hv0 hh0
        refine z_iload C d_M_emitPolynomial_20 rfl ?_
        refine z_if_lt (tgt := 150) C d_M_emitPolynomial_22 (by decide) (fun c_22 => absurd c_22 (fun q => absurd ((nI_ltI (a := k) (b := 0) (by omega) (by omega)).mp q) (by omega))) (fun _ => ?_)
        refine z_iload_n C d_M_emitPolynomial_25 rfl rfl ?_
        refine z_if_eq (tgt := 44) C d_M_emitPolynomial_26 (by decide) (fun _ => ?_) (fun c_26 => absurd (rfl) c_26)
        refine z_aload_n C d_M_emitPolynomial_44 rfl rfl ?_
        refine z_get C in_M H1.1 rfl 11 (by decide) fl_M_23 rfl rfl d_M_emitPolynomial_45 ?_
        refine z_iload_n C d_M_emitPolynomial_48 rfl rfl ?_
        refine z_bipush (v := nI 13) C d_M_emitPolynomial_49 (by decide) ?_
        refine z_imul C d_M_emitPolynomial_51 ?_
        refine z_top (y := nI (r * 13)) (pk_mul _ _) ?_
        refine z_iload C d_M_emitPolynomial_52 rfl ?_
        refine z_iadd C d_M_emitPolynomial_54 ?_
        refine z_top (y := nI ((r * 13) + k)) (nI_add _ _) ?_
        refine z_iald C H1.2.2.2.2.1 0 rfl ((r * 13) + k) (rfl) (by omega) (by omega) d_M_emitPolynomial_55 ?_
        refine z_top (y := fI ((pg xF r) k)) (congrArg fI (pg_at (by omega)).symm) ?_
        refine z_istore (L' := [(0, .ref m), (1, .int (nI r)), (2, .int (nI 0)), (3, .int (tI K)), (4, .int (nI k)), (5, .int (fI ((pg xF r) k)))]) C d_M_emitPolynomial_56 (by decide) rfl ?_
        refine z_iload C d_M_emitPolynomial_58 rfl ?_
        refine z_if_eq (tgt := 144) C d_M_emitPolynomial_60 (by decide) (fun c_60 => absurd c_60 (fun q => hz0 (fI_eq0.mp q))) (fun _ => ?_)
        refine z_iload C d_M_emitPolynomial_63 rfl ?_
        refine z_iload_n C d_M_emitPolynomial_65 rfl rfl ?_
        refine z_icmp_ge (tgt := 75) C d_M_emitPolynomial_66 (by decide) (fun c_66 => absurd c_66 (fun q => by rw [← tI_s k] at q; have := (tI_lel (by omega) (by omega)).mp q; omega)) (fun _ => ?_)
        refine z_aload_n C d_M_emitPolynomial_69 rfl rfl ?_
        refine z_bipush (v := nI 43) C d_M_emitPolynomial_70 (by decide) ?_
        refine z_callV (rest := []) (n := 1) (As := [.int (nI 43)]) C (m_emit E X.2.1 sz _ H1 hwa 43 (by simp only [List.length_append, List.length_singleton, List.length_nil] at *; omega)) ⟨z_cb C k_M_emit ml_M_217 ii_M rfl rfl (by decide +kernel) ⟨by decide, by decide⟩, C.2.2.2.2.1 _ im_M_emit, C.2.2.2.2.1 _ se_M_emit⟩ H1.1 rfl rfl rfl (Nat.le_of_ble_eq_true rfl) d_M_emitPolynomial_72 ⟨by decide, by decide⟩ ?_
        intro v_M1_72 s_M1_72 M_M1_72 hp_M1_72
        obtain ⟨rfl, rfl, ho_M1_72, H_M1_72⟩ := hp_M1_72
        have hz_M1_72 : zoutR M M_M1_72 m (m + 15) := zoutR_tr hz1 ho_M1_72
        show Z _ _ _ _ _ _ _ _ 75 _ []
        refine z_iload C d_M_emitPolynomial_75 rfl ?_
        refine z_top (y := nI (((pg xF r) k).val)) rfl ?_
        refine z_iconst (v := nI 1) C d_M_emitPolynomial_77 (by decide) ?_
        refine z_icmp_gt (tgt := 86) C d_M_emitPolynomial_78 (by decide) (fun _ => ?_) (fun c_78 => absurd ((nI_ltI (a := 1) (b := ((pg xF r) k).val) (by omega) (by omega)).mpr (by omega)) c_78)
        refine z_aload_n C d_M_emitPolynomial_86 rfl rfl ?_
        refine z_iload C d_M_emitPolynomial_87 rfl ?_
        refine z_top (y := nI (((pg xF r) k).val)) rfl ?_
        refine z_callV (rest := []) (n := 1) (As := [.int (nI (((pg xF r) k).val))]) C (m_emitNumber E X.2.1 sz _ H_M1_72 hwa (((pg xF r) k).val) (by omega) (by omega) (by simp only [List.length_append, List.length_singleton, List.length_nil] at *; omega)) ⟨z_cb C k_M_emitNumber ml_M_220 ii_M rfl rfl (by decide +kernel) ⟨by decide, by decide⟩, C.2.2.2.2.1 _ im_M_emitNumber, C.2.2.2.2.1 _ se_M_emitNumber⟩ H_M1_72.1 rfl rfl rfl (Nat.le_of_ble_eq_true rfl) d_M_emitPolynomial_89 ⟨by decide, by decide⟩ ?_
        intro v_M_M1_72_89 s_M_M1_72_89 M_M_M1_72_89 hp_M_M1_72_89
        obtain ⟨rfl, rfl, ho_M_M1_72_89, H_M_M1_72_89⟩ := hp_M_M1_72_89
        have hz_M_M1_72_89 : zoutR M M_M_M1_72_89 m (m + 15) := zoutR_tr hz_M1_72 ho_M_M1_72_89
        show Z _ _ _ _ _ _ _ _ 92 _ []
        refine z_iload C d_M_emitPolynomial_92 rfl ?_
        refine z_top (y := nI (((pg xF r) k).val)) rfl ?_
        refine z_iconst (v := nI 1) C d_M_emitPolynomial_94 (by decide) ?_
        refine z_icmp_le (tgt := 109) C d_M_emitPolynomial_95 (by decide) (fun c_95 => absurd c_95 (fun q => by have := (nI_leI (a := ((pg xF r) k).val) (b := 1) (by omega) (by omega)).mp q; omega)) (fun _ => ?_)
        refine z_iload C d_M_emitPolynomial_98 rfl ?_
        refine z_if_le (tgt := 109) C d_M_emitPolynomial_100 (by decide) (fun c_100 => absurd c_100 (fun q => by have := (nI_leI (a := k) (b := 0) (by omega) (by omega)).mp q; omega)) (fun _ => ?_)
        refine z_aload_n C d_M_emitPolynomial_103 rfl rfl ?_
        refine z_bipush (v := nI 42) C d_M_emitPolynomial_104 (by decide) ?_
        refine z_callV (rest := []) (n := 1) (As := [.int (nI 42)]) C (m_emit E X.2.1 sz _ H_M_M1_72_89 hwa 42 (by simp only [List.length_append, List.length_singleton, List.length_nil] at *; omega)) ⟨z_cb C k_M_emit ml_M_217 ii_M rfl rfl (by decide +kernel) ⟨by decide, by decide⟩, C.2.2.2.2.1 _ im_M_emit, C.2.2.2.2.1 _ se_M_emit⟩ H_M_M1_72_89.1 rfl rfl rfl (Nat.le_of_ble_eq_true rfl) d_M_emitPolynomial_106 ⟨by decide, by decide⟩ ?_
        intro v_M_M_M1_72_89_106 s_M_M_M1_72_89_106 M_M_M_M1_72_89_106 hp_M_M_M1_72_89_106
        obtain ⟨rfl, rfl, ho_M_M_M1_72_89_106, H_M_M_M1_72_89_106⟩ := hp_M_M_M1_72_89_106
        have hz_M_M_M1_72_89_106 : zoutR M M_M_M_M1_72_89_106 m (m + 15) := zoutR_tr hz_M_M1_72_89 ho_M_M_M1_72_89_106
        show Z _ _ _ _ _ _ _ _ 109 _ []
        refine z_iload C d_M_emitPolynomial_109 rfl ?_
        refine z_if_le (tgt := 120) C d_M_emitPolynomial_111 (by decide) (fun c_111 => absurd c_111 (fun q => by have := (nI_leI (a := k) (b := 0) (by omega) (by omega)).mp q; omega)) (fun _ => ?_)
        refine z_aload_n C d_M_emitPolynomial_114 rfl rfl ?_
        refine z_bipush (v := nI 120) C d_M_emitPolynomial_115 (by decide) ?_
        refine z_callV (rest := []) (n := 1) (As := [.int (nI 120)]) C (m_emit E X.2.1 sz _ H_M_M_M1_72_89_106 hwa 120 (by simp only [List.length_append, List.length_singleton, List.length_nil] at *; omega)) ⟨z_cb C k_M_emit ml_M_217 ii_M rfl rfl (by decide +kernel) ⟨by decide, by decide⟩, C.2.2.2.2.1 _ im_M_emit, C.2.2.2.2.1 _ se_M_emit⟩ H_M_M_M1_72_89_106.1 rfl rfl rfl (Nat.le_of_ble_eq_true rfl) d_M_emitPolynomial_117 ⟨by decide, by decide⟩ ?_
        intro v_M1_72_89_106_117 s_M1_72_89_106_117 M_M1_72_89_106_117 hp_M1_72_89_106_117
        obtain ⟨rfl, rfl, ho_M1_72_89_106_117, H_M1_72_89_106_117⟩ := hp_M1_72_89_106_117
        have hz_M1_72_89_106_117 : zoutR M M_M1_72_89_106_117 m (m + 15) := zoutR_tr hz_M_M_M1_72_89_106 ho_M1_72_89_106_117
        show Z _ _ _ _ _ _ _ _ 120 _ []
        refine z_iload C d_M_emitPolynomial_120 rfl ?_
        refine z_iconst (v := nI 1) C d_M_emitPolynomial_122 (by decide) ?_
        refine z_icmp_le (tgt := 132) C d_M_emitPolynomial_123 (by decide) (fun _ => ?_) (fun c_123 => absurd ((nI_leI (a := k) (b := 1) (by omega) (by omega)).mpr (by omega)) c_123)
        refine z_iload C d_M_emitPolynomial_132 rfl ?_
        refine z_iconst (v := nI 1) C d_M_emitPolynomial_134 (by decide) ?_
        refine z_icmp_le (tgt := 144) C d_M_emitPolynomial_135 (by decide) (fun _ => ?_) (fun c_135 => absurd ((nI_leI (a := k) (b := 1) (by omega) (by omega)).mpr (by omega)) c_135)
        refine z_iinc (v := tI k) (L' := [(0, .ref m), (1, .int (nI r)), (2, .int (nI 0)), (3, .int (tI K)), (4, .int (tI k)), (5, .int (fI ((pg xF r) k)))]) C d_M_emitPolynomial_144 rfl (nI_dec k) (by decide) rfl ?_
        refine z_goto (tgt := 20) C d_M_emitPolynomial_147 (by decide) ?_
        refine z_sub [0, 1, 2, 3, 4] rfl ?_
        refine ih _ (l1 ++ [43] ++ sn (((pg xF r) k).val) ++ [42] ++ [120]) (by omega) (by simp only [List.length_append, List.length_singleton, List.length_nil] at *; omega) hz_M1_72_89_106_117 H_M1_72_89_106_117 ?_
        rw [e1, show spl (pg xF r) K (k + 1) = (if (pg xF r) k = 0 then [] else (if k + 1 < K then [43] else []) ++ sp ((pg xF r) k).val k) ++ spl (pg xF r) K k from rfl, if_neg hz0, if_pos hh0]
        unfold sp
        rw [if_neg (show ¬ k = 0 by omega), if_neg (show ¬ ((pg xF r) k).val = 1 by omega), if_neg (show ¬ 1 < k by omega)]
        try simp only [List.append_assoc, List.nil_append, List.append_nil, List.singleton_append, List.cons_append]
      have g110 : k = 1 → 1 < ((pg xF r) k).val → ¬ k + 1 < K → Z X E 6 (zQ X E 0 0 (fun v s M' => none = v ∧ sz = s ∧ zoutR M M' m (m + 15) ∧ mw E M' m xln xlen xlab xbad xlev xtr xwa ((ls ++ txtP (pg xF r) K).length) ((ls ++ txtP (pg xF r) K).getD xwa 0) xsf xbf xF xG xP xQ xmm xsl xkd xhs xht xsg xdv)) 0 0 sz M1 20 [(0, .ref m), (1, .int (nI r)), (2, .int (nI 0)), (3, .int (tI K)), (4, .int (nI k))] [] := by
        intro hk0 hv0 hh0
        refine z_iload C d_M_emitPolynomial_20 rfl ?_
        refine z_if_lt (tgt := 150) C d_M_emitPolynomial_22 (by decide) (fun c_22 => absurd c_22 (fun q => absurd ((nI_ltI (a := k) (b := 0) (by omega) (by omega)).mp q) (by omega))) (fun _ => ?_)
        refine z_iload_n C d_M_emitPolynomial_25 rfl rfl ?_
        refine z_if_eq (tgt := 44) C d_M_emitPolynomial_26 (by decide) (fun _ => ?_) (fun c_26 => absurd (rfl) c_26)
        refine z_aload_n C d_M_emitPolynomial_44 rfl rfl ?_
        refine z_get C in_M H1.1 rfl 11 (by decide) fl_M_23 rfl rfl d_M_emitPolynomial_45 ?_
        refine z_iload_n C d_M_emitPolynomial_48 rfl rfl ?_
        refine z_bipush (v := nI 13) C d_M_emitPolynomial_49 (by decide) ?_
        refine z_imul C d_M_emitPolynomial_51 ?_
        refine z_top (y := nI (r * 13)) (pk_mul _ _) ?_
        refine z_iload C d_M_emitPolynomial_52 rfl ?_
        refine z_iadd C d_M_emitPolynomial_54 ?_
        refine z_top (y := nI ((r * 13) + k)) (nI_add _ _) ?_
        refine z_iald C H1.2.2.2.2.1 0 rfl ((r * 13) + k) (rfl) (by omega) (by omega) d_M_emitPolynomial_55 ?_
        refine z_top (y := fI ((pg xF r) k)) (congrArg fI (pg_at (by omega)).symm) ?_
        refine z_istore (L' := [(0, .ref m), (1, .int (nI r)), (2, .int (nI 0)), (3, .int (tI K)), (4, .int (nI k)), (5, .int (fI ((pg xF r) k)))]) C d_M_emitPolynomial_56 (by decide) rfl ?_
        refine z_iload C d_M_emitPolynomial_58 rfl ?_
        refine z_if_eq (tgt := 144) C d_M_emitPolynomial_60 (by decide) (fun c_60 => absurd c_60 (fun q => hz0 (fI_eq0.mp q))) (fun _ => ?_)
        refine z_iload C d_M_emitPolynomial_63 rfl ?_
        refine z_iload_n C d_M_emitPolynomial_65 rfl rfl ?_
        refine z_icmp_ge (tgt := 75) C d_M_emitPolynomial_66 (by decide) (fun _ => ?_) (fun c_66 => absurd (by rw [← tI_s k]; exact (tI_lel (by omega) (by omega)).mpr (by omega)) c_66)
        refine z_iload C d_M_emitPolynomial_75 rfl ?_
        refine z_top (y := nI (((pg xF r) k).val)) rfl ?_
        refine z_iconst (v := nI 1) C d_M_emitPolynomial_77 (by decide) ?_
        refine z_icmp_gt (tgt := 86) C d_M_emitPolynomial_78 (by decide) (fun _ => ?_) (fun c_78 => absurd ((nI_ltI (a := 1) (b := ((pg xF r) k).val) (by omega) (by omega)).mpr (by omega)) c_78)
        refine z_aload_n C d_M_emitPolynomial_86 rfl rfl ?_
        refine z_iload C d_M_emitPolynomial_87 rfl ?_
        refine z_top (y := nI (((pg xF r) k).val)) rfl ?_
        refine z_callV (rest := []) (n := 1) (As := [.int (nI (((pg xF r) k).val))]) C (m_emitNumber E X.2.1 sz _ H1 hwa (((pg xF r) k).val) (by omega) (by omega) (by simp only [List.length_append, List.length_singleton, List.length_nil] at *; omega)) ⟨z_cb C k_M_emitNumber ml_M_220 ii_M rfl rfl (by decide +kernel) ⟨by decide, by decide⟩, C.2.2.2.2.1 _ im_M_emitNumber, C.2.2.2.2.1 _ se_M_emitNumber⟩ H1.1 rfl rfl rfl (Nat.le_of_ble_eq_true rfl) d_M_emitPolynomial_89 ⟨by decide, by decide⟩ ?_
        intro v_M1_89 s_M1_89 M_M1_89 hp_M1_89
        obtain ⟨rfl, rfl, ho_M1_89, H_M1_89⟩ := hp_M1_89
        have hz_M1_89 : zoutR M M_M1_89 m (m + 15) := zoutR_tr hz1 ho_M1_89
        show Z _ _ _ _ _ _ _ _ 92 _ []
        refine z_iload C d_M_emitPolynomial_92 rfl ?_
        refine z_top (y := nI (((pg xF r) k).val)) rfl ?_
        refine z_iconst (v := nI 1) C d_M_emitPolynomial_94 (by decide) ?_
        refine z_icmp_le (tgt := 109) C d_M_emitPolynomial_95 (by decide) (fun c_95 => absurd c_95 (fun q => by have := (nI_leI (a := ((pg xF r) k).val) (b := 1) (by omega) (by omega)).mp q; omega)) (fun _ => ?_)
        refine z_iload C d_M_emitPolynomial_98 rfl ?_
        refine z_if_le (tgt := 109) C d_M_emitPolynomial_100 (by decide) (fun c_100 => absurd c_100 (fun q => by have := (nI_leI (a := k) (b := 0) (by omega) (by omega)).mp q; omega)) (fun _ => ?_)
        refine z_aload_n C d_M_emitPolynomial_103 rfl rfl ?_
        refine z_bipush (v := nI 42) C d_M_emitPolynomial_104 (by decide) ?_
        refine z_callV (rest := []) (n := 1) (As := [.int (nI 42)]) C (m_emit E X.2.1 sz _ H_M1_89 hwa 42 (by simp only [List.length_append, List.length_singleton, List.length_nil] at *; omega)) ⟨z_cb C k_M_emit ml_M_217 ii_M rfl rfl (by decide +kernel) ⟨by decide, by decide⟩, C.2.2.2.2.1 _ im_M_emit, C.2.2.2.2.1 _ se_M_emit⟩ H_M1_89.1 rfl rfl rfl (Nat.le_of_ble_eq_true rfl) d_M_emitPolynomial_106 ⟨by decide, by decide⟩ ?_
        intro v_M_M1_89_106 s_M_M1_89_106 M_M_M1_89_106 hp_M_M1_89_106
        obtain ⟨rfl, rfl, ho_M_M1_89_106, H_M_M1_89_106⟩ := hp_M_M1_89_106
        have hz_M_M1_89_106 : zoutR M M_M_M1_89_106 m (m + 15) := zoutR_tr hz_M1_89 ho_M_M1_89_106
        show Z _ _ _ _ _ _ _ _ 109 _ []
        refine z_iload C d_M_emitPolynomial_109 rfl ?_
        refine z_if_le (tgt := 120) C d_M_emitPolynomial_111 (by decide) (fun c_111 => absurd c_111 (fun q => by have := (nI_leI (a := k) (b := 0) (by omega) (by omega)).mp q; omega)) (fun _ => ?_)
        refine z_aload_n C d_M_emitPolynomial_114 rfl rfl ?_
        refine z_bipush (v := nI 120) C d_M_emitPolynomial_115 (by decide) ?_
        refine z_callV (rest := []) (n := 1) (As := [.int (nI 120)]) C (m_emit E X.2.1 sz _ H_M_M1_89_106 hwa 120 (by simp only [List.length_append, List.length_singleton, List.length_nil] at *; omega)) ⟨z_cb C k_M_emit ml_M_217 ii_M rfl rfl (by decide +kernel) ⟨by decide, by decide⟩, C.2.2.2.2.1 _ im_M_emit, C.2.2.2.2.1 _ se_M_emit⟩ H_M_M1_89_106.1 rfl rfl rfl (Nat.le_of_ble_eq_true rfl) d_M_emitPolynomial_117 ⟨by decide, by decide⟩ ?_
        intro v__M_M1_89_106_117 s__M_M1_89_106_117 M__M_M1_89_106_117 hp__M_M1_89_106_117
        obtain ⟨rfl, rfl, ho__M_M1_89_106_117, H__M_M1_89_106_117⟩ := hp__M_M1_89_106_117
        have hz__M_M1_89_106_117 : zoutR M M__M_M1_89_106_117 m (m + 15) := zoutR_tr hz_M_M1_89_106 ho__M_M1_89_106_117
        show Z _ _ _ _ _ _ _ _ 120 _ []
        refine z_iload C d_M_emitPolynomial_120 rfl ?_
        refine z_iconst (v := nI 1) C d_M_emitPolynomial_122 (by decide) ?_
        refine z_icmp_le (tgt := 132) C d_M_emitPolynomial_123 (by decide) (fun _ => ?_) (fun c_123 => absurd ((nI_leI (a := k) (b := 1) (by omega) (by omega)).mpr (by omega)) c_123)
        refine z_iload C d_M_emitPolynomial_132 rfl ?_
        refine z_iconst (v := nI 1) C d_M_emitPolynomial_134 (by decide) ?_
        refine z_icmp_le (tgt := 144) C d_M_emitPolynomial_135 (by decide) (fun _ => ?_) (fun c_135 => absurd ((nI_leI (a := k) (b := 1) (by omega) (by omega)).mpr (by omega)) c_135)
        refine z_iinc (v := tI k) (L' := [(0, .ref m), (1, .int (nI r)), (2, .int (nI 0)), (3, .int (tI K)), (4, .int (tI k)), (5, .int (fI ((pg xF r) k)))]) C d_M_emitPolynomial_144 rfl (nI_dec k) (by decide) rfl ?_
        refine z_goto (tgt := 20) C d_M_emitPolynomial_147 (by decide) ?_
        refine z_sub [0, 1, 2, 3, 4] rfl ?_
        refine ih _ (l1 ++ sn (((pg xF r) k).val) ++ [42] ++ [120]) (by omega) (by simp only [List.length_append, List.length_singleton, List.length_nil] at *; omega) hz__M_M1_89_106_117 H__M_M1_89_106_117 ?_
        rw [e1, show spl (pg xF r) K (k + 1) = (if (pg xF r) k = 0 then [] else (if k + 1 < K then [43] else []) ++ sp ((pg xF r) k).val k) ++ spl (pg xF r) K k from rfl, if_neg hz0, if_neg hh0]
        unfold sp
        rw [if_neg (show ¬ k = 0 by omega), if_neg (show ¬ ((pg xF r) k).val = 1 by omega), if_neg (show ¬ 1 < k by omega)]
        try simp only [List.append_assoc, List.nil_append, List.append_nil, List.singleton_append, List.cons_append]
      have g201 : 1 < k → ((pg xF r) k).val = 1 → k + 1 < K → Z X E 6 (zQ X E 0 0 (fun v s M' => none = v ∧ sz = s ∧ zoutR M M' m (m + 15) ∧ mw E M' m xln xlen xlab xbad xlev xtr xwa ((ls ++ txtP (pg xF r) K).length) ((ls ++ txtP (pg xF r) K).getD xwa 0) xsf xbf xF xG xP xQ xmm xsl xkd xhs xht xsg xdv)) 0 0 sz M1 20 [(0, .ref m), (1, .int (nI r)), (2, .int (nI 0)), (3, .int (tI K)), (4, .int (nI k))] [] := by
        intro hk0 hv0 hh0
        refine z_iload C d_M_emitPolynomial_20 rfl ?_
        refine z_if_lt (tgt := 150) C d_M_emitPolynomial_22 (by decide) (fun c_22 => absurd c_22 (fun q => absurd ((nI_ltI (a := k) (b := 0) (by omega) (by omega)).mp q) (by omega))) (fun _ => ?_)
        refine z_iload_n C d_M_emitPolynomial_25 rfl rfl ?_
        refine z_if_eq (tgt := 44) C d_M_emitPolynomial_26 (by decide) (fun _ => ?_) (fun c_26 => absurd (rfl) c_26)
        refine z_aload_n C d_M_emitPolynomial_44 rfl rfl ?_
        refine z_get C in_M H1.1 rfl 11 (by decide) fl_M_23 rfl rfl d_M_emitPolynomial_45 ?_
        refine z_iload_n C d_M_emitPolynomial_48 rfl rfl ?_
        refine z_bipush (v := nI 13) C d_M_emitPolynomial_49 (by decide) ?_
        refine z_imul C d_M_emitPolynomial_51 ?_
        refine z_top (y := nI (r * 13)) (pk_mul _ _) ?_
        refine z_iload C d_M_emitPolynomial_52 rfl ?_
        refine z_iadd C d_M_emitPolynomial_54 ?_
        refine z_top (y := nI ((r * 13) + k)) (nI_add _ _) ?_
        refine z_iald C H1.2.2.2.2.1 0 rfl ((r * 13) + k) (rfl) (by omega) (by omega) d_M_emitPolynomial_55 ?_
        refine z_top (y := fI ((pg xF r) k)) (congrArg fI (pg_at (by omega)).symm) ?_
        refine z_istore (L' := [(0, .ref m), (1, .int (nI r)), (2, .int (nI 0)), (3, .int (tI K)), (4, .int (nI k)), (5, .int (fI ((pg xF r) k)))]) C d_M_emitPolynomial_56 (by decide) rfl ?_
        refine z_iload C d_M_emitPolynomial_58 rfl ?_
        refine z_if_eq (tgt := 144) C d_M_emitPolynomial_60 (by decide) (fun c_60 => absurd c_60 (fun q => hz0 (fI_eq0.mp q))) (fun _ => ?_)
        refine z_iload C d_M_emitPolynomial_63 rfl ?_
        refine z_iload_n C d_M_emitPolynomial_65 rfl rfl ?_
        refine z_icmp_ge (tgt := 75) C d_M_emitPolynomial_66 (by decide) (fun c_66 => absurd c_66 (fun q => by rw [← tI_s k] at q; have := (tI_lel (by omega) (by omega)).mp q; omega)) (fun _ => ?_)
        refine z_aload_n C d_M_emitPolynomial_69 rfl rfl ?_
        refine z_bipush (v := nI 43) C d_M_emitPolynomial_70 (by decide) ?_
        refine z_callV (rest := []) (n := 1) (As := [.int (nI 43)]) C (m_emit E X.2.1 sz _ H1 hwa 43 (by simp only [List.length_append, List.length_singleton, List.length_nil] at *; omega)) ⟨z_cb C k_M_emit ml_M_217 ii_M rfl rfl (by decide +kernel) ⟨by decide, by decide⟩, C.2.2.2.2.1 _ im_M_emit, C.2.2.2.2.1 _ se_M_emit⟩ H1.1 rfl rfl rfl (Nat.le_of_ble_eq_true rfl) d_M_emitPolynomial_72 ⟨by decide, by decide⟩ ?_
        intro v_M1_72 s_M1_72 M_M1_72 hp_M1_72
        obtain ⟨rfl, rfl, ho_M1_72, H_M1_72⟩ := hp_M1_72
        have hz_M1_72 : zoutR M M_M1_72 m (m + 15) := zoutR_tr hz1 ho_M1_72
        show Z _ _ _ _ _ _ _ _ 75 _ []
        refine z_iload C d_M_emitPolynomial_75 rfl ?_
        refine z_top (y := nI (((pg xF r) k).val)) rfl ?_
        refine z_iconst (v := nI 1) C d_M_emitPolynomial_77 (by decide) ?_
        refine z_icmp_gt (tgt := 86) C d_M_emitPolynomial_78 (by decide) (fun c_78 => absurd c_78 (fun q => by have := (nI_ltI (a := 1) (b := ((pg xF r) k).val) (by omega) (by omega)).mp q; omega)) (fun _ => ?_)
        refine z_iload C d_M_emitPolynomial_81 rfl ?_
        refine z_if_ne (tgt := 92) C d_M_emitPolynomial_83 (by decide) (fun _ => ?_) (fun c_83 => absurd c_83 (fun q => absurd ((nI_eq (a := k) (b := 0) (by omega) (by omega)).mp q) (by omega)))
        refine z_iload C d_M_emitPolynomial_92 rfl ?_
        refine z_top (y := nI (((pg xF r) k).val)) rfl ?_
        refine z_iconst (v := nI 1) C d_M_emitPolynomial_94 (by decide) ?_
        refine z_icmp_le (tgt := 109) C d_M_emitPolynomial_95 (by decide) (fun _ => ?_) (fun c_95 => absurd ((nI_leI (a := ((pg xF r) k).val) (b := 1) (by omega) (by omega)).mpr (by omega)) c_95)
        refine z_iload C d_M_emitPolynomial_109 rfl ?_
        refine z_if_le (tgt := 120) C d_M_emitPolynomial_111 (by decide) (fun c_111 => absurd c_111 (fun q => by have := (nI_leI (a := k) (b := 0) (by omega) (by omega)).mp q; omega)) (fun _ => ?_)
        refine z_aload_n C d_M_emitPolynomial_114 rfl rfl ?_
        refine z_bipush (v := nI 120) C d_M_emitPolynomial_115 (by decide) ?_
        refine z_callV (rest := []) (n := 1) (As := [.int (nI 120)]) C (m_emit E X.2.1 sz _ H_M1_72 hwa 120 (by simp only [List.length_append, List.length_singleton, List.length_nil] at *; omega)) ⟨z_cb C k_M_emit ml_M_217 ii_M rfl rfl (by decide +kernel) ⟨by decide, by decide⟩, C.2.2.2.2.1 _ im_M_emit, C.2.2.2.2.1 _ se_M_emit⟩ H_M1_72.1 rfl rfl rfl (Nat.le_of_ble_eq_true rfl) d_M_emitPolynomial_117 ⟨by decide, by decide⟩ ?_
        intro v_M_M1_72_117 s_M_M1_72_117 M_M_M1_72_117 hp_M_M1_72_117
        obtain ⟨rfl, rfl, ho_M_M1_72_117, H_M_M1_72_117⟩ := hp_M_M1_72_117
        have hz_M_M1_72_117 : zoutR M M_M_M1_72_117 m (m + 15) := zoutR_tr hz_M1_72 ho_M_M1_72_117
        show Z _ _ _ _ _ _ _ _ 120 _ []
        refine z_iload C d_M_emitPolynomial_120 rfl ?_
        refine z_iconst (v := nI 1) C d_M_emitPolynomial_122 (by decide) ?_
        refine z_icmp_le (tgt := 132) C d_M_emitPolynomial_123 (by decide) (fun c_123 => absurd c_123 (fun q => by have := (nI_leI (a := k) (b := 1) (by omega) (by omega)).mp q; omega)) (fun _ => ?_)
        refine z_aload_n C d_M_emitPolynomial_126 rfl rfl ?_
        refine z_bipush (v := nI 94) C d_M_emitPolynomial_127 (by decide) ?_
        refine z_callV (rest := []) (n := 1) (As := [.int (nI 94)]) C (m_emit E X.2.1 sz _ H_M_M1_72_117 hwa 94 (by simp only [List.length_append, List.length_singleton, List.length_nil] at *; omega)) ⟨z_cb C k_M_emit ml_M_217 ii_M rfl rfl (by decide +kernel) ⟨by decide, by decide⟩, C.2.2.2.2.1 _ im_M_emit, C.2.2.2.2.1 _ se_M_emit⟩ H_M_M1_72_117.1 rfl rfl rfl (Nat.le_of_ble_eq_true rfl) d_M_emitPolynomial_129 ⟨by decide, by decide⟩ ?_
        intro v__M_M1_72_117_129 s__M_M1_72_117_129 M__M_M1_72_117_129 hp__M_M1_72_117_129
        obtain ⟨rfl, rfl, ho__M_M1_72_117_129, H__M_M1_72_117_129⟩ := hp__M_M1_72_117_129
        have hz__M_M1_72_117_129 : zoutR M M__M_M1_72_117_129 m (m + 15) := zoutR_tr hz_M_M1_72_117 ho__M_M1_72_117_129
        show Z _ _ _ _ _ _ _ _ 132 _ []
        refine z_iload C d_M_emitPolynomial_132 rfl ?_
        refine z_iconst (v := nI 1) C d_M_emitPolynomial_134 (by decide) ?_
        refine z_icmp_le (tgt := 144) C d_M_emitPolynomial_135 (by decide) (fun c_135 => absurd c_135 (fun q => by have := (nI_leI (a := k) (b := 1) (by omega) (by omega)).mp q; omega)) (fun _ => ?_)
        refine z_aload_n C d_M_emitPolynomial_138 rfl rfl ?_
        refine z_iload C d_M_emitPolynomial_139 rfl ?_
        refine z_callV (rest := []) (n := 1) (As := [.int (nI k)]) C (m_emitNumber E X.2.1 sz _ H__M_M1_72_117_129 hwa k (by omega) (by omega) (by simp only [List.length_append, List.length_singleton, List.length_nil] at *; omega)) ⟨z_cb C k_M_emitNumber ml_M_220 ii_M rfl rfl (by decide +kernel) ⟨by decide, by decide⟩, C.2.2.2.2.1 _ im_M_emitNumber, C.2.2.2.2.1 _ se_M_emitNumber⟩ H__M_M1_72_117_129.1 rfl rfl rfl (Nat.le_of_ble_eq_true rfl) d_M_emitPolynomial_141 ⟨by decide, by decide⟩ ?_
        intro v_1_72_117_129_141 s_1_72_117_129_141 M_1_72_117_129_141 hp_1_72_117_129_141
        obtain ⟨rfl, rfl, ho_1_72_117_129_141, H_1_72_117_129_141⟩ := hp_1_72_117_129_141
        have hz_1_72_117_129_141 : zoutR M M_1_72_117_129_141 m (m + 15) := zoutR_tr hz__M_M1_72_117_129 ho_1_72_117_129_141
        show Z _ _ _ _ _ _ _ _ 144 _ []
        refine z_iinc (v := tI k) (L' := [(0, .ref m), (1, .int (nI r)), (2, .int (nI 0)), (3, .int (tI K)), (4, .int (tI k)), (5, .int (fI ((pg xF r) k)))]) C d_M_emitPolynomial_144 rfl (nI_dec k) (by decide) rfl ?_
        refine z_goto (tgt := 20) C d_M_emitPolynomial_147 (by decide) ?_
        refine z_sub [0, 1, 2, 3, 4] rfl ?_
        refine ih _ (l1 ++ [43] ++ [120] ++ [94] ++ sn k) (by omega) (by simp only [List.length_append, List.length_singleton, List.length_nil] at *; omega) hz_1_72_117_129_141 H_1_72_117_129_141 ?_
        rw [e1, show spl (pg xF r) K (k + 1) = (if (pg xF r) k = 0 then [] else (if k + 1 < K then [43] else []) ++ sp ((pg xF r) k).val k) ++ spl (pg xF r) K k from rfl, if_neg hz0, if_pos hh0]
        unfold sp
        rw [if_neg (show ¬ k = 0 by omega), if_pos hv0, if_pos hk0]
        try simp only [List.append_assoc, List.nil_append, List.append_nil, List.singleton_append, List.cons_append]
      have g200 : 1 < k → ((pg xF r) k).val = 1 → ¬ k + 1 < K → Z X E 6 (zQ X E 0 0 (fun v s M' => none = v ∧ sz = s ∧ zoutR M M' m (m + 15) ∧ mw E M' m xln xlen xlab xbad xlev xtr xwa ((ls ++ txtP (pg xF r) K).length) ((ls ++ txtP (pg xF r) K).getD xwa 0) xsf xbf xF xG xP xQ xmm xsl xkd xhs xht xsg xdv)) 0 0 sz M1 20 [(0, .ref m), (1, .int (nI r)), (2, .int (nI 0)), (3, .int (tI K)), (4, .int (nI k))] [] := by
        intro hk0 hv0 hh0
        refine z_iload C d_M_emitPolynomial_20 rfl ?_
        refine z_if_lt (tgt := 150) C d_M_emitPolynomial_22 (by decide) (fun c_22 => absurd c_22 (fun q => absurd ((nI_ltI (a := k) (b := 0) (by omega) (by omega)).mp q) (by omega))) (fun _ => ?_)
        refine z_iload_n C d_M_emitPolynomial_25 rfl rfl ?_
        refine z_if_eq (tgt := 44) C d_M_emitPolynomial_26 (by decide) (fun _ => ?_) (fun c_26 => absurd (rfl) c_26)
        refine z_aload_n C d_M_emitPolynomial_44 rfl rfl ?_
        refine z_get C in_M H1.1 rfl 11 (by decide) fl_M_23 rfl rfl d_M_emitPolynomial_45 ?_
        refine z_iload_n C d_M_emitPolynomial_48 rfl rfl ?_
        refine z_bipush (v := nI 13) C d_M_emitPolynomial_49 (by decide) ?_
        refine z_imul C d_M_emitPolynomial_51 ?_
        refine z_top (y := nI (r * 13)) (pk_mul _ _) ?_
        refine z_iload C d_M_emitPolynomial_52 rfl ?_
        refine z_iadd C d_M_emitPolynomial_54 ?_
        refine z_top (y := nI ((r * 13) + k)) (nI_add _ _) ?_
        refine z_iald C H1.2.2.2.2.1 0 rfl ((r * 13) + k) (rfl) (by omega) (by omega) d_M_emitPolynomial_55 ?_
        refine z_top (y := fI ((pg xF r) k)) (congrArg fI (pg_at (by omega)).symm) ?_
        refine z_istore (L' := [(0, .ref m), (1, .int (nI r)), (2, .int (nI 0)), (3, .int (tI K)), (4, .int (nI k)), (5, .int (fI ((pg xF r) k)))]) C d_M_emitPolynomial_56 (by decide) rfl ?_
        refine z_iload C d_M_emitPolynomial_58 rfl ?_
        refine z_if_eq (tgt := 144) C d_M_emitPolynomial_60 (by decide) (fun c_60 => absurd c_60 (fun q => hz0 (fI_eq0.mp q))) (fun _ => ?_)
        refine z_iload C d_M_emitPolynomial_63 rfl ?_
        refine z_iload_n C d_M_emitPolynomial_65 rfl rfl ?_
        refine z_icmp_ge (tgt := 75) C d_M_emitPolynomial_66 (by decide) (fun _ => ?_) (fun c_66 => absurd (by rw [← tI_s k]; exact (tI_lel (by omega) (by omega)).mpr (by omega)) c_66)
        refine z_iload C d_M_emitPolynomial_75 rfl ?_
        refine z_top (y := nI (((pg xF r) k).val)) rfl ?_
        refine z_iconst (v := nI 1) C d_M_emitPolynomial_77 (by decide) ?_
        refine z_icmp_gt (tgt := 86) C d_M_emitPolynomial_78 (by decide) (fun c_78 => absurd c_78 (fun q => by have := (nI_ltI (a := 1) (b := ((pg xF r) k).val) (by omega) (by omega)).mp q; omega)) (fun _ => ?_)
        refine z_iload C d_M_emitPolynomial_81 rfl ?_
        refine z_if_ne (tgt := 92) C d_M_emitPolynomial_83 (by decide) (fun _ => ?_) (fun c_83 => absurd c_83 (fun q => absurd ((nI_eq (a := k) (b := 0) (by omega) (by omega)).mp q) (by omega)))
        refine z_iload C d_M_emitPolynomial_92 rfl ?_
        refine z_top (y := nI (((pg xF r) k).val)) rfl ?_
        refine z_iconst (v := nI 1) C d_M_emitPolynomial_94 (by decide) ?_
        refine z_icmp_le (tgt := 109) C d_M_emitPolynomial_95 (by decide) (fun _ => ?_) (fun c_95 => absurd ((nI_leI (a := ((pg xF r) k).val) (b := 1) (by omega) (by omega)).mpr (by omega)) c_95)
        refine z_iload C d_M_emitPolynomial_109 rfl ?_
        refine z_if_le (tgt := 120) C d_M_emitPolynomial_111 (by decide) (fun c_111 => absurd c_111 (fun q => by have := (nI_leI (a := k) (b := 0) (by omega) (by omega)).mp q; omega)) (fun _ => ?_)
        refine z_aload_n C d_M_emitPolynomial_114 rfl rfl ?_
        refine z_bipush (v := nI 120) C d_M_emitPolynomial_115 (by decide) ?_
        refine z_callV (rest := []) (n := 1) (As := [.int (nI 120)]) C (m_emit E X.2.1 sz _ H1 hwa 120 (by simp only [List.length_append, List.length_singleton, List.length_nil] at *; omega)) ⟨z_cb C k_M_emit ml_M_217 ii_M rfl rfl (by decide +kernel) ⟨by decide, by decide⟩, C.2.2.2.2.1 _ im_M_emit, C.2.2.2.2.1 _ se_M_emit⟩ H1.1 rfl rfl rfl (Nat.le_of_ble_eq_true rfl) d_M_emitPolynomial_117 ⟨by decide, by decide⟩ ?_
        intro v_M1_117 s_M1_117 M_M1_117 hp_M1_117
        obtain ⟨rfl, rfl, ho_M1_117, H_M1_117⟩ := hp_M1_117
        have hz_M1_117 : zoutR M M_M1_117 m (m + 15) := zoutR_tr hz1 ho_M1_117
        show Z _ _ _ _ _ _ _ _ 120 _ []
        refine z_iload C d_M_emitPolynomial_120 rfl ?_
        refine z_iconst (v := nI 1) C d_M_emitPolynomial_122 (by decide) ?_
        refine z_icmp_le (tgt := 132) C d_M_emitPolynomial_123 (by decide) (fun c_123 => absurd c_123 (fun q => by have := (nI_leI (a := k) (b := 1) (by omega) (by omega)).mp q; omega)) (fun _ => ?_)
        refine z_aload_n C d_M_emitPolynomial_126 rfl rfl ?_
        refine z_bipush (v := nI 94) C d_M_emitPolynomial_127 (by decide) ?_
        refine z_callV (rest := []) (n := 1) (As := [.int (nI 94)]) C (m_emit E X.2.1 sz _ H_M1_117 hwa 94 (by simp only [List.length_append, List.length_singleton, List.length_nil] at *; omega)) ⟨z_cb C k_M_emit ml_M_217 ii_M rfl rfl (by decide +kernel) ⟨by decide, by decide⟩, C.2.2.2.2.1 _ im_M_emit, C.2.2.2.2.1 _ se_M_emit⟩ H_M1_117.1 rfl rfl rfl (Nat.le_of_ble_eq_true rfl) d_M_emitPolynomial_129 ⟨by decide, by decide⟩ ?_
        intro v_M_M1_117_129 s_M_M1_117_129 M_M_M1_117_129 hp_M_M1_117_129
        obtain ⟨rfl, rfl, ho_M_M1_117_129, H_M_M1_117_129⟩ := hp_M_M1_117_129
        have hz_M_M1_117_129 : zoutR M M_M_M1_117_129 m (m + 15) := zoutR_tr hz_M1_117 ho_M_M1_117_129
        show Z _ _ _ _ _ _ _ _ 132 _ []
        refine z_iload C d_M_emitPolynomial_132 rfl ?_
        refine z_iconst (v := nI 1) C d_M_emitPolynomial_134 (by decide) ?_
        refine z_icmp_le (tgt := 144) C d_M_emitPolynomial_135 (by decide) (fun c_135 => absurd c_135 (fun q => by have := (nI_leI (a := k) (b := 1) (by omega) (by omega)).mp q; omega)) (fun _ => ?_)
        refine z_aload_n C d_M_emitPolynomial_138 rfl rfl ?_
        refine z_iload C d_M_emitPolynomial_139 rfl ?_
        refine z_callV (rest := []) (n := 1) (As := [.int (nI k)]) C (m_emitNumber E X.2.1 sz _ H_M_M1_117_129 hwa k (by omega) (by omega) (by simp only [List.length_append, List.length_singleton, List.length_nil] at *; omega)) ⟨z_cb C k_M_emitNumber ml_M_220 ii_M rfl rfl (by decide +kernel) ⟨by decide, by decide⟩, C.2.2.2.2.1 _ im_M_emitNumber, C.2.2.2.2.1 _ se_M_emitNumber⟩ H_M_M1_117_129.1 rfl rfl rfl (Nat.le_of_ble_eq_true rfl) d_M_emitPolynomial_141 ⟨by decide, by decide⟩ ?_
        intro v_M_M1_117_129_141 s_M_M1_117_129_141 M_M_M1_117_129_141 hp_M_M1_117_129_141
        obtain ⟨rfl, rfl, ho_M_M1_117_129_141, H_M_M1_117_129_141⟩ := hp_M_M1_117_129_141
        have hz_M_M1_117_129_141 : zoutR M M_M_M1_117_129_141 m (m + 15) := zoutR_tr hz_M_M1_117_129 ho_M_M1_117_129_141
        show Z _ _ _ _ _ _ _ _ 144 _ []
        refine z_iinc (v := tI k) (L' := [(0, .ref m), (1, .int (nI r)), (2, .int (nI 0)), (3, .int (tI K)), (4, .int (tI k)), (5, .int (fI ((pg xF r) k)))]) C d_M_emitPolynomial_144 rfl (nI_dec k) (by decide) rfl ?_
        refine z_goto (tgt := 20) C d_M_emitPolynomial_147 (by decide) ?_
        refine z_sub [0, 1, 2, 3, 4] rfl ?_
        refine ih _ (l1 ++ [120] ++ [94] ++ sn k) (by omega) (by simp only [List.length_append, List.length_singleton, List.length_nil] at *; omega) hz_M_M1_117_129_141 H_M_M1_117_129_141 ?_
        rw [e1, show spl (pg xF r) K (k + 1) = (if (pg xF r) k = 0 then [] else (if k + 1 < K then [43] else []) ++ sp ((pg xF r) k).val k) ++ spl (pg xF r) K k from rfl, if_neg hz0, if_neg hh0]
        unfold sp
        rw [if_neg (show ¬ k = 0 by omega), if_pos hv0, if_pos hk0]
        try simp only [List.append_assoc, List.nil_append, List.append_nil, List.singleton_append, List.cons_append]
      have g211 : 1 < k → 1 < ((pg xF r) k).val → k + 1 < K → Z X E 6 (zQ X E 0 0 (fun v s M' => none = v ∧ sz = s ∧ zoutR M M' m (m + 15) ∧ mw E M' m xln xlen xlab xbad xlev xtr xwa ((ls ++ txtP (pg xF r) K).length) ((ls ++ txtP (pg xF r) K).getD xwa 0) xsf xbf xF xG xP xQ xmm xsl xkd xhs xht xsg xdv)) 0 0 sz M1 20 [(0, .ref m), (1, .int (nI r)), (2, .int (nI 0)), (3, .int (tI K)), (4, .int (nI k))] [] := by
        intro hk0 hv0 hh0
        refine z_iload C d_M_emitPolynomial_20 rfl ?_
        refine z_if_lt (tgt := 150) C d_M_emitPolynomial_22 (by decide) (fun c_22 => absurd c_22 (fun q => absurd ((nI_ltI (a := k) (b := 0) (by omega) (by omega)).mp q) (by omega))) (fun _ => ?_)
        refine z_iload_n C d_M_emitPolynomial_25 rfl rfl ?_
        refine z_if_eq (tgt := 44) C d_M_emitPolynomial_26 (by decide) (fun _ => ?_) (fun c_26 => absurd (rfl) c_26)
        refine z_aload_n C d_M_emitPolynomial_44 rfl rfl ?_
        refine z_get C in_M H1.1 rfl 11 (by decide) fl_M_23 rfl rfl d_M_emitPolynomial_45 ?_
        refine z_iload_n C d_M_emitPolynomial_48 rfl rfl ?_
        refine z_bipush (v := nI 13) C d_M_emitPolynomial_49 (by decide) ?_
        refine z_imul C d_M_emitPolynomial_51 ?_
        refine z_top (y := nI (r * 13)) (pk_mul _ _) ?_
        refine z_iload C d_M_emitPolynomial_52 rfl ?_
        refine z_iadd C d_M_emitPolynomial_54 ?_
        refine z_top (y := nI ((r * 13) + k)) (nI_add _ _) ?_
        refine z_iald C H1.2.2.2.2.1 0 rfl ((r * 13) + k) (rfl) (by omega) (by omega) d_M_emitPolynomial_55 ?_
        refine z_top (y := fI ((pg xF r) k)) (congrArg fI (pg_at (by omega)).symm) ?_
        refine z_istore (L' := [(0, .ref m), (1, .int (nI r)), (2, .int (nI 0)), (3, .int (tI K)), (4, .int (nI k)), (5, .int (fI ((pg xF r) k)))]) C d_M_emitPolynomial_56 (by decide) rfl ?_
        refine z_iload C d_M_emitPolynomial_58 rfl ?_
        refine z_if_eq (tgt := 144) C d_M_emitPolynomial_60 (by decide) (fun c_60 => absurd c_60 (fun q => hz0 (fI_eq0.mp q))) (fun _ => ?_)
        refine z_iload C d_M_emitPolynomial_63 rfl ?_
        refine z_iload_n C d_M_emitPolynomial_65 rfl rfl ?_
        refine z_icmp_ge (tgt := 75) C d_M_emitPolynomial_66 (by decide) (fun c_66 => absurd c_66 (fun q => by rw [← tI_s k] at q; have := (tI_lel (by omega) (by omega)).mp q; omega)) (fun _ => ?_)
        refine z_aload_n C d_M_emitPolynomial_69 rfl rfl ?_
        refine z_bipush (v := nI 43) C d_M_emitPolynomial_70 (by decide) ?_
        refine z_callV (rest := []) (n := 1) (As := [.int (nI 43)]) C (m_emit E X.2.1 sz _ H1 hwa 43 (by simp only [List.length_append, List.length_singleton, List.length_nil] at *; omega)) ⟨z_cb C k_M_emit ml_M_217 ii_M rfl rfl (by decide +kernel) ⟨by decide, by decide⟩, C.2.2.2.2.1 _ im_M_emit, C.2.2.2.2.1 _ se_M_emit⟩ H1.1 rfl rfl rfl (Nat.le_of_ble_eq_true rfl) d_M_emitPolynomial_72 ⟨by decide, by decide⟩ ?_
        intro v_M1_72 s_M1_72 M_M1_72 hp_M1_72
        obtain ⟨rfl, rfl, ho_M1_72, H_M1_72⟩ := hp_M1_72
        have hz_M1_72 : zoutR M M_M1_72 m (m + 15) := zoutR_tr hz1 ho_M1_72
        show Z _ _ _ _ _ _ _ _ 75 _ []
        refine z_iload C d_M_emitPolynomial_75 rfl ?_
        refine z_top (y := nI (((pg xF r) k).val)) rfl ?_
        refine z_iconst (v := nI 1) C d_M_emitPolynomial_77 (by decide) ?_
        refine z_icmp_gt (tgt := 86) C d_M_emitPolynomial_78 (by decide) (fun _ => ?_) (fun c_78 => absurd ((nI_ltI (a := 1) (b := ((pg xF r) k).val) (by omega) (by omega)).mpr (by omega)) c_78)
        refine z_aload_n C d_M_emitPolynomial_86 rfl rfl ?_
        refine z_iload C d_M_emitPolynomial_87 rfl ?_
        refine z_top (y := nI (((pg xF r) k).val)) rfl ?_
        refine z_callV (rest := []) (n := 1) (As := [.int (nI (((pg xF r) k).val))]) C (m_emitNumber E X.2.1 sz _ H_M1_72 hwa (((pg xF r) k).val) (by omega) (by omega) (by simp only [List.length_append, List.length_singleton, List.length_nil] at *; omega)) ⟨z_cb C k_M_emitNumber ml_M_220 ii_M rfl rfl (by decide +kernel) ⟨by decide, by decide⟩, C.2.2.2.2.1 _ im_M_emitNumber, C.2.2.2.2.1 _ se_M_emitNumber⟩ H_M1_72.1 rfl rfl rfl (Nat.le_of_ble_eq_true rfl) d_M_emitPolynomial_89 ⟨by decide, by decide⟩ ?_
        intro v_M_M1_72_89 s_M_M1_72_89 M_M_M1_72_89 hp_M_M1_72_89
        obtain ⟨rfl, rfl, ho_M_M1_72_89, H_M_M1_72_89⟩ := hp_M_M1_72_89
        have hz_M_M1_72_89 : zoutR M M_M_M1_72_89 m (m + 15) := zoutR_tr hz_M1_72 ho_M_M1_72_89
        show Z _ _ _ _ _ _ _ _ 92 _ []
        refine z_iload C d_M_emitPolynomial_92 rfl ?_
        refine z_top (y := nI (((pg xF r) k).val)) rfl ?_
        refine z_iconst (v := nI 1) C d_M_emitPolynomial_94 (by decide) ?_
        refine z_icmp_le (tgt := 109) C d_M_emitPolynomial_95 (by decide) (fun c_95 => absurd c_95 (fun q => by have := (nI_leI (a := ((pg xF r) k).val) (b := 1) (by omega) (by omega)).mp q; omega)) (fun _ => ?_)
        refine z_iload C d_M_emitPolynomial_98 rfl ?_
        refine z_if_le (tgt := 109) C d_M_emitPolynomial_100 (by decide) (fun c_100 => absurd c_100 (fun q => by have := (nI_leI (a := k) (b := 0) (by omega) (by omega)).mp q; omega)) (fun _ => ?_)
        refine z_aload_n C d_M_emitPolynomial_103 rfl rfl ?_
        refine z_bipush (v := nI 42) C d_M_emitPolynomial_104 (by decide) ?_
        refine z_callV (rest := []) (n := 1) (As := [.int (nI 42)]) C (m_emit E X.2.1 sz _ H_M_M1_72_89 hwa 42 (by simp only [List.length_append, List.length_singleton, List.length_nil] at *; omega)) ⟨z_cb C k_M_emit ml_M_217 ii_M rfl rfl (by decide +kernel) ⟨by decide, by decide⟩, C.2.2.2.2.1 _ im_M_emit, C.2.2.2.2.1 _ se_M_emit⟩ H_M_M1_72_89.1 rfl rfl rfl (Nat.le_of_ble_eq_true rfl) d_M_emitPolynomial_106 ⟨by decide, by decide⟩ ?_
        intro v_M_M_M1_72_89_106 s_M_M_M1_72_89_106 M_M_M_M1_72_89_106 hp_M_M_M1_72_89_106
        obtain ⟨rfl, rfl, ho_M_M_M1_72_89_106, H_M_M_M1_72_89_106⟩ := hp_M_M_M1_72_89_106
        have hz_M_M_M1_72_89_106 : zoutR M M_M_M_M1_72_89_106 m (m + 15) := zoutR_tr hz_M_M1_72_89 ho_M_M_M1_72_89_106
        show Z _ _ _ _ _ _ _ _ 109 _ []
        refine z_iload C d_M_emitPolynomial_109 rfl ?_
        refine z_if_le (tgt := 120) C d_M_emitPolynomial_111 (by decide) (fun c_111 => absurd c_111 (fun q => by have := (nI_leI (a := k) (b := 0) (by omega) (by omega)).mp q; omega)) (fun _ => ?_)
        refine z_aload_n C d_M_emitPolynomial_114 rfl rfl ?_
        refine z_bipush (v := nI 120) C d_M_emitPolynomial_115 (by decide) ?_
        refine z_callV (rest := []) (n := 1) (As := [.int (nI 120)]) C (m_emit E X.2.1 sz _ H_M_M_M1_72_89_106 hwa 120 (by simp only [List.length_append, List.length_singleton, List.length_nil] at *; omega)) ⟨z_cb C k_M_emit ml_M_217 ii_M rfl rfl (by decide +kernel) ⟨by decide, by decide⟩, C.2.2.2.2.1 _ im_M_emit, C.2.2.2.2.1 _ se_M_emit⟩ H_M_M_M1_72_89_106.1 rfl rfl rfl (Nat.le_of_ble_eq_true rfl) d_M_emitPolynomial_117 ⟨by decide, by decide⟩ ?_
        intro v_M1_72_89_106_117 s_M1_72_89_106_117 M_M1_72_89_106_117 hp_M1_72_89_106_117
        obtain ⟨rfl, rfl, ho_M1_72_89_106_117, H_M1_72_89_106_117⟩ := hp_M1_72_89_106_117
        have hz_M1_72_89_106_117 : zoutR M M_M1_72_89_106_117 m (m + 15) := zoutR_tr hz_M_M_M1_72_89_106 ho_M1_72_89_106_117
        show Z _ _ _ _ _ _ _ _ 120 _ []
        refine z_iload C d_M_emitPolynomial_120 rfl ?_
        refine z_iconst (v := nI 1) C d_M_emitPolynomial_122 (by decide) ?_
        refine z_icmp_le (tgt := 132) C d_M_emitPolynomial_123 (by decide) (fun c_123 => absurd c_123 (fun q => by have := (nI_leI (a := k) (b := 1) (by omega) (by omega)).mp q; omega)) (fun _ => ?_)
        refine z_aload_n C d_M_emitPolynomial_126 rfl rfl ?_
        refine z_bipush (v := nI 94) C d_M_emitPolynomial_127 (by decide) ?_
        refine z_callV (rest := []) (n := 1) (As := [.int (nI 94)]) C (m_emit E X.2.1 sz _ H_M1_72_89_106_117 hwa 94 (by simp only [List.length_append, List.length_singleton, List.length_nil] at *; omega)) ⟨z_cb C k_M_emit ml_M_217 ii_M rfl rfl (by decide +kernel) ⟨by decide, by decide⟩, C.2.2.2.2.1 _ im_M_emit, C.2.2.2.2.1 _ se_M_emit⟩ H_M1_72_89_106_117.1 rfl rfl rfl (Nat.le_of_ble_eq_true rfl) d_M_emitPolynomial_129 ⟨by decide, by decide⟩ ?_
        intro v_2_89_106_117_129 s_2_89_106_117_129 M_2_89_106_117_129 hp_2_89_106_117_129
        obtain ⟨rfl, rfl, ho_2_89_106_117_129, H_2_89_106_117_129⟩ := hp_2_89_106_117_129
        have hz_2_89_106_117_129 : zoutR M M_2_89_106_117_129 m (m + 15) := zoutR_tr hz_M1_72_89_106_117 ho_2_89_106_117_129
        show Z _ _ _ _ _ _ _ _ 132 _ []
        refine z_iload C d_M_emitPolynomial_132 rfl ?_
        refine z_iconst (v := nI 1) C d_M_emitPolynomial_134 (by decide) ?_
        refine z_icmp_le (tgt := 144) C d_M_emitPolynomial_135 (by decide) (fun c_135 => absurd c_135 (fun q => by have := (nI_leI (a := k) (b := 1) (by omega) (by omega)).mp q; omega)) (fun _ => ?_)
        refine z_aload_n C d_M_emitPolynomial_138 rfl rfl ?_
        refine z_iload C d_M_emitPolynomial_139 rfl ?_
        refine z_callV (rest := []) (n := 1) (As := [.int (nI k)]) C (m_emitNumber E X.2.1 sz _ H_2_89_106_117_129 hwa k (by omega) (by omega) (by simp only [List.length_append, List.length_singleton, List.length_nil] at *; omega)) ⟨z_cb C k_M_emitNumber ml_M_220 ii_M rfl rfl (by decide +kernel) ⟨by decide, by decide⟩, C.2.2.2.2.1 _ im_M_emitNumber, C.2.2.2.2.1 _ se_M_emitNumber⟩ H_2_89_106_117_129.1 rfl rfl rfl (Nat.le_of_ble_eq_true rfl) d_M_emitPolynomial_141 ⟨by decide, by decide⟩ ?_
        intro v__106_117_129_141 s__106_117_129_141 M__106_117_129_141 hp__106_117_129_141
        obtain ⟨rfl, rfl, ho__106_117_129_141, H__106_117_129_141⟩ := hp__106_117_129_141
        have hz__106_117_129_141 : zoutR M M__106_117_129_141 m (m + 15) := zoutR_tr hz_2_89_106_117_129 ho__106_117_129_141
        show Z _ _ _ _ _ _ _ _ 144 _ []
        refine z_iinc (v := tI k) (L' := [(0, .ref m), (1, .int (nI r)), (2, .int (nI 0)), (3, .int (tI K)), (4, .int (tI k)), (5, .int (fI ((pg xF r) k)))]) C d_M_emitPolynomial_144 rfl (nI_dec k) (by decide) rfl ?_
        refine z_goto (tgt := 20) C d_M_emitPolynomial_147 (by decide) ?_
        refine z_sub [0, 1, 2, 3, 4] rfl ?_
        refine ih _ (l1 ++ [43] ++ sn (((pg xF r) k).val) ++ [42] ++ [120] ++ [94] ++ sn k) (by omega) (by simp only [List.length_append, List.length_singleton, List.length_nil] at *; omega) hz__106_117_129_141 H__106_117_129_141 ?_
        rw [e1, show spl (pg xF r) K (k + 1) = (if (pg xF r) k = 0 then [] else (if k + 1 < K then [43] else []) ++ sp ((pg xF r) k).val k) ++ spl (pg xF r) K k from rfl, if_neg hz0, if_pos hh0]
        unfold sp
        rw [if_neg (show ¬ k = 0 by omega), if_neg (show ¬ ((pg xF r) k).val = 1 by omega), if_pos hk0]
        try simp only [List.append_assoc, List.nil_append, List.append_nil, List.singleton_append, List.cons_append]
      have g210 : 1 < k → 1 < ((pg xF r) k).val → ¬ k + 1 < K → Z X E 6 (zQ X E 0 0 (fun v s M' => none = v ∧ sz = s ∧ zoutR M M' m (m + 15) ∧ mw E M' m xln xlen xlab xbad xlev xtr xwa ((ls ++ txtP (pg xF r) K).length) ((ls ++ txtP (pg xF r) K).getD xwa 0) xsf xbf xF xG xP xQ xmm xsl xkd xhs xht xsg xdv)) 0 0 sz M1 20 [(0, .ref m), (1, .int (nI r)), (2, .int (nI 0)), (3, .int (tI K)), (4, .int (nI k))] [] := by
        intro hk0 hv0 hh0
        refine z_iload C d_M_emitPolynomial_20 rfl ?_
        refine z_if_lt (tgt := 150) C d_M_emitPolynomial_22 (by decide) (fun c_22 => absurd c_22 (fun q => absurd ((nI_ltI (a := k) (b := 0) (by omega) (by omega)).mp q) (by omega))) (fun _ => ?_)
        refine z_iload_n C d_M_emitPolynomial_25 rfl rfl ?_
        refine z_if_eq (tgt := 44) C d_M_emitPolynomial_26 (by decide) (fun _ => ?_) (fun c_26 => absurd (rfl) c_26)
        refine z_aload_n C d_M_emitPolynomial_44 rfl rfl ?_
        refine z_get C in_M H1.1 rfl 11 (by decide) fl_M_23 rfl rfl d_M_emitPolynomial_45 ?_
        refine z_iload_n C d_M_emitPolynomial_48 rfl rfl ?_
        refine z_bipush (v := nI 13) C d_M_emitPolynomial_49 (by decide) ?_
        refine z_imul C d_M_emitPolynomial_51 ?_
        refine z_top (y := nI (r * 13)) (pk_mul _ _) ?_
        refine z_iload C d_M_emitPolynomial_52 rfl ?_
        refine z_iadd C d_M_emitPolynomial_54 ?_
        refine z_top (y := nI ((r * 13) + k)) (nI_add _ _) ?_
        refine z_iald C H1.2.2.2.2.1 0 rfl ((r * 13) + k) (rfl) (by omega) (by omega) d_M_emitPolynomial_55 ?_
        refine z_top (y := fI ((pg xF r) k)) (congrArg fI (pg_at (by omega)).symm) ?_
        refine z_istore (L' := [(0, .ref m), (1, .int (nI r)), (2, .int (nI 0)), (3, .int (tI K)), (4, .int (nI k)), (5, .int (fI ((pg xF r) k)))]) C d_M_emitPolynomial_56 (by decide) rfl ?_
        refine z_iload C d_M_emitPolynomial_58 rfl ?_
        refine z_if_eq (tgt := 144) C d_M_emitPolynomial_60 (by decide) (fun c_60 => absurd c_60 (fun q => hz0 (fI_eq0.mp q))) (fun _ => ?_)
        refine z_iload C d_M_emitPolynomial_63 rfl ?_
        refine z_iload_n C d_M_emitPolynomial_65 rfl rfl ?_
        refine z_icmp_ge (tgt := 75) C d_M_emitPolynomial_66 (by decide) (fun _ => ?_) (fun c_66 => absurd (by rw [← tI_s k]; exact (tI_lel (by omega) (by omega)).mpr (by omega)) c_66)
        refine z_iload C d_M_emitPolynomial_75 rfl ?_
        refine z_top (y := nI (((pg xF r) k).val)) rfl ?_
        refine z_iconst (v := nI 1) C d_M_emitPolynomial_77 (by decide) ?_
        refine z_icmp_gt (tgt := 86) C d_M_emitPolynomial_78 (by decide) (fun _ => ?_) (fun c_78 => absurd ((nI_ltI (a := 1) (b := ((pg xF r) k).val) (by omega) (by omega)).mpr (by omega)) c_78)
        refine z_aload_n C d_M_emitPolynomial_86 rfl rfl ?_
        refine z_iload C d_M_emitPolynomial_87 rfl ?_
        refine z_top (y := nI (((pg xF r) k).val)) rfl ?_
        refine z_callV (rest := []) (n := 1) (As := [.int (nI (((pg xF r) k).val))]) C (m_emitNumber E X.2.1 sz _ H1 hwa (((pg xF r) k).val) (by omega) (by omega) (by simp only [List.length_append, List.length_singleton, List.length_nil] at *; omega)) ⟨z_cb C k_M_emitNumber ml_M_220 ii_M rfl rfl (by decide +kernel) ⟨by decide, by decide⟩, C.2.2.2.2.1 _ im_M_emitNumber, C.2.2.2.2.1 _ se_M_emitNumber⟩ H1.1 rfl rfl rfl (Nat.le_of_ble_eq_true rfl) d_M_emitPolynomial_89 ⟨by decide, by decide⟩ ?_
        intro v_M1_89 s_M1_89 M_M1_89 hp_M1_89
        obtain ⟨rfl, rfl, ho_M1_89, H_M1_89⟩ := hp_M1_89
        have hz_M1_89 : zoutR M M_M1_89 m (m + 15) := zoutR_tr hz1 ho_M1_89
        show Z _ _ _ _ _ _ _ _ 92 _ []
        refine z_iload C d_M_emitPolynomial_92 rfl ?_
        refine z_top (y := nI (((pg xF r) k).val)) rfl ?_
        refine z_iconst (v := nI 1) C d_M_emitPolynomial_94 (by decide) ?_
        refine z_icmp_le (tgt := 109) C d_M_emitPolynomial_95 (by decide) (fun c_95 => absurd c_95 (fun q => by have := (nI_leI (a := ((pg xF r) k).val) (b := 1) (by omega) (by omega)).mp q; omega)) (fun _ => ?_)
        refine z_iload C d_M_emitPolynomial_98 rfl ?_
        refine z_if_le (tgt := 109) C d_M_emitPolynomial_100 (by decide) (fun c_100 => absurd c_100 (fun q => by have := (nI_leI (a := k) (b := 0) (by omega) (by omega)).mp q; omega)) (fun _ => ?_)
        refine z_aload_n C d_M_emitPolynomial_103 rfl rfl ?_
        refine z_bipush (v := nI 42) C d_M_emitPolynomial_104 (by decide) ?_
        refine z_callV (rest := []) (n := 1) (As := [.int (nI 42)]) C (m_emit E X.2.1 sz _ H_M1_89 hwa 42 (by simp only [List.length_append, List.length_singleton, List.length_nil] at *; omega)) ⟨z_cb C k_M_emit ml_M_217 ii_M rfl rfl (by decide +kernel) ⟨by decide, by decide⟩, C.2.2.2.2.1 _ im_M_emit, C.2.2.2.2.1 _ se_M_emit⟩ H_M1_89.1 rfl rfl rfl (Nat.le_of_ble_eq_true rfl) d_M_emitPolynomial_106 ⟨by decide, by decide⟩ ?_
        intro v_M_M1_89_106 s_M_M1_89_106 M_M_M1_89_106 hp_M_M1_89_106
        obtain ⟨rfl, rfl, ho_M_M1_89_106, H_M_M1_89_106⟩ := hp_M_M1_89_106
        have hz_M_M1_89_106 : zoutR M M_M_M1_89_106 m (m + 15) := zoutR_tr hz_M1_89 ho_M_M1_89_106
        show Z _ _ _ _ _ _ _ _ 109 _ []
        refine z_iload C d_M_emitPolynomial_109 rfl ?_
        refine z_if_le (tgt := 120) C d_M_emitPolynomial_111 (by decide) (fun c_111 => absurd c_111 (fun q => by have := (nI_leI (a := k) (b := 0) (by omega) (by omega)).mp q; omega)) (fun _ => ?_)
        refine z_aload_n C d_M_emitPolynomial_114 rfl rfl ?_
        refine z_bipush (v := nI 120) C d_M_emitPolynomial_115 (by decide) ?_
        refine z_callV (rest := []) (n := 1) (As := [.int (nI 120)]) C (m_emit E X.2.1 sz _ H_M_M1_89_106 hwa 120 (by simp only [List.length_append, List.length_singleton, List.length_nil] at *; omega)) ⟨z_cb C k_M_emit ml_M_217 ii_M rfl rfl (by decide +kernel) ⟨by decide, by decide⟩, C.2.2.2.2.1 _ im_M_emit, C.2.2.2.2.1 _ se_M_emit⟩ H_M_M1_89_106.1 rfl rfl rfl (Nat.le_of_ble_eq_true rfl) d_M_emitPolynomial_117 ⟨by decide, by decide⟩ ?_
        intro v__M_M1_89_106_117 s__M_M1_89_106_117 M__M_M1_89_106_117 hp__M_M1_89_106_117
        obtain ⟨rfl, rfl, ho__M_M1_89_106_117, H__M_M1_89_106_117⟩ := hp__M_M1_89_106_117
        have hz__M_M1_89_106_117 : zoutR M M__M_M1_89_106_117 m (m + 15) := zoutR_tr hz_M_M1_89_106 ho__M_M1_89_106_117
        show Z _ _ _ _ _ _ _ _ 120 _ []
        refine z_iload C d_M_emitPolynomial_120 rfl ?_
        refine z_iconst (v := nI 1) C d_M_emitPolynomial_122 (by decide) ?_
        refine z_icmp_le (tgt := 132) C d_M_emitPolynomial_123 (by decide) (fun c_123 => absurd c_123 (fun q => by have := (nI_leI (a := k) (b := 1) (by omega) (by omega)).mp q; omega)) (fun _ => ?_)
        refine z_aload_n C d_M_emitPolynomial_126 rfl rfl ?_
        refine z_bipush (v := nI 94) C d_M_emitPolynomial_127 (by decide) ?_
        refine z_callV (rest := []) (n := 1) (As := [.int (nI 94)]) C (m_emit E X.2.1 sz _ H__M_M1_89_106_117 hwa 94 (by simp only [List.length_append, List.length_singleton, List.length_nil] at *; omega)) ⟨z_cb C k_M_emit ml_M_217 ii_M rfl rfl (by decide +kernel) ⟨by decide, by decide⟩, C.2.2.2.2.1 _ im_M_emit, C.2.2.2.2.1 _ se_M_emit⟩ H__M_M1_89_106_117.1 rfl rfl rfl (Nat.le_of_ble_eq_true rfl) d_M_emitPolynomial_129 ⟨by decide, by decide⟩ ?_
        intro v_1_89_106_117_129 s_1_89_106_117_129 M_1_89_106_117_129 hp_1_89_106_117_129
        obtain ⟨rfl, rfl, ho_1_89_106_117_129, H_1_89_106_117_129⟩ := hp_1_89_106_117_129
        have hz_1_89_106_117_129 : zoutR M M_1_89_106_117_129 m (m + 15) := zoutR_tr hz__M_M1_89_106_117 ho_1_89_106_117_129
        show Z _ _ _ _ _ _ _ _ 132 _ []
        refine z_iload C d_M_emitPolynomial_132 rfl ?_
        refine z_iconst (v := nI 1) C d_M_emitPolynomial_134 (by decide) ?_
        refine z_icmp_le (tgt := 144) C d_M_emitPolynomial_135 (by decide) (fun c_135 => absurd c_135 (fun q => by have := (nI_leI (a := k) (b := 1) (by omega) (by omega)).mp q; omega)) (fun _ => ?_)
        refine z_aload_n C d_M_emitPolynomial_138 rfl rfl ?_
        refine z_iload C d_M_emitPolynomial_139 rfl ?_
        refine z_callV (rest := []) (n := 1) (As := [.int (nI k)]) C (m_emitNumber E X.2.1 sz _ H_1_89_106_117_129 hwa k (by omega) (by omega) (by simp only [List.length_append, List.length_singleton, List.length_nil] at *; omega)) ⟨z_cb C k_M_emitNumber ml_M_220 ii_M rfl rfl (by decide +kernel) ⟨by decide, by decide⟩, C.2.2.2.2.1 _ im_M_emitNumber, C.2.2.2.2.1 _ se_M_emitNumber⟩ H_1_89_106_117_129.1 rfl rfl rfl (Nat.le_of_ble_eq_true rfl) d_M_emitPolynomial_141 ⟨by decide, by decide⟩ ?_
        intro v__106_117_129_141 s__106_117_129_141 M__106_117_129_141 hp__106_117_129_141
        obtain ⟨rfl, rfl, ho__106_117_129_141, H__106_117_129_141⟩ := hp__106_117_129_141
        have hz__106_117_129_141 : zoutR M M__106_117_129_141 m (m + 15) := zoutR_tr hz_1_89_106_117_129 ho__106_117_129_141
        show Z _ _ _ _ _ _ _ _ 144 _ []
        refine z_iinc (v := tI k) (L' := [(0, .ref m), (1, .int (nI r)), (2, .int (nI 0)), (3, .int (tI K)), (4, .int (tI k)), (5, .int (fI ((pg xF r) k)))]) C d_M_emitPolynomial_144 rfl (nI_dec k) (by decide) rfl ?_
        refine z_goto (tgt := 20) C d_M_emitPolynomial_147 (by decide) ?_
        refine z_sub [0, 1, 2, 3, 4] rfl ?_
        refine ih _ (l1 ++ sn (((pg xF r) k).val) ++ [42] ++ [120] ++ [94] ++ sn k) (by omega) (by simp only [List.length_append, List.length_singleton, List.length_nil] at *; omega) hz__106_117_129_141 H__106_117_129_141 ?_
        rw [e1, show spl (pg xF r) K (k + 1) = (if (pg xF r) k = 0 then [] else (if k + 1 < K then [43] else []) ++ sp ((pg xF r) k).val k) ++ spl (pg xF r) K k from rfl, if_neg hz0, if_neg hh0]
        unfold sp
        rw [if_neg (show ¬ k = 0 by omega), if_neg (show ¬ ((pg xF r) k).val = 1 by omega), if_pos hk0]
        try simp only [List.append_assoc, List.nil_append, List.append_nil, List.singleton_append, List.cons_append]
      rcases (by omega : k = 0 ∨ k = 1 ∨ 1 < k) with a | a | a <;> rcases (by omega : ((pg xF r) k).val = 1 ∨ 1 < ((pg xF r) k).val) with b | b <;> by_cases c : k + 1 < K
      · exact g001 a b c
      · exact g000 a b c
      · exact g011 a b c
      · exact g010 a b c
      · exact g101 a b c
      · exact g100 a b c
      · exact g111 a b c
      · exact g110 a b c
      · exact g201 a b c
      · exact g200 a b c
      · exact g211 a b c
      · exact g210 a b c
  show Z X E 6 _ 0 0 sz M 0 [(0, .ref m), (1, .int (nI r)), (2, .int (nI 0))] []
  refine z_aload_n C d_M_emitPolynomial_0 rfl rfl ?_
  refine z_iload_n C d_M_emitPolynomial_1 rfl rfl ?_
  refine z_iload_n C d_M_emitPolynomial_2 rfl rfl ?_
  refine z_callV (rest := []) (n := 2) (As := [.int (nI r), .int (nI 0)]) C (m_top E X.2.1 sz _ H r 0 (by omega) (by decide)) ⟨z_cb C k_M_top ml_M_133 ii_M rfl rfl (by decide +kernel) ⟨by decide, by decide⟩, C.2.2.2.2.1 _ im_M_top, C.2.2.2.2.1 _ se_M_top⟩ H.1 rfl rfl rfl (Nat.le_of_ble_eq_true rfl) d_M_emitPolynomial_3 ⟨by decide, by decide⟩ ?_
  intro v_3 s_3 M_3 hp_3
  obtain ⟨k1, rfl, rfl, rfl, hk1⟩ := hp_3
  have hk1 : isC (pg xF r) k1 := hk1
  have ek : K = k1 := isC_un hK hk1
  subst ek
  show Z _ _ _ _ _ _ _ _ 6 _ [.int (tI K)]
  refine z_istore_n (L' := [(0, .ref m), (1, .int (nI r)), (2, .int (nI 0)), (3, .int (tI K))]) C d_M_emitPolynomial_6 rfl (by decide) rfl ?_
  refine z_iload_n C d_M_emitPolynomial_7 rfl rfl ?_
  refine z_if_ge (tgt := 17) C d_M_emitPolynomial_8 (by decide) (fun c_8 => ?_) (fun c_8 => ?_)
  · have c_8 : 0 < K := (tI_ge0 (n := K) (by omega)).mp c_8
    refine z_iload_n C d_M_emitPolynomial_17 rfl rfl ?_
    refine z_istore (L' := [(0, .ref m), (1, .int (nI r)), (2, .int (nI 0)), (3, .int (tI K)), (4, .int (tI K))]) C d_M_emitPolynomial_18 (by decide) rfl ?_
    exact loop K _ (ls) (Nat.le_refl _) (by first | omega | (simp only [List.length_append, List.length_singleton, List.length_nil]; omega)) zoutR_rf H (by unfold txtP; rw [if_neg (by omega), List.nil_append])
  · have c_8 : K = 0 := Nat.eq_zero_of_not_pos (fun q => c_8 ((tI_ge0 (n := K) (by omega)).mpr q))
    refine z_aload_n C d_M_emitPolynomial_11 rfl rfl ?_
    refine z_bipush (v := nI 48) C d_M_emitPolynomial_12 (by decide) ?_
    refine z_callV (rest := []) (n := 1) (As := [.int (nI 48)]) C (m_emit E X.2.1 sz _ H hwa 48 (by simp only [List.length_append, List.length_singleton, List.length_nil] at *; omega)) ⟨z_cb C k_M_emit ml_M_217 ii_M rfl rfl (by decide +kernel) ⟨by decide, by decide⟩, C.2.2.2.2.1 _ im_M_emit, C.2.2.2.2.1 _ se_M_emit⟩ H.1 rfl rfl rfl (Nat.le_of_ble_eq_true rfl) d_M_emitPolynomial_14 ⟨by decide, by decide⟩ ?_
    intro v_M_14 s_M_14 M_M_14 hp_M_14
    obtain ⟨rfl, rfl, ho_M_14, H_M_14⟩ := hp_M_14
    have hz_M_14 : zoutR M M_M_14 m (m + 15) := zoutR_tr zoutR_rf ho_M_14
    show Z _ _ _ _ _ _ _ _ 17 _ []
    refine z_iload_n C d_M_emitPolynomial_17 rfl rfl ?_
    refine z_istore (L' := [(0, .ref m), (1, .int (nI r)), (2, .int (nI 0)), (3, .int (tI K)), (4, .int (tI K))]) C d_M_emitPolynomial_18 (by decide) rfl ?_
    exact loop K _ (ls ++ [48]) (Nat.le_refl _) (by first | omega | (simp only [List.length_append, List.length_singleton, List.length_nil]; omega)) hz_M_14 H_M_14 (by unfold txtP; rw [if_pos c_8, List.append_assoc])
set_option maxHeartbeats 4000000 in
/-- M_emitPolynomial -/
theorem m_emitPoly1 (E : zE) (l : Launch) (sz : Nat) (M : zM) {m : Nat} {xln : Nat → Nat} {xlen : Nat} {xlab : Nat} {xbad : Int32} {xlev : Nat} {xtr : Int32} {xwa : Nat} {xsf : Nat → Nat} {xbf : Nat → Nat} {xF : Nat → FF} {xG : Nat → FF} {xP : Nat → FF} {xQ : Nat → FF} {xmm : Nat → FF} {xsl : Nat → Nat} {xkd : Nat → Nat} {xhs : Nat → Nat} {xht : Nat → Nat} {xsg : Nat → Nat} {xdv : Nat → Nat} {ls : List Nat} (H : mw E M m xln xlen xlab xbad xlev xtr xwa ((ls).length) ((ls).getD xwa 0) xsf xbf xF xG xP xQ xmm xsl xkd xhs xht xsg xdv) (hwa : xwa < 2 ^ 31) (r K : Nat) (hr : r < 78) (hK : isC (pg xG r) K) (hl : ls.length + 300 < 2 ^ 20) : zMet E l y_M_emitPolynomial c_M_emitPolynomial 6 none { frames := 2, cells := 0, slots := 0, locals := 43 } 0 0 [.ref m, .int (nI r), .int (nI 1)] sz M (fun v s M' => none = v ∧ sz = s ∧ zoutR M M' m (m + 15) ∧ mw E M' m xln xlen xlab xbad xlev xtr xwa ((ls ++ txtP (pg xG r) K).length) ((ls ++ txtP (pg xG r) K).getD xwa 0) xsf xbf xF xG xP xQ xmm xsl xkd xhs xht xsg xdv) := by
  have hK13 := isC_pg hK
  refine zMet.ofZ (by decide) (Nat.le_of_ble_eq_true rfl) ?_
  intro X hl hini C
  have loop : ∀ (k : Nat) (M1 : zM) (l1 : List Nat), k ≤ K → l1.length + 14 * k ≤ ls.length + 14 * K + 1 → zoutR M M1 m (m + 15) → mw E M1 m xln xlen xlab xbad xlev xtr xwa ((l1).length) ((l1).getD xwa 0) xsf xbf xF xG xP xQ xmm xsl xkd xhs xht xsg xdv → ls ++ txtP (pg xG r) K = l1 ++ spl (pg xG r) K k → Z X E 6 (zQ X E 0 0 (fun v s M' => none = v ∧ sz = s ∧ zoutR M M' m (m + 15) ∧ mw E M' m xln xlen xlab xbad xlev xtr xwa ((ls ++ txtP (pg xG r) K).length) ((ls ++ txtP (pg xG r) K).getD xwa 0) xsf xbf xF xG xP xQ xmm xsl xkd xhs xht xsg xdv)) 0 0 sz M1 20 [(0, .ref m), (1, .int (nI r)), (2, .int (nI 1)), (3, .int (tI K)), (4, .int (tI k))] [] := by
    intro k
    induction k with
    | zero =>
      intro M1 l1 hk hll hz1 H1 e1
      refine z_iload C d_M_emitPolynomial_20 rfl ?_
      refine z_if_lt (tgt := 150) C d_M_emitPolynomial_22 (by decide) (fun _ => ?_) (fun c_22 => absurd (by decide) c_22)
      refine z_vret C ⟨rfl, rfl, hz1, ?_⟩ d_M_emitPolynomial_150
      rw [e1, show spl (pg xG r) K 0 = [] from rfl, List.append_nil]
      exact H1
    | succ k ih =>
      intro M1 l1 hk hll hz1 H1 e1
      rw [tI_s k]
      have hf := ((pg xG r) k).isLt
      have n1 := sn_len ((pg xG r) k).val
      have n2 := sn_len k
      by_cases hz0 : ((pg xG r) k) = 0
      · refine z_iload C d_M_emitPolynomial_20 rfl ?_
        refine z_if_lt (tgt := 150) C d_M_emitPolynomial_22 (by decide) (fun c_22 => absurd c_22 (fun q => absurd ((nI_ltI (a := k) (b := 0) (by omega) (by omega)).mp q) (by omega))) (fun _ => ?_)
        refine z_iload_n C d_M_emitPolynomial_25 rfl rfl ?_
        refine z_if_eq (tgt := 44) C d_M_emitPolynomial_26 (by decide) (fun c_26 => absurd c_26 (by decide)) (fun _ => ?_)
        refine z_aload_n C d_M_emitPolynomial_29 rfl rfl ?_
        refine z_get C in_M H1.1 rfl 12 (by decide) fl_M_26 rfl rfl d_M_emitPolynomial_30 ?_
        refine z_iload_n C d_M_emitPolynomial_33 rfl rfl ?_
        refine z_bipush (v := nI 13) C d_M_emitPolynomial_34 (by decide) ?_
        refine z_imul C d_M_emitPolynomial_36 ?_
        refine z_top (y := nI (r * 13)) (pk_mul _ _) ?_
        refine z_iload C d_M_emitPolynomial_37 rfl ?_
        refine z_iadd C d_M_emitPolynomial_39 ?_
        refine z_top (y := nI ((r * 13) + k)) (nI_add _ _) ?_
        refine z_iald C H1.2.2.2.2.2.1 0 rfl ((r * 13) + k) (rfl) (by omega) (by omega) d_M_emitPolynomial_40 ?_
        refine z_top (y := fI ((pg xG r) k)) (congrArg fI (pg_at (by omega)).symm) ?_
        refine z_goto (tgt := 56) C d_M_emitPolynomial_41 (by decide) ?_
        refine z_istore (L' := [(0, .ref m), (1, .int (nI r)), (2, .int (nI 1)), (3, .int (tI K)), (4, .int (nI k)), (5, .int (fI ((pg xG r) k)))]) C d_M_emitPolynomial_56 (by decide) rfl ?_
        refine z_iload C d_M_emitPolynomial_58 rfl ?_
        refine z_if_eq (tgt := 144) C d_M_emitPolynomial_60 (by decide) (fun _ => ?_) (fun c_60 => absurd (fI_eq0.mpr hz0) c_60)
        refine z_iinc (v := tI k) (L' := [(0, .ref m), (1, .int (nI r)), (2, .int (nI 1)), (3, .int (tI K)), (4, .int (tI k)), (5, .int (fI ((pg xG r) k)))]) C d_M_emitPolynomial_144 rfl (nI_dec k) (by decide) rfl ?_
        refine z_goto (tgt := 20) C d_M_emitPolynomial_147 (by decide) ?_
        refine z_sub [0, 1, 2, 3, 4] rfl ?_
        refine ih _ (l1) (by omega) (by simp only [List.length_append, List.length_singleton, List.length_nil] at *; omega) hz1 H1 ?_
        rw [e1, show spl (pg xG r) K (k + 1) = (if (pg xG r) k = 0 then [] else (if k + 1 < K then [43] else []) ++ sp ((pg xG r) k).val k) ++ spl (pg xG r) K k from rfl, if_pos hz0]
        rfl
      have hv1 : 1 ≤ ((pg xG r) k).val := Nat.pos_of_ne_zero (fun q => hz0 (Fin.ext q))
      have g001 : k = 0 → ((pg xG r) k).val = 1 → k + 1 < K → Z X E 6 (zQ X E 0 0 (fun v s M' => none = v ∧ sz = s ∧ zoutR M M' m (m + 15) ∧ mw E M' m xln xlen xlab xbad xlev xtr xwa ((ls ++ txtP (pg xG r) K).length) ((ls ++ txtP (pg xG r) K).getD xwa 0) xsf xbf xF xG xP xQ xmm xsl xkd xhs xht xsg xdv)) 0 0 sz M1 20 [(0, .ref m), (1, .int (nI r)), (2, .int (nI 1)), (3, .int (tI K)), (4, .int (nI k))] [] := by
        intro hk0 hv0 hh0
        refine z_iload C d_M_emitPolynomial_20 rfl ?_
        refine z_if_lt (tgt := 150) C d_M_emitPolynomial_22 (by decide) (fun c_22 => absurd c_22 (fun q => absurd ((nI_ltI (a := k) (b := 0) (by omega) (by omega)).mp q) (by omega))) (fun _ => ?_)
        refine z_iload_n C d_M_emitPolynomial_25 rfl rfl ?_
        refine z_if_eq (tgt := 44) C d_M_emitPolynomial_26 (by decide) (fun c_26 => absurd c_26 (by decide)) (fun _ => ?_)
        refine z_aload_n C d_M_emitPolynomial_29 rfl rfl ?_
        refine z_get C in_M H1.1 rfl 12 (by decide) fl_M_26 rfl rfl d_M_emitPolynomial_30 ?_
        refine z_iload_n C d_M_emitPolynomial_33 rfl rfl ?_
        refine z_bipush (v := nI 13) C d_M_emitPolynomial_34 (by decide) ?_
        refine z_imul C d_M_emitPolynomial_36 ?_
        refine z_top (y := nI (r * 13)) (pk_mul _ _) ?_
        refine z_iload C d_M_emitPolynomial_37 rfl ?_
        refine z_iadd C d_M_emitPolynomial_39 ?_
        refine z_top (y := nI ((r * 13) + k)) (nI_add _ _) ?_
        refine z_iald C H1.2.2.2.2.2.1 0 rfl ((r * 13) + k) (rfl) (by omega) (by omega) d_M_emitPolynomial_40 ?_
        refine z_top (y := fI ((pg xG r) k)) (congrArg fI (pg_at (by omega)).symm) ?_
        refine z_goto (tgt := 56) C d_M_emitPolynomial_41 (by decide) ?_
        refine z_istore (L' := [(0, .ref m), (1, .int (nI r)), (2, .int (nI 1)), (3, .int (tI K)), (4, .int (nI k)), (5, .int (fI ((pg xG r) k)))]) C d_M_emitPolynomial_56 (by decide) rfl ?_
        refine z_iload C d_M_emitPolynomial_58 rfl ?_
        refine z_if_eq (tgt := 144) C d_M_emitPolynomial_60 (by decide) (fun c_60 => absurd c_60 (fun q => hz0 (fI_eq0.mp q))) (fun _ => ?_)
        refine z_iload C d_M_emitPolynomial_63 rfl ?_
        refine z_iload_n C d_M_emitPolynomial_65 rfl rfl ?_
        refine z_icmp_ge (tgt := 75) C d_M_emitPolynomial_66 (by decide) (fun c_66 => absurd c_66 (fun q => by rw [← tI_s k] at q; have := (tI_lel (by omega) (by omega)).mp q; omega)) (fun _ => ?_)
        refine z_aload_n C d_M_emitPolynomial_69 rfl rfl ?_
        refine z_bipush (v := nI 43) C d_M_emitPolynomial_70 (by decide) ?_
        refine z_callV (rest := []) (n := 1) (As := [.int (nI 43)]) C (m_emit E X.2.1 sz _ H1 hwa 43 (by simp only [List.length_append, List.length_singleton, List.length_nil] at *; omega)) ⟨z_cb C k_M_emit ml_M_217 ii_M rfl rfl (by decide +kernel) ⟨by decide, by decide⟩, C.2.2.2.2.1 _ im_M_emit, C.2.2.2.2.1 _ se_M_emit⟩ H1.1 rfl rfl rfl (Nat.le_of_ble_eq_true rfl) d_M_emitPolynomial_72 ⟨by decide, by decide⟩ ?_
        intro v_M1_72 s_M1_72 M_M1_72 hp_M1_72
        obtain ⟨rfl, rfl, ho_M1_72, H_M1_72⟩ := hp_M1_72
        have hz_M1_72 : zoutR M M_M1_72 m (m + 15) := zoutR_tr hz1 ho_M1_72
        show Z _ _ _ _ _ _ _ _ 75 _ []
        refine z_iload C d_M_emitPolynomial_75 rfl ?_
        refine z_top (y := nI (((pg xG r) k).val)) rfl ?_
        refine z_iconst (v := nI 1) C d_M_emitPolynomial_77 (by decide) ?_
        refine z_icmp_gt (tgt := 86) C d_M_emitPolynomial_78 (by decide) (fun c_78 => absurd c_78 (fun q => by have := (nI_ltI (a := 1) (b := ((pg xG r) k).val) (by omega) (by omega)).mp q; omega)) (fun _ => ?_)
        refine z_iload C d_M_emitPolynomial_81 rfl ?_
        refine z_if_ne (tgt := 92) C d_M_emitPolynomial_83 (by decide) (fun c_83 => absurd c_83 (fun q => q (congrArg nI hk0))) (fun _ => ?_)
        refine z_aload_n C d_M_emitPolynomial_86 rfl rfl ?_
        refine z_iload C d_M_emitPolynomial_87 rfl ?_
        refine z_top (y := nI (((pg xG r) k).val)) rfl ?_
        refine z_callV (rest := []) (n := 1) (As := [.int (nI (((pg xG r) k).val))]) C (m_emitNumber E X.2.1 sz _ H_M1_72 hwa (((pg xG r) k).val) (by omega) (by omega) (by simp only [List.length_append, List.length_singleton, List.length_nil] at *; omega)) ⟨z_cb C k_M_emitNumber ml_M_220 ii_M rfl rfl (by decide +kernel) ⟨by decide, by decide⟩, C.2.2.2.2.1 _ im_M_emitNumber, C.2.2.2.2.1 _ se_M_emitNumber⟩ H_M1_72.1 rfl rfl rfl (Nat.le_of_ble_eq_true rfl) d_M_emitPolynomial_89 ⟨by decide, by decide⟩ ?_
        intro v_M_M1_72_89 s_M_M1_72_89 M_M_M1_72_89 hp_M_M1_72_89
        obtain ⟨rfl, rfl, ho_M_M1_72_89, H_M_M1_72_89⟩ := hp_M_M1_72_89
        have hz_M_M1_72_89 : zoutR M M_M_M1_72_89 m (m + 15) := zoutR_tr hz_M1_72 ho_M_M1_72_89
        show Z _ _ _ _ _ _ _ _ 92 _ []
        refine z_iload C d_M_emitPolynomial_92 rfl ?_
        refine z_top (y := nI (((pg xG r) k).val)) rfl ?_
        refine z_iconst (v := nI 1) C d_M_emitPolynomial_94 (by decide) ?_
        refine z_icmp_le (tgt := 109) C d_M_emitPolynomial_95 (by decide) (fun _ => ?_) (fun c_95 => absurd ((nI_leI (a := ((pg xG r) k).val) (b := 1) (by omega) (by omega)).mpr (by omega)) c_95)
        refine z_iload C d_M_emitPolynomial_109 rfl ?_
        refine z_if_le (tgt := 120) C d_M_emitPolynomial_111 (by decide) (fun _ => ?_) (fun c_111 => absurd ((nI_leI (a := k) (b := 0) (by omega) (by omega)).mpr (by omega)) c_111)
        refine z_iload C d_M_emitPolynomial_120 rfl ?_
        refine z_iconst (v := nI 1) C d_M_emitPolynomial_122 (by decide) ?_
        refine z_icmp_le (tgt := 132) C d_M_emitPolynomial_123 (by decide) (fun _ => ?_) (fun c_123 => absurd ((nI_leI (a := k) (b := 1) (by omega) (by omega)).mpr (by omega)) c_123)
        refine z_iload C d_M_emitPolynomial_132 rfl ?_
        refine z_iconst (v := nI 1) C d_M_emitPolynomial_134 (by decide) ?_
        refine z_icmp_le (tgt := 144) C d_M_emitPolynomial_135 (by decide) (fun _ => ?_) (fun c_135 => absurd ((nI_leI (a := k) (b := 1) (by omega) (by omega)).mpr (by omega)) c_135)
        refine z_iinc (v := tI k) (L' := [(0, .ref m), (1, .int (nI r)), (2, .int (nI 1)), (3, .int (tI K)), (4, .int (tI k)), (5, .int (fI ((pg xG r) k)))]) C d_M_emitPolynomial_144 rfl (nI_dec k) (by decide) rfl ?_
        refine z_goto (tgt := 20) C d_M_emitPolynomial_147 (by decide) ?_
        refine z_sub [0, 1, 2, 3, 4] rfl ?_
        refine ih _ (l1 ++ [43] ++ sn (((pg xG r) k).val)) (by omega) (by simp only [List.length_append, List.length_singleton, List.length_nil] at *; omega) hz_M_M1_72_89 H_M_M1_72_89 ?_
        rw [e1, show spl (pg xG r) K (k + 1) = (if (pg xG r) k = 0 then [] else (if k + 1 < K then [43] else []) ++ sp ((pg xG r) k).val k) ++ spl (pg xG r) K k from rfl, if_neg hz0, if_pos hh0]
        unfold sp
        rw [if_pos hk0]
        try simp only [List.append_assoc, List.nil_append, List.append_nil, List.singleton_append, List.cons_append]
      have g000 : k = 0 → ((pg xG r) k).val = 1 → ¬ k + 1 < K → Z X E 6 (zQ X E 0 0 (fun v s M' => none = v ∧ sz = s ∧ zoutR M M' m (m + 15) ∧ mw E M' m xln xlen xlab xbad xlev xtr xwa ((ls ++ txtP (pg xG r) K).length) ((ls ++ txtP (pg xG r) K).getD xwa 0) xsf xbf xF xG xP xQ xmm xsl xkd xhs xht xsg xdv)) 0 0 sz M1 20 [(0, .ref m), (1, .int (nI r)), (2, .int (nI 1)), (3, .int (tI K)), (4, .int (nI k))] [] := by
        intro hk0 hv0 hh0
        refine z_iload C d_M_emitPolynomial_20 rfl ?_
        refine z_if_lt (tgt := 150) C d_M_emitPolynomial_22 (by decide) (fun c_22 => absurd c_22 (fun q => absurd ((nI_ltI (a := k) (b := 0) (by omega) (by omega)).mp q) (by omega))) (fun _ => ?_)
        refine z_iload_n C d_M_emitPolynomial_25 rfl rfl ?_
        refine z_if_eq (tgt := 44) C d_M_emitPolynomial_26 (by decide) (fun c_26 => absurd c_26 (by decide)) (fun _ => ?_)
        refine z_aload_n C d_M_emitPolynomial_29 rfl rfl ?_
        refine z_get C in_M H1.1 rfl 12 (by decide) fl_M_26 rfl rfl d_M_emitPolynomial_30 ?_
        refine z_iload_n C d_M_emitPolynomial_33 rfl rfl ?_
        refine z_bipush (v := nI 13) C d_M_emitPolynomial_34 (by decide) ?_
        refine z_imul C d_M_emitPolynomial_36 ?_
        refine z_top (y := nI (r * 13)) (pk_mul _ _) ?_
        refine z_iload C d_M_emitPolynomial_37 rfl ?_
        refine z_iadd C d_M_emitPolynomial_39 ?_
        refine z_top (y := nI ((r * 13) + k)) (nI_add _ _) ?_
        refine z_iald C H1.2.2.2.2.2.1 0 rfl ((r * 13) + k) (rfl) (by omega) (by omega) d_M_emitPolynomial_40 ?_
        refine z_top (y := fI ((pg xG r) k)) (congrArg fI (pg_at (by omega)).symm) ?_
        refine z_goto (tgt := 56) C d_M_emitPolynomial_41 (by decide) ?_
        refine z_istore (L' := [(0, .ref m), (1, .int (nI r)), (2, .int (nI 1)), (3, .int (tI K)), (4, .int (nI k)), (5, .int (fI ((pg xG r) k)))]) C d_M_emitPolynomial_56 (by decide) rfl ?_
        refine z_iload C d_M_emitPolynomial_58 rfl ?_
        refine z_if_eq (tgt := 144) C d_M_emitPolynomial_60 (by decide) (fun c_60 => absurd c_60 (fun q => hz0 (fI_eq0.mp q))) (fun _ => ?_)
        refine z_iload C d_M_emitPolynomial_63 rfl ?_
        refine z_iload_n C d_M_emitPolynomial_65 rfl rfl ?_
        refine z_icmp_ge (tgt := 75) C d_M_emitPolynomial_66 (by decide) (fun _ => ?_) (fun c_66 => absurd (by rw [← tI_s k]; exact (tI_lel (by omega) (by omega)).mpr (by omega)) c_66)
        refine z_iload C d_M_emitPolynomial_75 rfl ?_
        refine z_top (y := nI (((pg xG r) k).val)) rfl ?_
        refine z_iconst (v := nI 1) C d_M_emitPolynomial_77 (by decide) ?_
        refine z_icmp_gt (tgt := 86) C d_M_emitPolynomial_78 (by decide) (fun c_78 => absurd c_78 (fun q => by have := (nI_ltI (a := 1) (b := ((pg xG r) k).val) (by omega) (by omega)).mp q; omega)) (fun _ => ?_)
        refine z_iload C d_M_emitPolynomial_81 rfl ?_
        refine z_if_ne (tgt := 92) C d_M_emitPolynomial_83 (by decide) (fun c_83 => absurd c_83 (fun q => q (congrArg nI hk0))) (fun _ => ?_)
        refine z_aload_n C d_M_emitPolynomial_86 rfl rfl ?_
        refine z_iload C d_M_emitPolynomial_87 rfl ?_
        refine z_top (y := nI (((pg xG r) k).val)) rfl ?_
        refine z_callV (rest := []) (n := 1) (As := [.int (nI (((pg xG r) k).val))]) C (m_emitNumber E X.2.1 sz _ H1 hwa (((pg xG r) k).val) (by omega) (by omega) (by simp only [List.length_append, List.length_singleton, List.length_nil] at *; omega)) ⟨z_cb C k_M_emitNumber ml_M_220 ii_M rfl rfl (by decide +kernel) ⟨by decide, by decide⟩, C.2.2.2.2.1 _ im_M_emitNumber, C.2.2.2.2.1 _ se_M_emitNumber⟩ H1.1 rfl rfl rfl (Nat.le_of_ble_eq_true rfl) d_M_emitPolynomial_89 ⟨by decide, by decide⟩ ?_
        intro v_M1_89 s_M1_89 M_M1_89 hp_M1_89
        obtain ⟨rfl, rfl, ho_M1_89, H_M1_89⟩ := hp_M1_89
        have hz_M1_89 : zoutR M M_M1_89 m (m + 15) := zoutR_tr hz1 ho_M1_89
        show Z _ _ _ _ _ _ _ _ 92 _ []
        refine z_iload C d_M_emitPolynomial_92 rfl ?_
        refine z_top (y := nI (((pg xG r) k).val)) rfl ?_
        refine z_iconst (v := nI 1) C d_M_emitPolynomial_94 (by decide) ?_
        refine z_icmp_le (tgt := 109) C d_M_emitPolynomial_95 (by decide) (fun _ => ?_) (fun c_95 => absurd ((nI_leI (a := ((pg xG r) k).val) (b := 1) (by omega) (by omega)).mpr (by omega)) c_95)
        refine z_iload C d_M_emitPolynomial_109 rfl ?_
        refine z_if_le (tgt := 120) C d_M_emitPolynomial_111 (by decide) (fun _ => ?_) (fun c_111 => absurd ((nI_leI (a := k) (b := 0) (by omega) (by omega)).mpr (by omega)) c_111)
        refine z_iload C d_M_emitPolynomial_120 rfl ?_
        refine z_iconst (v := nI 1) C d_M_emitPolynomial_122 (by decide) ?_
        refine z_icmp_le (tgt := 132) C d_M_emitPolynomial_123 (by decide) (fun _ => ?_) (fun c_123 => absurd ((nI_leI (a := k) (b := 1) (by omega) (by omega)).mpr (by omega)) c_123)
        refine z_iload C d_M_emitPolynomial_132 rfl ?_
        refine z_iconst (v := nI 1) C d_M_emitPolynomial_134 (by decide) ?_
        refine z_icmp_le (tgt := 144) C d_M_emitPolynomial_135 (by decide) (fun _ => ?_) (fun c_135 => absurd ((nI_leI (a := k) (b := 1) (by omega) (by omega)).mpr (by omega)) c_135)
        refine z_iinc (v := tI k) (L' := [(0, .ref m), (1, .int (nI r)), (2, .int (nI 1)), (3, .int (tI K)), (4, .int (tI k)), (5, .int (fI ((pg xG r) k)))]) C d_M_emitPolynomial_144 rfl (nI_dec k) (by decide) rfl ?_
        refine z_goto (tgt := 20) C d_M_emitPolynomial_147 (by decide) ?_
        refine z_sub [0, 1, 2, 3, 4] rfl ?_
        refine ih _ (l1 ++ sn (((pg xG r) k).val)) (by omega) (by simp only [List.length_append, List.length_singleton, List.length_nil] at *; omega) hz_M1_89 H_M1_89 ?_
        rw [e1, show spl (pg xG r) K (k + 1) = (if (pg xG r) k = 0 then [] else (if k + 1 < K then [43] else []) ++ sp ((pg xG r) k).val k) ++ spl (pg xG r) K k from rfl, if_neg hz0, if_neg hh0]
        unfold sp
        rw [if_pos hk0]
        try simp only [List.append_assoc, List.nil_append, List.append_nil, List.singleton_append, List.cons_append]
      have g011 : k = 0 → 1 < ((pg xG r) k).val → k + 1 < K → Z X E 6 (zQ X E 0 0 (fun v s M' => none = v ∧ sz = s ∧ zoutR M M' m (m + 15) ∧ mw E M' m xln xlen xlab xbad xlev xtr xwa ((ls ++ txtP (pg xG r) K).length) ((ls ++ txtP (pg xG r) K).getD xwa 0) xsf xbf xF xG xP xQ xmm xsl xkd xhs xht xsg xdv)) 0 0 sz M1 20 [(0, .ref m), (1, .int (nI r)), (2, .int (nI 1)), (3, .int (tI K)), (4, .int (nI k))] [] := by
        intro hk0 hv0 hh0
        refine z_iload C d_M_emitPolynomial_20 rfl ?_
        refine z_if_lt (tgt := 150) C d_M_emitPolynomial_22 (by decide) (fun c_22 => absurd c_22 (fun q => absurd ((nI_ltI (a := k) (b := 0) (by omega) (by omega)).mp q) (by omega))) (fun _ => ?_)
        refine z_iload_n C d_M_emitPolynomial_25 rfl rfl ?_
        refine z_if_eq (tgt := 44) C d_M_emitPolynomial_26 (by decide) (fun c_26 => absurd c_26 (by decide)) (fun _ => ?_)
        refine z_aload_n C d_M_emitPolynomial_29 rfl rfl ?_
        refine z_get C in_M H1.1 rfl 12 (by decide) fl_M_26 rfl rfl d_M_emitPolynomial_30 ?_
        refine z_iload_n C d_M_emitPolynomial_33 rfl rfl ?_
        refine z_bipush (v := nI 13) C d_M_emitPolynomial_34 (by decide) ?_
        refine z_imul C d_M_emitPolynomial_36 ?_
        refine z_top (y := nI (r * 13)) (pk_mul _ _) ?_
        refine z_iload C d_M_emitPolynomial_37 rfl ?_
        refine z_iadd C d_M_emitPolynomial_39 ?_
        refine z_top (y := nI ((r * 13) + k)) (nI_add _ _) ?_
        refine z_iald C H1.2.2.2.2.2.1 0 rfl ((r * 13) + k) (rfl) (by omega) (by omega) d_M_emitPolynomial_40 ?_
        refine z_top (y := fI ((pg xG r) k)) (congrArg fI (pg_at (by omega)).symm) ?_
        refine z_goto (tgt := 56) C d_M_emitPolynomial_41 (by decide) ?_
        refine z_istore (L' := [(0, .ref m), (1, .int (nI r)), (2, .int (nI 1)), (3, .int (tI K)), (4, .int (nI k)), (5, .int (fI ((pg xG r) k)))]) C d_M_emitPolynomial_56 (by decide) rfl ?_
        refine z_iload C d_M_emitPolynomial_58 rfl ?_
        refine z_if_eq (tgt := 144) C d_M_emitPolynomial_60 (by decide) (fun c_60 => absurd c_60 (fun q => hz0 (fI_eq0.mp q))) (fun _ => ?_)
        refine z_iload C d_M_emitPolynomial_63 rfl ?_
        refine z_iload_n C d_M_emitPolynomial_65 rfl rfl ?_
        refine z_icmp_ge (tgt := 75) C d_M_emitPolynomial_66 (by decide) (fun c_66 => absurd c_66 (fun q => by rw [← tI_s k] at q; have := (tI_lel (by omega) (by omega)).mp q; omega)) (fun _ => ?_)
        refine z_aload_n C d_M_emitPolynomial_69 rfl rfl ?_
        refine z_bipush (v := nI 43) C d_M_emitPolynomial_70 (by decide) ?_
        refine z_callV (rest := []) (n := 1) (As := [.int (nI 43)]) C (m_emit E X.2.1 sz _ H1 hwa 43 (by simp only [List.length_append, List.length_singleton, List.length_nil] at *; omega)) ⟨z_cb C k_M_emit ml_M_217 ii_M rfl rfl (by decide +kernel) ⟨by decide, by decide⟩, C.2.2.2.2.1 _ im_M_emit, C.2.2.2.2.1 _ se_M_emit⟩ H1.1 rfl rfl rfl (Nat.le_of_ble_eq_true rfl) d_M_emitPolynomial_72 ⟨by decide, by decide⟩ ?_
        intro v_M1_72 s_M1_72 M_M1_72 hp_M1_72
        obtain ⟨rfl, rfl, ho_M1_72, H_M1_72⟩ := hp_M1_72
        have hz_M1_72 : zoutR M M_M1_72 m (m + 15) := zoutR_tr hz1 ho_M1_72
        show Z _ _ _ _ _ _ _ _ 75 _ []
        refine z_iload C d_M_emitPolynomial_75 rfl ?_
        refine z_top (y := nI (((pg xG r) k).val)) rfl ?_
        refine z_iconst (v := nI 1) C d_M_emitPolynomial_77 (by decide) ?_
        refine z_icmp_gt (tgt := 86) C d_M_emitPolynomial_78 (by decide) (fun _ => ?_) (fun c_78 => absurd ((nI_ltI (a := 1) (b := ((pg xG r) k).val) (by omega) (by omega)).mpr (by omega)) c_78)
        refine z_aload_n C d_M_emitPolynomial_86 rfl rfl ?_
        refine z_iload C d_M_emitPolynomial_87 rfl ?_
        refine z_top (y := nI (((pg xG r) k).val)) rfl ?_
        refine z_callV (rest := []) (n := 1) (As := [.int (nI (((pg xG r) k).val))]) C (m_emitNumber E X.2.1 sz _ H_M1_72 hwa (((pg xG r) k).val) (by omega) (by omega) (by simp only [List.length_append, List.length_singleton, List.length_nil] at *; omega)) ⟨z_cb C k_M_emitNumber ml_M_220 ii_M rfl rfl (by decide +kernel) ⟨by decide, by decide⟩, C.2.2.2.2.1 _ im_M_emitNumber, C.2.2.2.2.1 _ se_M_emitNumber⟩ H_M1_72.1 rfl rfl rfl (Nat.le_of_ble_eq_true rfl) d_M_emitPolynomial_89 ⟨by decide, by decide⟩ ?_
        intro v_M_M1_72_89 s_M_M1_72_89 M_M_M1_72_89 hp_M_M1_72_89
        obtain ⟨rfl, rfl, ho_M_M1_72_89, H_M_M1_72_89⟩ := hp_M_M1_72_89
        have hz_M_M1_72_89 : zoutR M M_M_M1_72_89 m (m + 15) := zoutR_tr hz_M1_72 ho_M_M1_72_89
        show Z _ _ _ _ _ _ _ _ 92 _ []
        refine z_iload C d_M_emitPolynomial_92 rfl ?_
        refine z_top (y := nI (((pg xG r) k).val)) rfl ?_
        refine z_iconst (v := nI 1) C d_M_emitPolynomial_94 (by decide) ?_
        refine z_icmp_le (tgt := 109) C d_M_emitPolynomial_95 (by decide) (fun c_95 => absurd c_95 (fun q => by have := (nI_leI (a := ((pg xG r) k).val) (b := 1) (by omega) (by omega)).mp q; omega)) (fun _ => ?_)
        refine z_iload C d_M_emitPolynomial_98 rfl ?_
        refine z_if_le (tgt := 109) C d_M_emitPolynomial_100 (by decide) (fun _ => ?_) (fun c_100 => absurd ((nI_leI (a := k) (b := 0) (by omega) (by omega)).mpr (by omega)) c_100)
        refine z_iload C d_M_emitPolynomial_109 rfl ?_
        refine z_if_le (tgt := 120) C d_M_emitPolynomial_111 (by decide) (fun _ => ?_) (fun c_111 => absurd ((nI_leI (a := k) (b := 0) (by omega) (by omega)).mpr (by omega)) c_111)
        refine z_iload C d_M_emitPolynomial_120 rfl ?_
        refine z_iconst (v := nI 1) C d_M_emitPolynomial_122 (by decide) ?_
        refine z_icmp_le (tgt := 132) C d_M_emitPolynomial_123 (by decide) (fun _ => ?_) (fun c_123 => absurd ((nI_leI (a := k) (b := 1) (by omega) (by omega)).mpr (by omega)) c_123)
        refine z_iload C d_M_emitPolynomial_132 rfl ?_
        refine z_iconst (v := nI 1) C d_M_emitPolynomial_134 (by decide) ?_
        refine z_icmp_le (tgt := 144) C d_M_emitPolynomial_135 (by decide) (fun _ => ?_) (fun c_135 => absurd ((nI_leI (a := k) (b := 1) (by omega) (by omega)).mpr (by omega)) c_135)
        refine z_iinc (v := tI k) (L' := [(0, .ref m), (1, .int (nI r)), (2, .int (nI 1)), (3, .int (tI K)), (4, .int (tI k)), (5, .int (fI ((pg xG r) k)))]) C d_M_emitPolynomial_144 rfl (nI_dec k) (by decide) rfl ?_
        refine z_goto (tgt := 20) C d_M_emitPolynomial_147 (by decide) ?_
        refine z_sub [0, 1, 2, 3, 4] rfl ?_
        refine ih _ (l1 ++ [43] ++ sn (((pg xG r) k).val)) (by omega) (by simp only [List.length_append, List.length_singleton, List.length_nil] at *; omega) hz_M_M1_72_89 H_M_M1_72_89 ?_
        rw [e1, show spl (pg xG r) K (k + 1) = (if (pg xG r) k = 0 then [] else (if k + 1 < K then [43] else []) ++ sp ((pg xG r) k).val k) ++ spl (pg xG r) K k from rfl, if_neg hz0, if_pos hh0]
        unfold sp
        rw [if_pos hk0]
        try simp only [List.append_assoc, List.nil_append, List.append_nil, List.singleton_append, List.cons_append]
      have g010 : k = 0 → 1 < ((pg xG r) k).val → ¬ k + 1 < K → Z X E 6 (zQ X E 0 0 (fun v s M' => none = v ∧ sz = s ∧ zoutR M M' m (m + 15) ∧ mw E M' m xln xlen xlab xbad xlev xtr xwa ((ls ++ txtP (pg xG r) K).length) ((ls ++ txtP (pg xG r) K).getD xwa 0) xsf xbf xF xG xP xQ xmm xsl xkd xhs xht xsg xdv)) 0 0 sz M1 20 [(0, .ref m), (1, .int (nI r)), (2, .int (nI 1)), (3, .int (tI K)), (4, .int (nI k))] [] := by
        intro hk0 hv0 hh0
        refine z_iload C d_M_emitPolynomial_20 rfl ?_
        refine z_if_lt (tgt := 150) C d_M_emitPolynomial_22 (by decide) (fun c_22 => absurd c_22 (fun q => absurd ((nI_ltI (a := k) (b := 0) (by omega) (by omega)).mp q) (by omega))) (fun _ => ?_)
        refine z_iload_n C d_M_emitPolynomial_25 rfl rfl ?_
        refine z_if_eq (tgt := 44) C d_M_emitPolynomial_26 (by decide) (fun c_26 => absurd c_26 (by decide)) (fun _ => ?_)
        refine z_aload_n C d_M_emitPolynomial_29 rfl rfl ?_
        refine z_get C in_M H1.1 rfl 12 (by decide) fl_M_26 rfl rfl d_M_emitPolynomial_30 ?_
        refine z_iload_n C d_M_emitPolynomial_33 rfl rfl ?_
        refine z_bipush (v := nI 13) C d_M_emitPolynomial_34 (by decide) ?_
        refine z_imul C d_M_emitPolynomial_36 ?_
        refine z_top (y := nI (r * 13)) (pk_mul _ _) ?_
        refine z_iload C d_M_emitPolynomial_37 rfl ?_
        refine z_iadd C d_M_emitPolynomial_39 ?_
        refine z_top (y := nI ((r * 13) + k)) (nI_add _ _) ?_
        refine z_iald C H1.2.2.2.2.2.1 0 rfl ((r * 13) + k) (rfl) (by omega) (by omega) d_M_emitPolynomial_40 ?_
        refine z_top (y := fI ((pg xG r) k)) (congrArg fI (pg_at (by omega)).symm) ?_
        refine z_goto (tgt := 56) C d_M_emitPolynomial_41 (by decide) ?_
        refine z_istore (L' := [(0, .ref m), (1, .int (nI r)), (2, .int (nI 1)), (3, .int (tI K)), (4, .int (nI k)), (5, .int (fI ((pg xG r) k)))]) C d_M_emitPolynomial_56 (by decide) rfl ?_
        refine z_iload C d_M_emitPolynomial_58 rfl ?_
        refine z_if_eq (tgt := 144) C d_M_emitPolynomial_60 (by decide) (fun c_60 => absurd c_60 (fun q => hz0 (fI_eq0.mp q))) (fun _ => ?_)
        refine z_iload C d_M_emitPolynomial_63 rfl ?_
        refine z_iload_n C d_M_emitPolynomial_65 rfl rfl ?_
        refine z_icmp_ge (tgt := 75) C d_M_emitPolynomial_66 (by decide) (fun _ => ?_) (fun c_66 => absurd (by rw [← tI_s k]; exact (tI_lel (by omega) (by omega)).mpr (by omega)) c_66)
        refine z_iload C d_M_emitPolynomial_75 rfl ?_
        refine z_top (y := nI (((pg xG r) k).val)) rfl ?_
        refine z_iconst (v := nI 1) C d_M_emitPolynomial_77 (by decide) ?_
        refine z_icmp_gt (tgt := 86) C d_M_emitPolynomial_78 (by decide) (fun _ => ?_) (fun c_78 => absurd ((nI_ltI (a := 1) (b := ((pg xG r) k).val) (by omega) (by omega)).mpr (by omega)) c_78)
        refine z_aload_n C d_M_emitPolynomial_86 rfl rfl ?_
        refine z_iload C d_M_emitPolynomial_87 rfl ?_
        refine z_top (y := nI (((pg xG r) k).val)) rfl ?_
        refine z_callV (rest := []) (n := 1) (As := [.int (nI (((pg xG r) k).val))]) C (m_emitNumber E X.2.1 sz _ H1 hwa (((pg xG r) k).val) (by omega) (by omega) (by simp only [List.length_append, List.length_singleton, List.length_nil] at *; omega)) ⟨z_cb C k_M_emitNumber ml_M_220 ii_M rfl rfl (by decide +kernel) ⟨by decide, by decide⟩, C.2.2.2.2.1 _ im_M_emitNumber, C.2.2.2.2.1 _ se_M_emitNumber⟩ H1.1 rfl rfl rfl (Nat.le_of_ble_eq_true rfl) d_M_emitPolynomial_89 ⟨by decide, by decide⟩ ?_
        intro v_M1_89 s_M1_89 M_M1_89 hp_M1_89
        obtain ⟨rfl, rfl, ho_M1_89, H_M1_89⟩ := hp_M1_89
        have hz_M1_89 : zoutR M M_M1_89 m (m + 15) := zoutR_tr hz1 ho_M1_89
        show Z _ _ _ _ _ _ _ _ 92 _ []
        refine z_iload C d_M_emitPolynomial_92 rfl ?_
        refine z_top (y := nI (((pg xG r) k).val)) rfl ?_
        refine z_iconst (v := nI 1) C d_M_emitPolynomial_94 (by decide) ?_
        refine z_icmp_le (tgt := 109) C d_M_emitPolynomial_95 (by decide) (fun c_95 => absurd c_95 (fun q => by have := (nI_leI (a := ((pg xG r) k).val) (b := 1) (by omega) (by omega)).mp q; omega)) (fun _ => ?_)
        refine z_iload C d_M_emitPolynomial_98 rfl ?_
        refine z_if_le (tgt := 109) C d_M_emitPolynomial_100 (by decide) (fun _ => ?_) (fun c_100 => absurd ((nI_leI (a := k) (b := 0) (by omega) (by omega)).mpr (by omega)) c_100)
        refine z_iload C d_M_emitPolynomial_109 rfl ?_
        refine z_if_le (tgt := 120) C d_M_emitPolynomial_111 (by decide) (fun _ => ?_) (fun c_111 => absurd ((nI_leI (a := k) (b := 0) (by omega) (by omega)).mpr (by omega)) c_111)
        refine z_iload C d_M_emitPolynomial_120 rfl ?_
        refine z_iconst (v := nI 1) C d_M_emitPolynomial_122 (by decide) ?_
        refine z_icmp_le (tgt := 132) C d_M_emitPolynomial_123 (by decide) (fun _ => ?_) (fun c_123 => absurd ((nI_leI (a := k) (b := 1) (by omega) (by omega)).mpr (by omega)) c_123)
        refine z_iload C d_M_emitPolynomial_132 rfl ?_
        refine z_iconst (v := nI 1) C d_M_emitPolynomial_134 (by decide) ?_
        refine z_icmp_le (tgt := 144) C d_M_emitPolynomial_135 (by decide) (fun _ => ?_) (fun c_135 => absurd ((nI_leI (a := k) (b := 1) (by omega) (by omega)).mpr (by omega)) c_135)
        refine z_iinc (v := tI k) (L' := [(0, .ref m), (1, .int (nI r)), (2, .int (nI 1)), (3, .int (tI K)), (4, .int (tI k)), (5, .int (fI ((pg xG r) k)))]) C d_M_emitPolynomial_144 rfl (nI_dec k) (by decide) rfl ?_
        refine z_goto (tgt := 20) C d_M_emitPolynomial_147 (by decide) ?_
        refine z_sub [0, 1, 2, 3, 4] rfl ?_
        refine ih _ (l1 ++ sn (((pg xG r) k).val)) (by omega) (by simp only [List.length_append, List.length_singleton, List.length_nil] at *; omega) hz_M1_89 H_M1_89 ?_
        rw [e1, show spl (pg xG r) K (k + 1) = (if (pg xG r) k = 0 then [] else (if k + 1 < K then [43] else []) ++ sp ((pg xG r) k).val k) ++ spl (pg xG r) K k from rfl, if_neg hz0, if_neg hh0]
        unfold sp
        rw [if_pos hk0]
        try simp only [List.append_assoc, List.nil_append, List.append_nil, List.singleton_append, List.cons_append]
      have g101 : k = 1 → ((pg xG r) k).val = 1 → k + 1 < K → Z X E 6 (zQ X E 0 0 (fun v s M' => none = v ∧ sz = s ∧ zoutR M M' m (m + 15) ∧ mw E M' m xln xlen xlab xbad xlev xtr xwa ((ls ++ txtP (pg xG r) K).length) ((ls ++ txtP (pg xG r) K).getD xwa 0) xsf xbf xF xG xP xQ xmm xsl xkd xhs xht xsg xdv)) 0 0 sz M1 20 [(0, .ref m), (1, .int (nI r)), (2, .int (nI 1)), (3, .int (tI K)), (4, .int (nI k))] [] := by
        intro hk0 hv0 hh0
        refine z_iload C d_M_emitPolynomial_20 rfl ?_
        refine z_if_lt (tgt := 150) C d_M_emitPolynomial_22 (by decide) (fun c_22 => absurd c_22 (fun q => absurd ((nI_ltI (a := k) (b := 0) (by omega) (by omega)).mp q) (by omega))) (fun _ => ?_)
        refine z_iload_n C d_M_emitPolynomial_25 rfl rfl ?_
        refine z_if_eq (tgt := 44) C d_M_emitPolynomial_26 (by decide) (fun c_26 => absurd c_26 (by decide)) (fun _ => ?_)
        refine z_aload_n C d_M_emitPolynomial_29 rfl rfl ?_
        refine z_get C in_M H1.1 rfl 12 (by decide) fl_M_26 rfl rfl d_M_emitPolynomial_30 ?_
        refine z_iload_n C d_M_emitPolynomial_33 rfl rfl ?_
        refine z_bipush (v := nI 13) C d_M_emitPolynomial_34 (by decide) ?_
        refine z_imul C d_M_emitPolynomial_36 ?_
        refine z_top (y := nI (r * 13)) (pk_mul _ _) ?_
        refine z_iload C d_M_emitPolynomial_37 rfl ?_
        refine z_iadd C d_M_emitPolynomial_39 ?_
        refine z_top (y := nI ((r * 13) + k)) (nI_add _ _) ?_
        refine z_iald C H1.2.2.2.2.2.1 0 rfl ((r * 13) + k) (rfl) (by omega) (by omega) d_M_emitPolynomial_40 ?_
        refine z_top (y := fI ((pg xG r) k)) (congrArg fI (pg_at (by omega)).symm) ?_
        refine z_goto (tgt := 56) C d_M_emitPolynomial_41 (by decide) ?_
        refine z_istore (L' := [(0, .ref m), (1, .int (nI r)), (2, .int (nI 1)), (3, .int (tI K)), (4, .int (nI k)), (5, .int (fI ((pg xG r) k)))]) C d_M_emitPolynomial_56 (by decide) rfl ?_
        refine z_iload C d_M_emitPolynomial_58 rfl ?_
        refine z_if_eq (tgt := 144) C d_M_emitPolynomial_60 (by decide) (fun c_60 => absurd c_60 (fun q => hz0 (fI_eq0.mp q))) (fun _ => ?_)
        refine z_iload C d_M_emitPolynomial_63 rfl ?_
        refine z_iload_n C d_M_emitPolynomial_65 rfl rfl ?_
        refine z_icmp_ge (tgt := 75) C d_M_emitPolynomial_66 (by decide) (fun c_66 => absurd c_66 (fun q => by rw [← tI_s k] at q; have := (tI_lel (by omega) (by omega)).mp q; omega)) (fun _ => ?_)
        refine z_aload_n C d_M_emitPolynomial_69 rfl rfl ?_
        refine z_bipush (v := nI 43) C d_M_emitPolynomial_70 (by decide) ?_
        refine z_callV (rest := []) (n := 1) (As := [.int (nI 43)]) C (m_emit E X.2.1 sz _ H1 hwa 43 (by simp only [List.length_append, List.length_singleton, List.length_nil] at *; omega)) ⟨z_cb C k_M_emit ml_M_217 ii_M rfl rfl (by decide +kernel) ⟨by decide, by decide⟩, C.2.2.2.2.1 _ im_M_emit, C.2.2.2.2.1 _ se_M_emit⟩ H1.1 rfl rfl rfl (Nat.le_of_ble_eq_true rfl) d_M_emitPolynomial_72 ⟨by decide, by decide⟩ ?_
        intro v_M1_72 s_M1_72 M_M1_72 hp_M1_72
        obtain ⟨rfl, rfl, ho_M1_72, H_M1_72⟩ := hp_M1_72
        have hz_M1_72 : zoutR M M_M1_72 m (m + 15) := zoutR_tr hz1 ho_M1_72
        show Z _ _ _ _ _ _ _ _ 75 _ []
        refine z_iload C d_M_emitPolynomial_75 rfl ?_
        refine z_top (y := nI (((pg xG r) k).val)) rfl ?_
        refine z_iconst (v := nI 1) C d_M_emitPolynomial_77 (by decide) ?_
        refine z_icmp_gt (tgt := 86) C d_M_emitPolynomial_78 (by decide) (fun c_78 => absurd c_78 (fun q => by have := (nI_ltI (a := 1) (b := ((pg xG r) k).val) (by omega) (by omega)).mp q; omega)) (fun _ => ?_)
        refine z_iload C d_M_emitPolynomial_81 rfl ?_
        refine z_if_ne (tgt := 92) C d_M_emitPolynomial_83 (by decide) (fun _ => ?_) (fun c_83 => absurd c_83 (fun q => absurd ((nI_eq (a := k) (b := 0) (by omega) (by omega)).mp q) (by omega)))
        refine z_iload C d_M_emitPolynomial_92 rfl ?_
        refine z_top (y := nI (((pg xG r) k).val)) rfl ?_
        refine z_iconst (v := nI 1) C d_M_emitPolynomial_94 (by decide) ?_
        refine z_icmp_le (tgt := 109) C d_M_emitPolynomial_95 (by decide) (fun _ => ?_) (fun c_95 => absurd ((nI_leI (a := ((pg xG r) k).val) (b := 1) (by omega) (by omega)).mpr (by omega)) c_95)
        refine z_iload C d_M_emitPolynomial_109 rfl ?_
        refine z_if_le (tgt := 120) C d_M_emitPolynomial_111 (by decide) (fun c_111 => absurd c_111 (fun q => by have := (nI_leI (a := k) (b := 0) (by omega) (by omega)).mp q; omega)) (fun _ => ?_)
        refine z_aload_n C d_M_emitPolynomial_114 rfl rfl ?_
        refine z_bipush (v := nI 120) C d_M_emitPolynomial_115 (by decide) ?_
        refine z_callV (rest := []) (n := 1) (As := [.int (nI 120)]) C (m_emit E X.2.1 sz _ H_M1_72 hwa 120 (by simp only [List.length_append, List.length_singleton, List.length_nil] at *; omega)) ⟨z_cb C k_M_emit ml_M_217 ii_M rfl rfl (by decide +kernel) ⟨by decide, by decide⟩, C.2.2.2.2.1 _ im_M_emit, C.2.2.2.2.1 _ se_M_emit⟩ H_M1_72.1 rfl rfl rfl (Nat.le_of_ble_eq_true rfl) d_M_emitPolynomial_117 ⟨by decide, by decide⟩ ?_
        intro v_M_M1_72_117 s_M_M1_72_117 M_M_M1_72_117 hp_M_M1_72_117
        obtain ⟨rfl, rfl, ho_M_M1_72_117, H_M_M1_72_117⟩ := hp_M_M1_72_117
        have hz_M_M1_72_117 : zoutR M M_M_M1_72_117 m (m + 15) := zoutR_tr hz_M1_72 ho_M_M1_72_117
        show Z _ _ _ _ _ _ _ _ 120 _ []
        refine z_iload C d_M_emitPolynomial_120 rfl ?_
        refine z_iconst (v := nI 1) C d_M_emitPolynomial_122 (by decide) ?_
        refine z_icmp_le (tgt := 132) C d_M_emitPolynomial_123 (by decide) (fun _ => ?_) (fun c_123 => absurd ((nI_leI (a := k) (b := 1) (by omega) (by omega)).mpr (by omega)) c_123)
        refine z_iload C d_M_emitPolynomial_132 rfl ?_
        refine z_iconst (v := nI 1) C d_M_emitPolynomial_134 (by decide) ?_
        refine z_icmp_le (tgt := 144) C d_M_emitPolynomial_135 (by decide) (fun _ => ?_) (fun c_135 => absurd ((nI_leI (a := k) (b := 1) (by omega) (by omega)).mpr (by omega)) c_135)
        refine z_iinc (v := tI k) (L' := [(0, .ref m), (1, .int (nI r)), (2, .int (nI 1)), (3, .int (tI K)), (4, .int (tI k)), (5, .int (fI ((pg xG r) k)))]) C d_M_emitPolynomial_144 rfl (nI_dec k) (by decide) rfl ?_
        refine z_goto (tgt := 20) C d_M_emitPolynomial_147 (by decide) ?_
        refine z_sub [0, 1, 2, 3, 4] rfl ?_
        refine ih _ (l1 ++ [43] ++ [120]) (by omega) (by simp only [List.length_append, List.length_singleton, List.length_nil] at *; omega) hz_M_M1_72_117 H_M_M1_72_117 ?_
        rw [e1, show spl (pg xG r) K (k + 1) = (if (pg xG r) k = 0 then [] else (if k + 1 < K then [43] else []) ++ sp ((pg xG r) k).val k) ++ spl (pg xG r) K k from rfl, if_neg hz0, if_pos hh0]
        unfold sp
        rw [if_neg (show ¬ k = 0 by omega), if_pos hv0, if_neg (show ¬ 1 < k by omega)]
        try simp only [List.append_assoc, List.nil_append, List.append_nil, List.singleton_append, List.cons_append]
      have g100 : k = 1 → ((pg xG r) k).val = 1 → ¬ k + 1 < K → Z X E 6 (zQ X E 0 0 (fun v s M' => none = v ∧ sz = s ∧ zoutR M M' m (m + 15) ∧ mw E M' m xln xlen xlab xbad xlev xtr xwa ((ls ++ txtP (pg xG r) K).length) ((ls ++ txtP (pg xG r) K).getD xwa 0) xsf xbf xF xG xP xQ xmm xsl xkd xhs xht xsg xdv)) 0 0 sz M1 20 [(0, .ref m), (1, .int (nI r)), (2, .int (nI 1)), (3, .int (tI K)), (4, .int (nI k))] [] := by
        intro hk0 hv0 hh0
        refine z_iload C d_M_emitPolynomial_20 rfl ?_
        refine z_if_lt (tgt := 150) C d_M_emitPolynomial_22 (by decide) (fun c_22 => absurd c_22 (fun q => absurd ((nI_ltI (a := k) (b := 0) (by omega) (by omega)).mp q) (by omega))) (fun _ => ?_)
        refine z_iload_n C d_M_emitPolynomial_25 rfl rfl ?_
        refine z_if_eq (tgt := 44) C d_M_emitPolynomial_26 (by decide) (fun c_26 => absurd c_26 (by decide)) (fun _ => ?_)
        refine z_aload_n C d_M_emitPolynomial_29 rfl rfl ?_
        refine z_get C in_M H1.1 rfl 12 (by decide) fl_M_26 rfl rfl d_M_emitPolynomial_30 ?_
        refine z_iload_n C d_M_emitPolynomial_33 rfl rfl ?_
        refine z_bipush (v := nI 13) C d_M_emitPolynomial_34 (by decide) ?_
        refine z_imul C d_M_emitPolynomial_36 ?_
        refine z_top (y := nI (r * 13)) (pk_mul _ _) ?_
        refine z_iload C d_M_emitPolynomial_37 rfl ?_
        refine z_iadd C d_M_emitPolynomial_39 ?_
        refine z_top (y := nI ((r * 13) + k)) (nI_add _ _) ?_
        refine z_iald C H1.2.2.2.2.2.1 0 rfl ((r * 13) + k) (rfl) (by omega) (by omega) d_M_emitPolynomial_40 ?_
        refine z_top (y := fI ((pg xG r) k)) (congrArg fI (pg_at (by omega)).symm) ?_
        refine z_goto (tgt := 56) C d_M_emitPolynomial_41 (by decide) ?_
        refine z_istore (L' := [(0, .ref m), (1, .int (nI r)), (2, .int (nI 1)), (3, .int (tI K)), (4, .int (nI k)), (5, .int (fI ((pg xG r) k)))]) C d_M_emitPolynomial_56 (by decide) rfl ?_
        refine z_iload C d_M_emitPolynomial_58 rfl ?_
        refine z_if_eq (tgt := 144) C d_M_emitPolynomial_60 (by decide) (fun c_60 => absurd c_60 (fun q => hz0 (fI_eq0.mp q))) (fun _ => ?_)
        refine z_iload C d_M_emitPolynomial_63 rfl ?_
        refine z_iload_n C d_M_emitPolynomial_65 rfl rfl ?_
        refine z_icmp_ge (tgt := 75) C d_M_emitPolynomial_66 (by decide) (fun _ => ?_) (fun c_66 => absurd (by rw [← tI_s k]; exact (tI_lel (by omega) (by omega)).mpr (by omega)) c_66)
        refine z_iload C d_M_emitPolynomial_75 rfl ?_
        refine z_top (y := nI (((pg xG r) k).val)) rfl ?_
        refine z_iconst (v := nI 1) C d_M_emitPolynomial_77 (by decide) ?_
        refine z_icmp_gt (tgt := 86) C d_M_emitPolynomial_78 (by decide) (fun c_78 => absurd c_78 (fun q => by have := (nI_ltI (a := 1) (b := ((pg xG r) k).val) (by omega) (by omega)).mp q; omega)) (fun _ => ?_)
        refine z_iload C d_M_emitPolynomial_81 rfl ?_
        refine z_if_ne (tgt := 92) C d_M_emitPolynomial_83 (by decide) (fun _ => ?_) (fun c_83 => absurd c_83 (fun q => absurd ((nI_eq (a := k) (b := 0) (by omega) (by omega)).mp q) (by omega)))
        refine z_iload C d_M_emitPolynomial_92 rfl ?_
        refine z_top (y := nI (((pg xG r) k).val)) rfl ?_
        refine z_iconst (v := nI 1) C d_M_emitPolynomial_94 (by decide) ?_
        refine z_icmp_le (tgt := 109) C d_M_emitPolynomial_95 (by decide) (fun _ => ?_) (fun c_95 => absurd ((nI_leI (a := ((pg xG r) k).val) (b := 1) (by omega) (by omega)).mpr (by omega)) c_95)
        refine z_iload C d_M_emitPolynomial_109 rfl ?_
        refine z_if_le (tgt := 120) C d_M_emitPolynomial_111 (by decide) (fun c_111 => absurd c_111 (fun q => by have := (nI_leI (a := k) (b := 0) (by omega) (by omega)).mp q; omega)) (fun _ => ?_)
        refine z_aload_n C d_M_emitPolynomial_114 rfl rfl ?_
        refine z_bipush (v := nI 120) C d_M_emitPolynomial_115 (by decide) ?_
        refine z_callV (rest := []) (n := 1) (As := [.int (nI 120)]) C (m_emit E X.2.1 sz _ H1 hwa 120 (by simp only [List.length_append, List.length_singleton, List.length_nil] at *; omega)) ⟨z_cb C k_M_emit ml_M_217 ii_M rfl rfl (by decide +kernel) ⟨by decide, by decide⟩, C.2.2.2.2.1 _ im_M_emit, C.2.2.2.2.1 _ se_M_emit⟩ H1.1 rfl rfl rfl (Nat.le_of_ble_eq_true rfl) d_M_emitPolynomial_117 ⟨by decide, by decide⟩ ?_
        intro v_M1_117 s_M1_117 M_M1_117 hp_M1_117
        obtain ⟨rfl, rfl, ho_M1_117, H_M1_117⟩ := hp_M1_117
        have hz_M1_117 : zoutR M M_M1_117 m (m + 15) := zoutR_tr hz1 ho_M1_117
        show Z _ _ _ _ _ _ _ _ 120 _ []
        refine z_iload C d_M_emitPolynomial_120 rfl ?_
        refine z_iconst (v := nI 1) C d_M_emitPolynomial_122 (by decide) ?_
        refine z_icmp_le (tgt := 132) C d_M_emitPolynomial_123 (by decide) (fun _ => ?_) (fun c_123 => absurd ((nI_leI (a := k) (b := 1) (by omega) (by omega)).mpr (by omega)) c_123)
        refine z_iload C d_M_emitPolynomial_132 rfl ?_
        refine z_iconst (v := nI 1) C d_M_emitPolynomial_134 (by decide) ?_
        refine z_icmp_le (tgt := 144) C d_M_emitPolynomial_135 (by decide) (fun _ => ?_) (fun c_135 => absurd ((nI_leI (a := k) (b := 1) (by omega) (by omega)).mpr (by omega)) c_135)
        refine z_iinc (v := tI k) (L' := [(0, .ref m), (1, .int (nI r)), (2, .int (nI 1)), (3, .int (tI K)), (4, .int (tI k)), (5, .int (fI ((pg xG r) k)))]) C d_M_emitPolynomial_144 rfl (nI_dec k) (by decide) rfl ?_
        refine z_goto (tgt := 20) C d_M_emitPolynomial_147 (by decide) ?_
        refine z_sub [0, 1, 2, 3, 4] rfl ?_
        refine ih _ (l1 ++ [120]) (by omega) (by simp only [List.length_append, List.length_singleton, List.length_nil] at *; omega) hz_M1_117 H_M1_117 ?_
        rw [e1, show spl (pg xG r) K (k + 1) = (if (pg xG r) k = 0 then [] else (if k + 1 < K then [43] else []) ++ sp ((pg xG r) k).val k) ++ spl (pg xG r) K k from rfl, if_neg hz0, if_neg hh0]
        unfold sp
        rw [if_neg (show ¬ k = 0 by omega), if_pos hv0, if_neg (show ¬ 1 < k by omega)]
        try simp only [List.append_assoc, List.nil_append, List.append_nil, List.singleton_append, List.cons_append]
      have g111 : k = 1 → 1 < ((pg xG r) k).val → k + 1 < K → Z X E 6 (zQ X E 0 0 (fun v s M' => none = v ∧ sz = s ∧ zoutR M M' m (m + 15) ∧ mw E M' m xln xlen xlab xbad xlev xtr xwa ((ls ++ txtP (pg xG r) K).length) ((ls ++ txtP (pg xG r) K).getD xwa 0) xsf xbf xF xG xP xQ xmm xsl xkd xhs xht xsg xdv)) 0 0 sz M1 20 [(0, .ref m), (1, .int (nI r)), (2, .int (nI 1)), (3, .int (tI K)), (4, .int (nI k))] [] := by
        intro hk0 hv0 hh0
        refine z_iload C d_M_emitPolynomial_20 rfl ?_
        refine z_if_lt (tgt := 150) C d_M_emitPolynomial_22 (by decide) (fun c_22 => absurd c_22 (fun q => absurd ((nI_ltI (a := k) (b := 0) (by omega) (by omega)).mp q) (by omega))) (fun _ => ?_)
        refine z_iload_n C d_M_emitPolynomial_25 rfl rfl ?_
        refine z_if_eq (tgt := 44) C d_M_emitPolynomial_26 (by decide) (fun c_26 => absurd c_26 (by decide)) (fun _ => ?_)
        refine z_aload_n C d_M_emitPolynomial_29 rfl rfl ?_
        refine z_get C in_M H1.1 rfl 12 (by decide) fl_M_26 rfl rfl d_M_emitPolynomial_30 ?_
        refine z_iload_n C d_M_emitPolynomial_33 rfl rfl ?_
        refine z_bipush (v := nI 13) C d_M_emitPolynomial_34 (by decide) ?_
        refine z_imul C d_M_emitPolynomial_36 ?_
        refine z_top (y := nI (r * 13)) (pk_mul _ _) ?_
        refine z_iload C d_M_emitPolynomial_37 rfl ?_
        refine z_iadd C d_M_emitPolynomial_39 ?_
        refine z_top (y := nI ((r * 13) + k)) (nI_add _ _) ?_
        refine z_iald C H1.2.2.2.2.2.1 0 rfl ((r * 13) + k) (rfl) (by omega) (by omega) d_M_emitPolynomial_40 ?_
        refine z_top (y := fI ((pg xG r) k)) (congrArg fI (pg_at (by omega)).symm) ?_
        refine z_goto (tgt := 56) C d_M_emitPolynomial_41 (by decide) ?_
        refine z_istore (L' := [(0, .ref m), (1, .int (nI r)), (2, .int (nI 1)), (3, .int (tI K)), (4, .int (nI k)), (5, .int (fI ((pg xG r) k)))]) C d_M_emitPolynomial_56 (by decide) rfl ?_
        refine z_iload C d_M_emitPolynomial_58 rfl ?_
        refine z_if_eq (tgt := 144) C d_M_emitPolynomial_60 (by decide) (fun c_60 => absurd c_60 (fun q => hz0 (fI_eq0.mp q))) (fun _ => ?_)
        refine z_iload C d_M_emitPolynomial_63 rfl ?_
        refine z_iload_n C d_M_emitPolynomial_65 rfl rfl ?_
        refine z_icmp_ge (tgt := 75) C d_M_emitPolynomial_66 (by decide) (fun c_66 => absurd c_66 (fun q => by rw [← tI_s k] at q; have := (tI_lel (by omega) (by omega)).mp q; omega)) (fun _ => ?_)
        refine z_aload_n C d_M_emitPolynomial_69 rfl rfl ?_
        refine z_bipush (v := nI 43) C d_M_emitPolynomial_70 (by decide) ?_
        refine z_callV (rest := []) (n := 1) (As := [.int (nI 43)]) C (m_emit E X.2.1 sz _ H1 hwa 43 (by simp only [List.length_append, List.length_singleton, List.length_nil] at *; omega)) ⟨z_cb C k_M_emit ml_M_217 ii_M rfl rfl (by decide +kernel) ⟨by decide, by decide⟩, C.2.2.2.2.1 _ im_M_emit, C.2.2.2.2.1 _ se_M_emit⟩ H1.1 rfl rfl rfl (Nat.le_of_ble_eq_true rfl) d_M_emitPolynomial_72 ⟨by decide, by decide⟩ ?_
        intro v_M1_72 s_M1_72 M_M1_72 hp_M1_72
        obtain ⟨rfl, rfl, ho_M1_72, H_M1_72⟩ := hp_M1_72
        have hz_M1_72 : zoutR M M_M1_72 m (m + 15) := zoutR_tr hz1 ho_M1_72
        show Z _ _ _ _ _ _ _ _ 75 _ []
        refine z_iload C d_M_emitPolynomial_75 rfl ?_
        refine z_top (y := nI (((pg xG r) k).val)) rfl ?_
        refine z_iconst (v := nI 1) C d_M_emitPolynomial_77 (by decide) ?_
        refine z_icmp_gt (tgt := 86) C d_M_emitPolynomial_78 (by decide) (fun _ => ?_) (fun c_78 => absurd ((nI_ltI (a := 1) (b := ((pg xG r) k).val) (by omega) (by omega)).mpr (by omega)) c_78)
        refine z_aload_n C d_M_emitPolynomial_86 rfl rfl ?_
        refine z_iload C d_M_emitPolynomial_87 rfl ?_
        refine z_top (y := nI (((pg xG r) k).val)) rfl ?_
        refine z_callV (rest := []) (n := 1) (As := [.int (nI (((pg xG r) k).val))]) C (m_emitNumber E X.2.1 sz _ H_M1_72 hwa (((pg xG r) k).val) (by omega) (by omega) (by simp only [List.length_append, List.length_singleton, List.length_nil] at *; omega)) ⟨z_cb C k_M_emitNumber ml_M_220 ii_M rfl rfl (by decide +kernel) ⟨by decide, by decide⟩, C.2.2.2.2.1 _ im_M_emitNumber, C.2.2.2.2.1 _ se_M_emitNumber⟩ H_M1_72.1 rfl rfl rfl (Nat.le_of_ble_eq_true rfl) d_M_emitPolynomial_89 ⟨by decide, by decide⟩ ?_
        intro v_M_M1_72_89 s_M_M1_72_89 M_M_M1_72_89 hp_M_M1_72_89
        obtain ⟨rfl, rfl, ho_M_M1_72_89, H_M_M1_72_89⟩ := hp_M_M1_72_89
        have hz_M_M1_72_89 : zoutR M M_M_M1_72_89 m (m + 15) := zoutR_tr hz_M1_72 ho_M_M1_72_89
        show Z _ _ _ _ _ _ _ _ 92 _ []
        refine z_iload C d_M_emitPolynomial_92 rfl ?_
        refine z_top (y := nI (((pg xG r) k).val)) rfl ?_
        refine z_iconst (v := nI 1) C d_M_emitPolynomial_94 (by decide) ?_
        refine z_icmp_le (tgt := 109) C d_M_emitPolynomial_95 (by decide) (fun c_95 => absurd c_95 (fun q => by have := (nI_leI (a := ((pg xG r) k).val) (b := 1) (by omega) (by omega)).mp q; omega)) (fun _ => ?_)
        refine z_iload C d_M_emitPolynomial_98 rfl ?_
        refine z_if_le (tgt := 109) C d_M_emitPolynomial_100 (by decide) (fun c_100 => absurd c_100 (fun q => by have := (nI_leI (a := k) (b := 0) (by omega) (by omega)).mp q; omega)) (fun _ => ?_)
        refine z_aload_n C d_M_emitPolynomial_103 rfl rfl ?_
        refine z_bipush (v := nI 42) C d_M_emitPolynomial_104 (by decide) ?_
        refine z_callV (rest := []) (n := 1) (As := [.int (nI 42)]) C (m_emit E X.2.1 sz _ H_M_M1_72_89 hwa 42 (by simp only [List.length_append, List.length_singleton, List.length_nil] at *; omega)) ⟨z_cb C k_M_emit ml_M_217 ii_M rfl rfl (by decide +kernel) ⟨by decide, by decide⟩, C.2.2.2.2.1 _ im_M_emit, C.2.2.2.2.1 _ se_M_emit⟩ H_M_M1_72_89.1 rfl rfl rfl (Nat.le_of_ble_eq_true rfl) d_M_emitPolynomial_106 ⟨by decide, by decide⟩ ?_
        intro v_M_M_M1_72_89_106 s_M_M_M1_72_89_106 M_M_M_M1_72_89_106 hp_M_M_M1_72_89_106
        obtain ⟨rfl, rfl, ho_M_M_M1_72_89_106, H_M_M_M1_72_89_106⟩ := hp_M_M_M1_72_89_106
        have hz_M_M_M1_72_89_106 : zoutR M M_M_M_M1_72_89_106 m (m + 15) := zoutR_tr hz_M_M1_72_89 ho_M_M_M1_72_89_106
        show Z _ _ _ _ _ _ _ _ 109 _ []
        refine z_iload C d_M_emitPolynomial_109 rfl ?_
        refine z_if_le (tgt := 120) C d_M_emitPolynomial_111 (by decide) (fun c_111 => absurd c_111 (fun q => by have := (nI_leI (a := k) (b := 0) (by omega) (by omega)).mp q; omega)) (fun _ => ?_)
        refine z_aload_n C d_M_emitPolynomial_114 rfl rfl ?_
        refine z_bipush (v := nI 120) C d_M_emitPolynomial_115 (by decide) ?_
        refine z_callV (rest := []) (n := 1) (As := [.int (nI 120)]) C (m_emit E X.2.1 sz _ H_M_M_M1_72_89_106 hwa 120 (by simp only [List.length_append, List.length_singleton, List.length_nil] at *; omega)) ⟨z_cb C k_M_emit ml_M_217 ii_M rfl rfl (by decide +kernel) ⟨by decide, by decide⟩, C.2.2.2.2.1 _ im_M_emit, C.2.2.2.2.1 _ se_M_emit⟩ H_M_M_M1_72_89_106.1 rfl rfl rfl (Nat.le_of_ble_eq_true rfl) d_M_emitPolynomial_117 ⟨by decide, by decide⟩ ?_
        intro v_M1_72_89_106_117 s_M1_72_89_106_117 M_M1_72_89_106_117 hp_M1_72_89_106_117
        obtain ⟨rfl, rfl, ho_M1_72_89_106_117, H_M1_72_89_106_117⟩ := hp_M1_72_89_106_117
        have hz_M1_72_89_106_117 : zoutR M M_M1_72_89_106_117 m (m + 15) := zoutR_tr hz_M_M_M1_72_89_106 ho_M1_72_89_106_117
        show Z _ _ _ _ _ _ _ _ 120 _ []
        refine z_iload C d_M_emitPolynomial_120 rfl ?_
        refine z_iconst (v := nI 1) C d_M_emitPolynomial_122 (by decide) ?_
        refine z_icmp_le (tgt := 132) C d_M_emitPolynomial_123 (by decide) (fun _ => ?_) (fun c_123 => absurd ((nI_leI (a := k) (b := 1) (by omega) (by omega)).mpr (by omega)) c_123)
        refine z_iload C d_M_emitPolynomial_132 rfl ?_
        refine z_iconst (v := nI 1) C d_M_emitPolynomial_134 (by decide) ?_
        refine z_icmp_le (tgt := 144) C d_M_emitPolynomial_135 (by decide) (fun _ => ?_) (fun c_135 => absurd ((nI_leI (a := k) (b := 1) (by omega) (by omega)).mpr (by omega)) c_135)
        refine z_iinc (v := tI k) (L' := [(0, .ref m), (1, .int (nI r)), (2, .int (nI 1)), (3, .int (tI K)), (4, .int (tI k)), (5, .int (fI ((pg xG r) k)))]) C d_M_emitPolynomial_144 rfl (nI_dec k) (by decide) rfl ?_
        refine z_goto (tgt := 20) C d_M_emitPolynomial_147 (by decide) ?_
        refine z_sub [0, 1, 2, 3, 4] rfl ?_
        refine ih _ (l1 ++ [43] ++ sn (((pg xG r) k).val) ++ [42] ++ [120]) (by omega) (by simp only [List.length_append, List.length_singleton, List.length_nil] at *; omega) hz_M1_72_89_106_117 H_M1_72_89_106_117 ?_
        rw [e1, show spl (pg xG r) K (k + 1) = (if (pg xG r) k = 0 then [] else (if k + 1 < K then [43] else []) ++ sp ((pg xG r) k).val k) ++ spl (pg xG r) K k from rfl, if_neg hz0, if_pos hh0]
        unfold sp
        rw [if_neg (show ¬ k = 0 by omega), if_neg (show ¬ ((pg xG r) k).val = 1 by omega), if_neg (show ¬ 1 < k by omega)]
        try simp only [List.append_assoc, List.nil_append, List.append_nil, List.singleton_append, List.cons_append]
      have g110 : k = 1 → 1 < ((pg xG r) k).val → ¬ k + 1 < K → Z X E 6 (zQ X E 0 0 (fun v s M' => none = v ∧ sz = s ∧ zoutR M M' m (m + 15) ∧ mw E M' m xln xlen xlab xbad xlev xtr xwa ((ls ++ txtP (pg xG r) K).length) ((ls ++ txtP (pg xG r) K).getD xwa 0) xsf xbf xF xG xP xQ xmm xsl xkd xhs xht xsg xdv)) 0 0 sz M1 20 [(0, .ref m), (1, .int (nI r)), (2, .int (nI 1)), (3, .int (tI K)), (4, .int (nI k))] [] := by
        intro hk0 hv0 hh0
        refine z_iload C d_M_emitPolynomial_20 rfl ?_
        refine z_if_lt (tgt := 150) C d_M_emitPolynomial_22 (by decide) (fun c_22 => absurd c_22 (fun q => absurd ((nI_ltI (a := k) (b := 0) (by omega) (by omega)).mp q) (by omega))) (fun _ => ?_)
        refine z_iload_n C d_M_emitPolynomial_25 rfl rfl ?_
        refine z_if_eq (tgt := 44) C d_M_emitPolynomial_26 (by decide) (fun c_26 => absurd c_26 (by decide)) (fun _ => ?_)
        refine z_aload_n C d_M_emitPolynomial_29 rfl rfl ?_
        refine z_get C in_M H1.1 rfl 12 (by decide) fl_M_26 rfl rfl d_M_emitPolynomial_30 ?_
        refine z_iload_n C d_M_emitPolynomial_33 rfl rfl ?_
        refine z_bipush (v := nI 13) C d_M_emitPolynomial_34 (by decide) ?_
        refine z_imul C d_M_emitPolynomial_36 ?_
        refine z_top (y := nI (r * 13)) (pk_mul _ _) ?_
        refine z_iload C d_M_emitPolynomial_37 rfl ?_
        refine z_iadd C d_M_emitPolynomial_39 ?_
        refine z_top (y := nI ((r * 13) + k)) (nI_add _ _) ?_
        refine z_iald C H1.2.2.2.2.2.1 0 rfl ((r * 13) + k) (rfl) (by omega) (by omega) d_M_emitPolynomial_40 ?_
        refine z_top (y := fI ((pg xG r) k)) (congrArg fI (pg_at (by omega)).symm) ?_
        refine z_goto (tgt := 56) C d_M_emitPolynomial_41 (by decide) ?_
        refine z_istore (L' := [(0, .ref m), (1, .int (nI r)), (2, .int (nI 1)), (3, .int (tI K)), (4, .int (nI k)), (5, .int (fI ((pg xG r) k)))]) C d_M_emitPolynomial_56 (by decide) rfl ?_
        refine z_iload C d_M_emitPolynomial_58 rfl ?_
        refine z_if_eq (tgt := 144) C d_M_emitPolynomial_60 (by decide) (fun c_60 => absurd c_60 (fun q => hz0 (fI_eq0.mp q))) (fun _ => ?_)
        refine z_iload C d_M_emitPolynomial_63 rfl ?_
        refine z_iload_n C d_M_emitPolynomial_65 rfl rfl ?_
        refine z_icmp_ge (tgt := 75) C d_M_emitPolynomial_66 (by decide) (fun _ => ?_) (fun c_66 => absurd (by rw [← tI_s k]; exact (tI_lel (by omega) (by omega)).mpr (by omega)) c_66)
        refine z_iload C d_M_emitPolynomial_75 rfl ?_
        refine z_top (y := nI (((pg xG r) k).val)) rfl ?_
        refine z_iconst (v := nI 1) C d_M_emitPolynomial_77 (by decide) ?_
        refine z_icmp_gt (tgt := 86) C d_M_emitPolynomial_78 (by decide) (fun _ => ?_) (fun c_78 => absurd ((nI_ltI (a := 1) (b := ((pg xG r) k).val) (by omega) (by omega)).mpr (by omega)) c_78)
        refine z_aload_n C d_M_emitPolynomial_86 rfl rfl ?_
        refine z_iload C d_M_emitPolynomial_87 rfl ?_
        refine z_top (y := nI (((pg xG r) k).val)) rfl ?_
        refine z_callV (rest := []) (n := 1) (As := [.int (nI (((pg xG r) k).val))]) C (m_emitNumber E X.2.1 sz _ H1 hwa (((pg xG r) k).val) (by omega) (by omega) (by simp only [List.length_append, List.length_singleton, List.length_nil] at *; omega)) ⟨z_cb C k_M_emitNumber ml_M_220 ii_M rfl rfl (by decide +kernel) ⟨by decide, by decide⟩, C.2.2.2.2.1 _ im_M_emitNumber, C.2.2.2.2.1 _ se_M_emitNumber⟩ H1.1 rfl rfl rfl (Nat.le_of_ble_eq_true rfl) d_M_emitPolynomial_89 ⟨by decide, by decide⟩ ?_
        intro v_M1_89 s_M1_89 M_M1_89 hp_M1_89
        obtain ⟨rfl, rfl, ho_M1_89, H_M1_89⟩ := hp_M1_89
        have hz_M1_89 : zoutR M M_M1_89 m (m + 15) := zoutR_tr hz1 ho_M1_89
        show Z _ _ _ _ _ _ _ _ 92 _ []
        refine z_iload C d_M_emitPolynomial_92 rfl ?_
        refine z_top (y := nI (((pg xG r) k).val)) rfl ?_
        refine z_iconst (v := nI 1) C d_M_emitPolynomial_94 (by decide) ?_
        refine z_icmp_le (tgt := 109) C d_M_emitPolynomial_95 (by decide) (fun c_95 => absurd c_95 (fun q => by have := (nI_leI (a := ((pg xG r) k).val) (b := 1) (by omega) (by omega)).mp q; omega)) (fun _ => ?_)
        refine z_iload C d_M_emitPolynomial_98 rfl ?_
        refine z_if_le (tgt := 109) C d_M_emitPolynomial_100 (by decide) (fun c_100 => absurd c_100 (fun q => by have := (nI_leI (a := k) (b := 0) (by omega) (by omega)).mp q; omega)) (fun _ => ?_)
        refine z_aload_n C d_M_emitPolynomial_103 rfl rfl ?_
        refine z_bipush (v := nI 42) C d_M_emitPolynomial_104 (by decide) ?_
        refine z_callV (rest := []) (n := 1) (As := [.int (nI 42)]) C (m_emit E X.2.1 sz _ H_M1_89 hwa 42 (by simp only [List.length_append, List.length_singleton, List.length_nil] at *; omega)) ⟨z_cb C k_M_emit ml_M_217 ii_M rfl rfl (by decide +kernel) ⟨by decide, by decide⟩, C.2.2.2.2.1 _ im_M_emit, C.2.2.2.2.1 _ se_M_emit⟩ H_M1_89.1 rfl rfl rfl (Nat.le_of_ble_eq_true rfl) d_M_emitPolynomial_106 ⟨by decide, by decide⟩ ?_
        intro v_M_M1_89_106 s_M_M1_89_106 M_M_M1_89_106 hp_M_M1_89_106
        obtain ⟨rfl, rfl, ho_M_M1_89_106, H_M_M1_89_106⟩ := hp_M_M1_89_106
        have hz_M_M1_89_106 : zoutR M M_M_M1_89_106 m (m + 15) := zoutR_tr hz_M1_89 ho_M_M1_89_106
        show Z _ _ _ _ _ _ _ _ 109 _ []
        refine z_iload C d_M_emitPolynomial_109 rfl ?_
        refine z_if_le (tgt := 120) C d_M_emitPolynomial_111 (by decide) (fun c_111 => absurd c_111 (fun q => by have := (nI_leI (a := k) (b := 0) (by omega) (by omega)).mp q; omega)) (fun _ => ?_)
        refine z_aload_n C d_M_emitPolynomial_114 rfl rfl ?_
        refine z_bipush (v := nI 120) C d_M_emitPolynomial_115 (by decide) ?_
        refine z_callV (rest := []) (n := 1) (As := [.int (nI 120)]) C (m_emit E X.2.1 sz _ H_M_M1_89_106 hwa 120 (by simp only [List.length_append, List.length_singleton, List.length_nil] at *; omega)) ⟨z_cb C k_M_emit ml_M_217 ii_M rfl rfl (by decide +kernel) ⟨by decide, by decide⟩, C.2.2.2.2.1 _ im_M_emit, C.2.2.2.2.1 _ se_M_emit⟩ H_M_M1_89_106.1 rfl rfl rfl (Nat.le_of_ble_eq_true rfl) d_M_emitPolynomial_117 ⟨by decide, by decide⟩ ?_
        intro v__M_M1_89_106_117 s__M_M1_89_106_117 M__M_M1_89_106_117 hp__M_M1_89_106_117
        obtain ⟨rfl, rfl, ho__M_M1_89_106_117, H__M_M1_89_106_117⟩ := hp__M_M1_89_106_117
        have hz__M_M1_89_106_117 : zoutR M M__M_M1_89_106_117 m (m + 15) := zoutR_tr hz_M_M1_89_106 ho__M_M1_89_106_117
        show Z _ _ _ _ _ _ _ _ 120 _ []
        refine z_iload C d_M_emitPolynomial_120 rfl ?_
        refine z_iconst (v := nI 1) C d_M_emitPolynomial_122 (by decide) ?_
        refine z_icmp_le (tgt := 132) C d_M_emitPolynomial_123 (by decide) (fun _ => ?_) (fun c_123 => absurd ((nI_leI (a := k) (b := 1) (by omega) (by omega)).mpr (by omega)) c_123)
        refine z_iload C d_M_emitPolynomial_132 rfl ?_
        refine z_iconst (v := nI 1) C d_M_emitPolynomial_134 (by decide) ?_
        refine z_icmp_le (tgt := 144) C d_M_emitPolynomial_135 (by decide) (fun _ => ?_) (fun c_135 => absurd ((nI_leI (a := k) (b := 1) (by omega) (by omega)).mpr (by omega)) c_135)
        refine z_iinc (v := tI k) (L' := [(0, .ref m), (1, .int (nI r)), (2, .int (nI 1)), (3, .int (tI K)), (4, .int (tI k)), (5, .int (fI ((pg xG r) k)))]) C d_M_emitPolynomial_144 rfl (nI_dec k) (by decide) rfl ?_
        refine z_goto (tgt := 20) C d_M_emitPolynomial_147 (by decide) ?_
        refine z_sub [0, 1, 2, 3, 4] rfl ?_
        refine ih _ (l1 ++ sn (((pg xG r) k).val) ++ [42] ++ [120]) (by omega) (by simp only [List.length_append, List.length_singleton, List.length_nil] at *; omega) hz__M_M1_89_106_117 H__M_M1_89_106_117 ?_
        rw [e1, show spl (pg xG r) K (k + 1) = (if (pg xG r) k = 0 then [] else (if k + 1 < K then [43] else []) ++ sp ((pg xG r) k).val k) ++ spl (pg xG r) K k from rfl, if_neg hz0, if_neg hh0]
        unfold sp
        rw [if_neg (show ¬ k = 0 by omega), if_neg (show ¬ ((pg xG r) k).val = 1 by omega), if_neg (show ¬ 1 < k by omega)]
        try simp only [List.append_assoc, List.nil_append, List.append_nil, List.singleton_append, List.cons_append]
      have g201 : 1 < k → ((pg xG r) k).val = 1 → k + 1 < K → Z X E 6 (zQ X E 0 0 (fun v s M' => none = v ∧ sz = s ∧ zoutR M M' m (m + 15) ∧ mw E M' m xln xlen xlab xbad xlev xtr xwa ((ls ++ txtP (pg xG r) K).length) ((ls ++ txtP (pg xG r) K).getD xwa 0) xsf xbf xF xG xP xQ xmm xsl xkd xhs xht xsg xdv)) 0 0 sz M1 20 [(0, .ref m), (1, .int (nI r)), (2, .int (nI 1)), (3, .int (tI K)), (4, .int (nI k))] [] := by
        intro hk0 hv0 hh0
        refine z_iload C d_M_emitPolynomial_20 rfl ?_
        refine z_if_lt (tgt := 150) C d_M_emitPolynomial_22 (by decide) (fun c_22 => absurd c_22 (fun q => absurd ((nI_ltI (a := k) (b := 0) (by omega) (by omega)).mp q) (by omega))) (fun _ => ?_)
        refine z_iload_n C d_M_emitPolynomial_25 rfl rfl ?_
        refine z_if_eq (tgt := 44) C d_M_emitPolynomial_26 (by decide) (fun c_26 => absurd c_26 (by decide)) (fun _ => ?_)
        refine z_aload_n C d_M_emitPolynomial_29 rfl rfl ?_
        refine z_get C in_M H1.1 rfl 12 (by decide) fl_M_26 rfl rfl d_M_emitPolynomial_30 ?_
        refine z_iload_n C d_M_emitPolynomial_33 rfl rfl ?_
        refine z_bipush (v := nI 13) C d_M_emitPolynomial_34 (by decide) ?_
        refine z_imul C d_M_emitPolynomial_36 ?_
        refine z_top (y := nI (r * 13)) (pk_mul _ _) ?_
        refine z_iload C d_M_emitPolynomial_37 rfl ?_
        refine z_iadd C d_M_emitPolynomial_39 ?_
        refine z_top (y := nI ((r * 13) + k)) (nI_add _ _) ?_
        refine z_iald C H1.2.2.2.2.2.1 0 rfl ((r * 13) + k) (rfl) (by omega) (by omega) d_M_emitPolynomial_40 ?_
        refine z_top (y := fI ((pg xG r) k)) (congrArg fI (pg_at (by omega)).symm) ?_
        refine z_goto (tgt := 56) C d_M_emitPolynomial_41 (by decide) ?_
        refine z_istore (L' := [(0, .ref m), (1, .int (nI r)), (2, .int (nI 1)), (3, .int (tI K)), (4, .int (nI k)), (5, .int (fI ((pg xG r) k)))]) C d_M_emitPolynomial_56 (by decide) rfl ?_
        refine z_iload C d_M_emitPolynomial_58 rfl ?_
        refine z_if_eq (tgt := 144) C d_M_emitPolynomial_60 (by decide) (fun c_60 => absurd c_60 (fun q => hz0 (fI_eq0.mp q))) (fun _ => ?_)
        refine z_iload C d_M_emitPolynomial_63 rfl ?_
        refine z_iload_n C d_M_emitPolynomial_65 rfl rfl ?_
        refine z_icmp_ge (tgt := 75) C d_M_emitPolynomial_66 (by decide) (fun c_66 => absurd c_66 (fun q => by rw [← tI_s k] at q; have := (tI_lel (by omega) (by omega)).mp q; omega)) (fun _ => ?_)
        refine z_aload_n C d_M_emitPolynomial_69 rfl rfl ?_
        refine z_bipush (v := nI 43) C d_M_emitPolynomial_70 (by decide) ?_
        refine z_callV (rest := []) (n := 1) (As := [.int (nI 43)]) C (m_emit E X.2.1 sz _ H1 hwa 43 (by simp only [List.length_append, List.length_singleton, List.length_nil] at *; omega)) ⟨z_cb C k_M_emit ml_M_217 ii_M rfl rfl (by decide +kernel) ⟨by decide, by decide⟩, C.2.2.2.2.1 _ im_M_emit, C.2.2.2.2.1 _ se_M_emit⟩ H1.1 rfl rfl rfl (Nat.le_of_ble_eq_true rfl) d_M_emitPolynomial_72 ⟨by decide, by decide⟩ ?_
        intro v_M1_72 s_M1_72 M_M1_72 hp_M1_72
        obtain ⟨rfl, rfl, ho_M1_72, H_M1_72⟩ := hp_M1_72
        have hz_M1_72 : zoutR M M_M1_72 m (m + 15) := zoutR_tr hz1 ho_M1_72
        show Z _ _ _ _ _ _ _ _ 75 _ []
        refine z_iload C d_M_emitPolynomial_75 rfl ?_
        refine z_top (y := nI (((pg xG r) k).val)) rfl ?_
        refine z_iconst (v := nI 1) C d_M_emitPolynomial_77 (by decide) ?_
        refine z_icmp_gt (tgt := 86) C d_M_emitPolynomial_78 (by decide) (fun c_78 => absurd c_78 (fun q => by have := (nI_ltI (a := 1) (b := ((pg xG r) k).val) (by omega) (by omega)).mp q; omega)) (fun _ => ?_)
        refine z_iload C d_M_emitPolynomial_81 rfl ?_
        refine z_if_ne (tgt := 92) C d_M_emitPolynomial_83 (by decide) (fun _ => ?_) (fun c_83 => absurd c_83 (fun q => absurd ((nI_eq (a := k) (b := 0) (by omega) (by omega)).mp q) (by omega)))
        refine z_iload C d_M_emitPolynomial_92 rfl ?_
        refine z_top (y := nI (((pg xG r) k).val)) rfl ?_
        refine z_iconst (v := nI 1) C d_M_emitPolynomial_94 (by decide) ?_
        refine z_icmp_le (tgt := 109) C d_M_emitPolynomial_95 (by decide) (fun _ => ?_) (fun c_95 => absurd ((nI_leI (a := ((pg xG r) k).val) (b := 1) (by omega) (by omega)).mpr (by omega)) c_95)
        refine z_iload C d_M_emitPolynomial_109 rfl ?_
        refine z_if_le (tgt := 120) C d_M_emitPolynomial_111 (by decide) (fun c_111 => absurd c_111 (fun q => by have := (nI_leI (a := k) (b := 0) (by omega) (by omega)).mp q; omega)) (fun _ => ?_)
        refine z_aload_n C d_M_emitPolynomial_114 rfl rfl ?_
        refine z_bipush (v := nI 120) C d_M_emitPolynomial_115 (by decide) ?_
        refine z_callV (rest := []) (n := 1) (As := [.int (nI 120)]) C (m_emit E X.2.1 sz _ H_M1_72 hwa 120 (by simp only [List.length_append, List.length_singleton, List.length_nil] at *; omega)) ⟨z_cb C k_M_emit ml_M_217 ii_M rfl rfl (by decide +kernel) ⟨by decide, by decide⟩, C.2.2.2.2.1 _ im_M_emit, C.2.2.2.2.1 _ se_M_emit⟩ H_M1_72.1 rfl rfl rfl (Nat.le_of_ble_eq_true rfl) d_M_emitPolynomial_117 ⟨by decide, by decide⟩ ?_
        intro v_M_M1_72_117 s_M_M1_72_117 M_M_M1_72_117 hp_M_M1_72_117
        obtain ⟨rfl, rfl, ho_M_M1_72_117, H_M_M1_72_117⟩ := hp_M_M1_72_117
        have hz_M_M1_72_117 : zoutR M M_M_M1_72_117 m (m + 15) := zoutR_tr hz_M1_72 ho_M_M1_72_117
        show Z _ _ _ _ _ _ _ _ 120 _ []
        refine z_iload C d_M_emitPolynomial_120 rfl ?_
        refine z_iconst (v := nI 1) C d_M_emitPolynomial_122 (by decide) ?_
        refine z_icmp_le (tgt := 132) C d_M_emitPolynomial_123 (by decide) (fun c_123 => absurd c_123 (fun q => by have := (nI_leI (a := k) (b := 1) (by omega) (by omega)).mp q; omega)) (fun _ => ?_)
        refine z_aload_n C d_M_emitPolynomial_126 rfl rfl ?_
        refine z_bipush (v := nI 94) C d_M_emitPolynomial_127 (by decide) ?_
        refine z_callV (rest := []) (n := 1) (As := [.int (nI 94)]) C (m_emit E X.2.1 sz _ H_M_M1_72_117 hwa 94 (by simp only [List.length_append, List.length_singleton, List.length_nil] at *; omega)) ⟨z_cb C k_M_emit ml_M_217 ii_M rfl rfl (by decide +kernel) ⟨by decide, by decide⟩, C.2.2.2.2.1 _ im_M_emit, C.2.2.2.2.1 _ se_M_emit⟩ H_M_M1_72_117.1 rfl rfl rfl (Nat.le_of_ble_eq_true rfl) d_M_emitPolynomial_129 ⟨by decide, by decide⟩ ?_
        intro v__M_M1_72_117_129 s__M_M1_72_117_129 M__M_M1_72_117_129 hp__M_M1_72_117_129
        obtain ⟨rfl, rfl, ho__M_M1_72_117_129, H__M_M1_72_117_129⟩ := hp__M_M1_72_117_129
        have hz__M_M1_72_117_129 : zoutR M M__M_M1_72_117_129 m (m + 15) := zoutR_tr hz_M_M1_72_117 ho__M_M1_72_117_129
        show Z _ _ _ _ _ _ _ _ 132 _ []
        refine z_iload C d_M_emitPolynomial_132 rfl ?_
        refine z_iconst (v := nI 1) C d_M_emitPolynomial_134 (by decide) ?_
        refine z_icmp_le (tgt := 144) C d_M_emitPolynomial_135 (by decide) (fun c_135 => absurd c_135 (fun q => by have := (nI_leI (a := k) (b := 1) (by omega) (by omega)).mp q; omega)) (fun _ => ?_)
        refine z_aload_n C d_M_emitPolynomial_138 rfl rfl ?_
        refine z_iload C d_M_emitPolynomial_139 rfl ?_
        refine z_callV (rest := []) (n := 1) (As := [.int (nI k)]) C (m_emitNumber E X.2.1 sz _ H__M_M1_72_117_129 hwa k (by omega) (by omega) (by simp only [List.length_append, List.length_singleton, List.length_nil] at *; omega)) ⟨z_cb C k_M_emitNumber ml_M_220 ii_M rfl rfl (by decide +kernel) ⟨by decide, by decide⟩, C.2.2.2.2.1 _ im_M_emitNumber, C.2.2.2.2.1 _ se_M_emitNumber⟩ H__M_M1_72_117_129.1 rfl rfl rfl (Nat.le_of_ble_eq_true rfl) d_M_emitPolynomial_141 ⟨by decide, by decide⟩ ?_
        intro v_1_72_117_129_141 s_1_72_117_129_141 M_1_72_117_129_141 hp_1_72_117_129_141
        obtain ⟨rfl, rfl, ho_1_72_117_129_141, H_1_72_117_129_141⟩ := hp_1_72_117_129_141
        have hz_1_72_117_129_141 : zoutR M M_1_72_117_129_141 m (m + 15) := zoutR_tr hz__M_M1_72_117_129 ho_1_72_117_129_141
        show Z _ _ _ _ _ _ _ _ 144 _ []
        refine z_iinc (v := tI k) (L' := [(0, .ref m), (1, .int (nI r)), (2, .int (nI 1)), (3, .int (tI K)), (4, .int (tI k)), (5, .int (fI ((pg xG r) k)))]) C d_M_emitPolynomial_144 rfl (nI_dec k) (by decide) rfl ?_
        refine z_goto (tgt := 20) C d_M_emitPolynomial_147 (by decide) ?_
        refine z_sub [0, 1, 2, 3, 4] rfl ?_
        refine ih _ (l1 ++ [43] ++ [120] ++ [94] ++ sn k) (by omega) (by simp only [List.length_append, List.length_singleton, List.length_nil] at *; omega) hz_1_72_117_129_141 H_1_72_117_129_141 ?_
        rw [e1, show spl (pg xG r) K (k + 1) = (if (pg xG r) k = 0 then [] else (if k + 1 < K then [43] else []) ++ sp ((pg xG r) k).val k) ++ spl (pg xG r) K k from rfl, if_neg hz0, if_pos hh0]
        unfold sp
        rw [if_neg (show ¬ k = 0 by omega), if_pos hv0, if_pos hk0]
        try simp only [List.append_assoc, List.nil_append, List.append_nil, List.singleton_append, List.cons_append]
      have g200 : 1 < k → ((pg xG r) k).val = 1 → ¬ k + 1 < K → Z X E 6 (zQ X E 0 0 (fun v s M' => none = v ∧ sz = s ∧ zoutR M M' m (m + 15) ∧ mw E M' m xln xlen xlab xbad xlev xtr xwa ((ls ++ txtP (pg xG r) K).length) ((ls ++ txtP (pg xG r) K).getD xwa 0) xsf xbf xF xG xP xQ xmm xsl xkd xhs xht xsg xdv)) 0 0 sz M1 20 [(0, .ref m), (1, .int (nI r)), (2, .int (nI 1)), (3, .int (tI K)), (4, .int (nI k))] [] := by
        intro hk0 hv0 hh0
        refine z_iload C d_M_emitPolynomial_20 rfl ?_
        refine z_if_lt (tgt := 150) C d_M_emitPolynomial_22 (by decide) (fun c_22 => absurd c_22 (fun q => absurd ((nI_ltI (a := k) (b := 0) (by omega) (by omega)).mp q) (by omega))) (fun _ => ?_)
        refine z_iload_n C d_M_emitPolynomial_25 rfl rfl ?_
        refine z_if_eq (tgt := 44) C d_M_emitPolynomial_26 (by decide) (fun c_26 => absurd c_26 (by decide)) (fun _ => ?_)
        refine z_aload_n C d_M_emitPolynomial_29 rfl rfl ?_
        refine z_get C in_M H1.1 rfl 12 (by decide) fl_M_26 rfl rfl d_M_emitPolynomial_30 ?_
        refine z_iload_n C d_M_emitPolynomial_33 rfl rfl ?_
        refine z_bipush (v := nI 13) C d_M_emitPolynomial_34 (by decide) ?_
        refine z_imul C d_M_emitPolynomial_36 ?_
        refine z_top (y := nI (r * 13)) (pk_mul _ _) ?_
        refine z_iload C d_M_emitPolynomial_37 rfl ?_
        refine z_iadd C d_M_emitPolynomial_39 ?_
        refine z_top (y := nI ((r * 13) + k)) (nI_add _ _) ?_
        refine z_iald C H1.2.2.2.2.2.1 0 rfl ((r * 13) + k) (rfl) (by omega) (by omega) d_M_emitPolynomial_40 ?_
        refine z_top (y := fI ((pg xG r) k)) (congrArg fI (pg_at (by omega)).symm) ?_
        refine z_goto (tgt := 56) C d_M_emitPolynomial_41 (by decide) ?_
        refine z_istore (L' := [(0, .ref m), (1, .int (nI r)), (2, .int (nI 1)), (3, .int (tI K)), (4, .int (nI k)), (5, .int (fI ((pg xG r) k)))]) C d_M_emitPolynomial_56 (by decide) rfl ?_
        refine z_iload C d_M_emitPolynomial_58 rfl ?_
        refine z_if_eq (tgt := 144) C d_M_emitPolynomial_60 (by decide) (fun c_60 => absurd c_60 (fun q => hz0 (fI_eq0.mp q))) (fun _ => ?_)
        refine z_iload C d_M_emitPolynomial_63 rfl ?_
        refine z_iload_n C d_M_emitPolynomial_65 rfl rfl ?_
        refine z_icmp_ge (tgt := 75) C d_M_emitPolynomial_66 (by decide) (fun _ => ?_) (fun c_66 => absurd (by rw [← tI_s k]; exact (tI_lel (by omega) (by omega)).mpr (by omega)) c_66)
        refine z_iload C d_M_emitPolynomial_75 rfl ?_
        refine z_top (y := nI (((pg xG r) k).val)) rfl ?_
        refine z_iconst (v := nI 1) C d_M_emitPolynomial_77 (by decide) ?_
        refine z_icmp_gt (tgt := 86) C d_M_emitPolynomial_78 (by decide) (fun c_78 => absurd c_78 (fun q => by have := (nI_ltI (a := 1) (b := ((pg xG r) k).val) (by omega) (by omega)).mp q; omega)) (fun _ => ?_)
        refine z_iload C d_M_emitPolynomial_81 rfl ?_
        refine z_if_ne (tgt := 92) C d_M_emitPolynomial_83 (by decide) (fun _ => ?_) (fun c_83 => absurd c_83 (fun q => absurd ((nI_eq (a := k) (b := 0) (by omega) (by omega)).mp q) (by omega)))
        refine z_iload C d_M_emitPolynomial_92 rfl ?_
        refine z_top (y := nI (((pg xG r) k).val)) rfl ?_
        refine z_iconst (v := nI 1) C d_M_emitPolynomial_94 (by decide) ?_
        refine z_icmp_le (tgt := 109) C d_M_emitPolynomial_95 (by decide) (fun _ => ?_) (fun c_95 => absurd ((nI_leI (a := ((pg xG r) k).val) (b := 1) (by omega) (by omega)).mpr (by omega)) c_95)
        refine z_iload C d_M_emitPolynomial_109 rfl ?_
        refine z_if_le (tgt := 120) C d_M_emitPolynomial_111 (by decide) (fun c_111 => absurd c_111 (fun q => by have := (nI_leI (a := k) (b := 0) (by omega) (by omega)).mp q; omega)) (fun _ => ?_)
        refine z_aload_n C d_M_emitPolynomial_114 rfl rfl ?_
        refine z_bipush (v := nI 120) C d_M_emitPolynomial_115 (by decide) ?_
        refine z_callV (rest := []) (n := 1) (As := [.int (nI 120)]) C (m_emit E X.2.1 sz _ H1 hwa 120 (by simp only [List.length_append, List.length_singleton, List.length_nil] at *; omega)) ⟨z_cb C k_M_emit ml_M_217 ii_M rfl rfl (by decide +kernel) ⟨by decide, by decide⟩, C.2.2.2.2.1 _ im_M_emit, C.2.2.2.2.1 _ se_M_emit⟩ H1.1 rfl rfl rfl (Nat.le_of_ble_eq_true rfl) d_M_emitPolynomial_117 ⟨by decide, by decide⟩ ?_
        intro v_M1_117 s_M1_117 M_M1_117 hp_M1_117
        obtain ⟨rfl, rfl, ho_M1_117, H_M1_117⟩ := hp_M1_117
        have hz_M1_117 : zoutR M M_M1_117 m (m + 15) := zoutR_tr hz1 ho_M1_117
        show Z _ _ _ _ _ _ _ _ 120 _ []
        refine z_iload C d_M_emitPolynomial_120 rfl ?_
        refine z_iconst (v := nI 1) C d_M_emitPolynomial_122 (by decide) ?_
        refine z_icmp_le (tgt := 132) C d_M_emitPolynomial_123 (by decide) (fun c_123 => absurd c_123 (fun q => by have := (nI_leI (a := k) (b := 1) (by omega) (by omega)).mp q; omega)) (fun _ => ?_)
        refine z_aload_n C d_M_emitPolynomial_126 rfl rfl ?_
        refine z_bipush (v := nI 94) C d_M_emitPolynomial_127 (by decide) ?_
        refine z_callV (rest := []) (n := 1) (As := [.int (nI 94)]) C (m_emit E X.2.1 sz _ H_M1_117 hwa 94 (by simp only [List.length_append, List.length_singleton, List.length_nil] at *; omega)) ⟨z_cb C k_M_emit ml_M_217 ii_M rfl rfl (by decide +kernel) ⟨by decide, by decide⟩, C.2.2.2.2.1 _ im_M_emit, C.2.2.2.2.1 _ se_M_emit⟩ H_M1_117.1 rfl rfl rfl (Nat.le_of_ble_eq_true rfl) d_M_emitPolynomial_129 ⟨by decide, by decide⟩ ?_
        intro v_M_M1_117_129 s_M_M1_117_129 M_M_M1_117_129 hp_M_M1_117_129
        obtain ⟨rfl, rfl, ho_M_M1_117_129, H_M_M1_117_129⟩ := hp_M_M1_117_129
        have hz_M_M1_117_129 : zoutR M M_M_M1_117_129 m (m + 15) := zoutR_tr hz_M1_117 ho_M_M1_117_129
        show Z _ _ _ _ _ _ _ _ 132 _ []
        refine z_iload C d_M_emitPolynomial_132 rfl ?_
        refine z_iconst (v := nI 1) C d_M_emitPolynomial_134 (by decide) ?_
        refine z_icmp_le (tgt := 144) C d_M_emitPolynomial_135 (by decide) (fun c_135 => absurd c_135 (fun q => by have := (nI_leI (a := k) (b := 1) (by omega) (by omega)).mp q; omega)) (fun _ => ?_)
        refine z_aload_n C d_M_emitPolynomial_138 rfl rfl ?_
        refine z_iload C d_M_emitPolynomial_139 rfl ?_
        refine z_callV (rest := []) (n := 1) (As := [.int (nI k)]) C (m_emitNumber E X.2.1 sz _ H_M_M1_117_129 hwa k (by omega) (by omega) (by simp only [List.length_append, List.length_singleton, List.length_nil] at *; omega)) ⟨z_cb C k_M_emitNumber ml_M_220 ii_M rfl rfl (by decide +kernel) ⟨by decide, by decide⟩, C.2.2.2.2.1 _ im_M_emitNumber, C.2.2.2.2.1 _ se_M_emitNumber⟩ H_M_M1_117_129.1 rfl rfl rfl (Nat.le_of_ble_eq_true rfl) d_M_emitPolynomial_141 ⟨by decide, by decide⟩ ?_
        intro v_M_M1_117_129_141 s_M_M1_117_129_141 M_M_M1_117_129_141 hp_M_M1_117_129_141
        obtain ⟨rfl, rfl, ho_M_M1_117_129_141, H_M_M1_117_129_141⟩ := hp_M_M1_117_129_141
        have hz_M_M1_117_129_141 : zoutR M M_M_M1_117_129_141 m (m + 15) := zoutR_tr hz_M_M1_117_129 ho_M_M1_117_129_141
        show Z _ _ _ _ _ _ _ _ 144 _ []
        refine z_iinc (v := tI k) (L' := [(0, .ref m), (1, .int (nI r)), (2, .int (nI 1)), (3, .int (tI K)), (4, .int (tI k)), (5, .int (fI ((pg xG r) k)))]) C d_M_emitPolynomial_144 rfl (nI_dec k) (by decide) rfl ?_
        refine z_goto (tgt := 20) C d_M_emitPolynomial_147 (by decide) ?_
        refine z_sub [0, 1, 2, 3, 4] rfl ?_
        refine ih _ (l1 ++ [120] ++ [94] ++ sn k) (by omega) (by simp only [List.length_append, List.length_singleton, List.length_nil] at *; omega) hz_M_M1_117_129_141 H_M_M1_117_129_141 ?_
        rw [e1, show spl (pg xG r) K (k + 1) = (if (pg xG r) k = 0 then [] else (if k + 1 < K then [43] else []) ++ sp ((pg xG r) k).val k) ++ spl (pg xG r) K k from rfl, if_neg hz0, if_neg hh0]
        unfold sp
        rw [if_neg (show ¬ k = 0 by omega), if_pos hv0, if_pos hk0]
        try simp only [List.append_assoc, List.nil_append, List.append_nil, List.singleton_append, List.cons_append]
      have g211 : 1 < k → 1 < ((pg xG r) k).val → k + 1 < K → Z X E 6 (zQ X E 0 0 (fun v s M' => none = v ∧ sz = s ∧ zoutR M M' m (m + 15) ∧ mw E M' m xln xlen xlab xbad xlev xtr xwa ((ls ++ txtP (pg xG r) K).length) ((ls ++ txtP (pg xG r) K).getD xwa 0) xsf xbf xF xG xP xQ xmm xsl xkd xhs xht xsg xdv)) 0 0 sz M1 20 [(0, .ref m), (1, .int (nI r)), (2, .int (nI 1)), (3, .int (tI K)), (4, .int (nI k))] [] := by
        intro hk0 hv0 hh0
        refine z_iload C d_M_emitPolynomial_20 rfl ?_
        refine z_if_lt (tgt := 150) C d_M_emitPolynomial_22 (by decide) (fun c_22 => absurd c_22 (fun q => absurd ((nI_ltI (a := k) (b := 0) (by omega) (by omega)).mp q) (by omega))) (fun _ => ?_)
        refine z_iload_n C d_M_emitPolynomial_25 rfl rfl ?_
        refine z_if_eq (tgt := 44) C d_M_emitPolynomial_26 (by decide) (fun c_26 => absurd c_26 (by decide)) (fun _ => ?_)
        refine z_aload_n C d_M_emitPolynomial_29 rfl rfl ?_
        refine z_get C in_M H1.1 rfl 12 (by decide) fl_M_26 rfl rfl d_M_emitPolynomial_30 ?_
        refine z_iload_n C d_M_emitPolynomial_33 rfl rfl ?_
        refine z_bipush (v := nI 13) C d_M_emitPolynomial_34 (by decide) ?_
        refine z_imul C d_M_emitPolynomial_36 ?_
        refine z_top (y := nI (r * 13)) (pk_mul _ _) ?_
        refine z_iload C d_M_emitPolynomial_37 rfl ?_
        refine z_iadd C d_M_emitPolynomial_39 ?_
        refine z_top (y := nI ((r * 13) + k)) (nI_add _ _) ?_
        refine z_iald C H1.2.2.2.2.2.1 0 rfl ((r * 13) + k) (rfl) (by omega) (by omega) d_M_emitPolynomial_40 ?_
        refine z_top (y := fI ((pg xG r) k)) (congrArg fI (pg_at (by omega)).symm) ?_
        refine z_goto (tgt := 56) C d_M_emitPolynomial_41 (by decide) ?_
        refine z_istore (L' := [(0, .ref m), (1, .int (nI r)), (2, .int (nI 1)), (3, .int (tI K)), (4, .int (nI k)), (5, .int (fI ((pg xG r) k)))]) C d_M_emitPolynomial_56 (by decide) rfl ?_
        refine z_iload C d_M_emitPolynomial_58 rfl ?_
        refine z_if_eq (tgt := 144) C d_M_emitPolynomial_60 (by decide) (fun c_60 => absurd c_60 (fun q => hz0 (fI_eq0.mp q))) (fun _ => ?_)
        refine z_iload C d_M_emitPolynomial_63 rfl ?_
        refine z_iload_n C d_M_emitPolynomial_65 rfl rfl ?_
        refine z_icmp_ge (tgt := 75) C d_M_emitPolynomial_66 (by decide) (fun c_66 => absurd c_66 (fun q => by rw [← tI_s k] at q; have := (tI_lel (by omega) (by omega)).mp q; omega)) (fun _ => ?_)
        refine z_aload_n C d_M_emitPolynomial_69 rfl rfl ?_
        refine z_bipush (v := nI 43) C d_M_emitPolynomial_70 (by decide) ?_
        refine z_callV (rest := []) (n := 1) (As := [.int (nI 43)]) C (m_emit E X.2.1 sz _ H1 hwa 43 (by simp only [List.length_append, List.length_singleton, List.length_nil] at *; omega)) ⟨z_cb C k_M_emit ml_M_217 ii_M rfl rfl (by decide +kernel) ⟨by decide, by decide⟩, C.2.2.2.2.1 _ im_M_emit, C.2.2.2.2.1 _ se_M_emit⟩ H1.1 rfl rfl rfl (Nat.le_of_ble_eq_true rfl) d_M_emitPolynomial_72 ⟨by decide, by decide⟩ ?_
        intro v_M1_72 s_M1_72 M_M1_72 hp_M1_72
        obtain ⟨rfl, rfl, ho_M1_72, H_M1_72⟩ := hp_M1_72
        have hz_M1_72 : zoutR M M_M1_72 m (m + 15) := zoutR_tr hz1 ho_M1_72
        show Z _ _ _ _ _ _ _ _ 75 _ []
        refine z_iload C d_M_emitPolynomial_75 rfl ?_
        refine z_top (y := nI (((pg xG r) k).val)) rfl ?_
        refine z_iconst (v := nI 1) C d_M_emitPolynomial_77 (by decide) ?_
        refine z_icmp_gt (tgt := 86) C d_M_emitPolynomial_78 (by decide) (fun _ => ?_) (fun c_78 => absurd ((nI_ltI (a := 1) (b := ((pg xG r) k).val) (by omega) (by omega)).mpr (by omega)) c_78)
        refine z_aload_n C d_M_emitPolynomial_86 rfl rfl ?_
        refine z_iload C d_M_emitPolynomial_87 rfl ?_
        refine z_top (y := nI (((pg xG r) k).val)) rfl ?_
        refine z_callV (rest := []) (n := 1) (As := [.int (nI (((pg xG r) k).val))]) C (m_emitNumber E X.2.1 sz _ H_M1_72 hwa (((pg xG r) k).val) (by omega) (by omega) (by simp only [List.length_append, List.length_singleton, List.length_nil] at *; omega)) ⟨z_cb C k_M_emitNumber ml_M_220 ii_M rfl rfl (by decide +kernel) ⟨by decide, by decide⟩, C.2.2.2.2.1 _ im_M_emitNumber, C.2.2.2.2.1 _ se_M_emitNumber⟩ H_M1_72.1 rfl rfl rfl (Nat.le_of_ble_eq_true rfl) d_M_emitPolynomial_89 ⟨by decide, by decide⟩ ?_
        intro v_M_M1_72_89 s_M_M1_72_89 M_M_M1_72_89 hp_M_M1_72_89
        obtain ⟨rfl, rfl, ho_M_M1_72_89, H_M_M1_72_89⟩ := hp_M_M1_72_89
        have hz_M_M1_72_89 : zoutR M M_M_M1_72_89 m (m + 15) := zoutR_tr hz_M1_72 ho_M_M1_72_89
        show Z _ _ _ _ _ _ _ _ 92 _ []
        refine z_iload C d_M_emitPolynomial_92 rfl ?_
        refine z_top (y := nI (((pg xG r) k).val)) rfl ?_
        refine z_iconst (v := nI 1) C d_M_emitPolynomial_94 (by decide) ?_
        refine z_icmp_le (tgt := 109) C d_M_emitPolynomial_95 (by decide) (fun c_95 => absurd c_95 (fun q => by have := (nI_leI (a := ((pg xG r) k).val) (b := 1) (by omega) (by omega)).mp q; omega)) (fun _ => ?_)
        refine z_iload C d_M_emitPolynomial_98 rfl ?_
        refine z_if_le (tgt := 109) C d_M_emitPolynomial_100 (by decide) (fun c_100 => absurd c_100 (fun q => by have := (nI_leI (a := k) (b := 0) (by omega) (by omega)).mp q; omega)) (fun _ => ?_)
        refine z_aload_n C d_M_emitPolynomial_103 rfl rfl ?_
        refine z_bipush (v := nI 42) C d_M_emitPolynomial_104 (by decide) ?_
        refine z_callV (rest := []) (n := 1) (As := [.int (nI 42)]) C (m_emit E X.2.1 sz _ H_M_M1_72_89 hwa 42 (by simp only [List.length_append, List.length_singleton, List.length_nil] at *; omega)) ⟨z_cb C k_M_emit ml_M_217 ii_M rfl rfl (by decide +kernel) ⟨by decide, by decide⟩, C.2.2.2.2.1 _ im_M_emit, C.2.2.2.2.1 _ se_M_emit⟩ H_M_M1_72_89.1 rfl rfl rfl (Nat.le_of_ble_eq_true rfl) d_M_emitPolynomial_106 ⟨by decide, by decide⟩ ?_
        intro v_M_M_M1_72_89_106 s_M_M_M1_72_89_106 M_M_M_M1_72_89_106 hp_M_M_M1_72_89_106
        obtain ⟨rfl, rfl, ho_M_M_M1_72_89_106, H_M_M_M1_72_89_106⟩ := hp_M_M_M1_72_89_106
        have hz_M_M_M1_72_89_106 : zoutR M M_M_M_M1_72_89_106 m (m + 15) := zoutR_tr hz_M_M1_72_89 ho_M_M_M1_72_89_106
        show Z _ _ _ _ _ _ _ _ 109 _ []
        refine z_iload C d_M_emitPolynomial_109 rfl ?_
        refine z_if_le (tgt := 120) C d_M_emitPolynomial_111 (by decide) (fun c_111 => absurd c_111 (fun q => by have := (nI_leI (a := k) (b := 0) (by omega) (by omega)).mp q; omega)) (fun _ => ?_)
        refine z_aload_n C d_M_emitPolynomial_114 rfl rfl ?_
        refine z_bipush (v := nI 120) C d_M_emitPolynomial_115 (by decide) ?_
        refine z_callV (rest := []) (n := 1) (As := [.int (nI 120)]) C (m_emit E X.2.1 sz _ H_M_M_M1_72_89_106 hwa 120 (by simp only [List.length_append, List.length_singleton, List.length_nil] at *; omega)) ⟨z_cb C k_M_emit ml_M_217 ii_M rfl rfl (by decide +kernel) ⟨by decide, by decide⟩, C.2.2.2.2.1 _ im_M_emit, C.2.2.2.2.1 _ se_M_emit⟩ H_M_M_M1_72_89_106.1 rfl rfl rfl (Nat.le_of_ble_eq_true rfl) d_M_emitPolynomial_117 ⟨by decide, by decide⟩ ?_
        intro v_M1_72_89_106_117 s_M1_72_89_106_117 M_M1_72_89_106_117 hp_M1_72_89_106_117
        obtain ⟨rfl, rfl, ho_M1_72_89_106_117, H_M1_72_89_106_117⟩ := hp_M1_72_89_106_117
        have hz_M1_72_89_106_117 : zoutR M M_M1_72_89_106_117 m (m + 15) := zoutR_tr hz_M_M_M1_72_89_106 ho_M1_72_89_106_117
        show Z _ _ _ _ _ _ _ _ 120 _ []
        refine z_iload C d_M_emitPolynomial_120 rfl ?_
        refine z_iconst (v := nI 1) C d_M_emitPolynomial_122 (by decide) ?_
        refine z_icmp_le (tgt := 132) C d_M_emitPolynomial_123 (by decide) (fun c_123 => absurd c_123 (fun q => by have := (nI_leI (a := k) (b := 1) (by omega) (by omega)).mp q; omega)) (fun _ => ?_)
        refine z_aload_n C d_M_emitPolynomial_126 rfl rfl ?_
        refine z_bipush (v := nI 94) C d_M_emitPolynomial_127 (by decide) ?_
        refine z_callV (rest := []) (n := 1) (As := [.int (nI 94)]) C (m_emit E X.2.1 sz _ H_M1_72_89_106_117 hwa 94 (by simp only [List.length_append, List.length_singleton, List.length_nil] at *; omega)) ⟨z_cb C k_M_emit ml_M_217 ii_M rfl rfl (by decide +kernel) ⟨by decide, by decide⟩, C.2.2.2.2.1 _ im_M_emit, C.2.2.2.2.1 _ se_M_emit⟩ H_M1_72_89_106_117.1 rfl rfl rfl (Nat.le_of_ble_eq_true rfl) d_M_emitPolynomial_129 ⟨by decide, by decide⟩ ?_
        intro v_2_89_106_117_129 s_2_89_106_117_129 M_2_89_106_117_129 hp_2_89_106_117_129
        obtain ⟨rfl, rfl, ho_2_89_106_117_129, H_2_89_106_117_129⟩ := hp_2_89_106_117_129
        have hz_2_89_106_117_129 : zoutR M M_2_89_106_117_129 m (m + 15) := zoutR_tr hz_M1_72_89_106_117 ho_2_89_106_117_129
        show Z _ _ _ _ _ _ _ _ 132 _ []
        refine z_iload C d_M_emitPolynomial_132 rfl ?_
        refine z_iconst (v := nI 1) C d_M_emitPolynomial_134 (by decide) ?_
        refine z_icmp_le (tgt := 144) C d_M_emitPolynomial_135 (by decide) (fun c_135 => absurd c_135 (fun q => by have := (nI_leI (a := k) (b := 1) (by omega) (by omega)).mp q; omega)) (fun _ => ?_)
        refine z_aload_n C d_M_emitPolynomial_138 rfl rfl ?_
        refine z_iload C d_M_emitPolynomial_139 rfl ?_
        refine z_callV (rest := []) (n := 1) (As := [.int (nI k)]) C (m_emitNumber E X.2.1 sz _ H_2_89_106_117_129 hwa k (by omega) (by omega) (by simp only [List.length_append, List.length_singleton, List.length_nil] at *; omega)) ⟨z_cb C k_M_emitNumber ml_M_220 ii_M rfl rfl (by decide +kernel) ⟨by decide, by decide⟩, C.2.2.2.2.1 _ im_M_emitNumber, C.2.2.2.2.1 _ se_M_emitNumber⟩ H_2_89_106_117_129.1 rfl rfl rfl (Nat.le_of_ble_eq_true rfl) d_M_emitPolynomial_141 ⟨by decide, by decide⟩ ?_
        intro v__106_117_129_141 s__106_117_129_141 M__106_117_129_141 hp__106_117_129_141
        obtain ⟨rfl, rfl, ho__106_117_129_141, H__106_117_129_141⟩ := hp__106_117_129_141
        have hz__106_117_129_141 : zoutR M M__106_117_129_141 m (m + 15) := zoutR_tr hz_2_89_106_117_129 ho__106_117_129_141
        show Z _ _ _ _ _ _ _ _ 144 _ []
        refine z_iinc (v := tI k) (L' := [(0, .ref m), (1, .int (nI r)), (2, .int (nI 1)), (3, .int (tI K)), (4, .int (tI k)), (5, .int (fI ((pg xG r) k)))]) C d_M_emitPolynomial_144 rfl (nI_dec k) (by decide) rfl ?_
        refine z_goto (tgt := 20) C d_M_emitPolynomial_147 (by decide) ?_
        refine z_sub [0, 1, 2, 3, 4] rfl ?_
        refine ih _ (l1 ++ [43] ++ sn (((pg xG r) k).val) ++ [42] ++ [120] ++ [94] ++ sn k) (by omega) (by simp only [List.length_append, List.length_singleton, List.length_nil] at *; omega) hz__106_117_129_141 H__106_117_129_141 ?_
        rw [e1, show spl (pg xG r) K (k + 1) = (if (pg xG r) k = 0 then [] else (if k + 1 < K then [43] else []) ++ sp ((pg xG r) k).val k) ++ spl (pg xG r) K k from rfl, if_neg hz0, if_pos hh0]
        unfold sp
        rw [if_neg (show ¬ k = 0 by omega), if_neg (show ¬ ((pg xG r) k).val = 1 by omega), if_pos hk0]
        try simp only [List.append_assoc, List.nil_append, List.append_nil, List.singleton_append, List.cons_append]
      have g210 : 1 < k → 1 < ((pg xG r) k).val → ¬ k + 1 < K → Z X E 6 (zQ X E 0 0 (fun v s M' => none = v ∧ sz = s ∧ zoutR M M' m (m + 15) ∧ mw E M' m xln xlen xlab xbad xlev xtr xwa ((ls ++ txtP (pg xG r) K).length) ((ls ++ txtP (pg xG r) K).getD xwa 0) xsf xbf xF xG xP xQ xmm xsl xkd xhs xht xsg xdv)) 0 0 sz M1 20 [(0, .ref m), (1, .int (nI r)), (2, .int (nI 1)), (3, .int (tI K)), (4, .int (nI k))] [] := by
        intro hk0 hv0 hh0
        refine z_iload C d_M_emitPolynomial_20 rfl ?_
        refine z_if_lt (tgt := 150) C d_M_emitPolynomial_22 (by decide) (fun c_22 => absurd c_22 (fun q => absurd ((nI_ltI (a := k) (b := 0) (by omega) (by omega)).mp q) (by omega))) (fun _ => ?_)
        refine z_iload_n C d_M_emitPolynomial_25 rfl rfl ?_
        refine z_if_eq (tgt := 44) C d_M_emitPolynomial_26 (by decide) (fun c_26 => absurd c_26 (by decide)) (fun _ => ?_)
        refine z_aload_n C d_M_emitPolynomial_29 rfl rfl ?_
        refine z_get C in_M H1.1 rfl 12 (by decide) fl_M_26 rfl rfl d_M_emitPolynomial_30 ?_
        refine z_iload_n C d_M_emitPolynomial_33 rfl rfl ?_
        refine z_bipush (v := nI 13) C d_M_emitPolynomial_34 (by decide) ?_
        refine z_imul C d_M_emitPolynomial_36 ?_
        refine z_top (y := nI (r * 13)) (pk_mul _ _) ?_
        refine z_iload C d_M_emitPolynomial_37 rfl ?_
        refine z_iadd C d_M_emitPolynomial_39 ?_
        refine z_top (y := nI ((r * 13) + k)) (nI_add _ _) ?_
        refine z_iald C H1.2.2.2.2.2.1 0 rfl ((r * 13) + k) (rfl) (by omega) (by omega) d_M_emitPolynomial_40 ?_
        refine z_top (y := fI ((pg xG r) k)) (congrArg fI (pg_at (by omega)).symm) ?_
        refine z_goto (tgt := 56) C d_M_emitPolynomial_41 (by decide) ?_
        refine z_istore (L' := [(0, .ref m), (1, .int (nI r)), (2, .int (nI 1)), (3, .int (tI K)), (4, .int (nI k)), (5, .int (fI ((pg xG r) k)))]) C d_M_emitPolynomial_56 (by decide) rfl ?_
        refine z_iload C d_M_emitPolynomial_58 rfl ?_
        refine z_if_eq (tgt := 144) C d_M_emitPolynomial_60 (by decide) (fun c_60 => absurd c_60 (fun q => hz0 (fI_eq0.mp q))) (fun _ => ?_)
        refine z_iload C d_M_emitPolynomial_63 rfl ?_
        refine z_iload_n C d_M_emitPolynomial_65 rfl rfl ?_
        refine z_icmp_ge (tgt := 75) C d_M_emitPolynomial_66 (by decide) (fun _ => ?_) (fun c_66 => absurd (by rw [← tI_s k]; exact (tI_lel (by omega) (by omega)).mpr (by omega)) c_66)
        refine z_iload C d_M_emitPolynomial_75 rfl ?_
        refine z_top (y := nI (((pg xG r) k).val)) rfl ?_
        refine z_iconst (v := nI 1) C d_M_emitPolynomial_77 (by decide) ?_
        refine z_icmp_gt (tgt := 86) C d_M_emitPolynomial_78 (by decide) (fun _ => ?_) (fun c_78 => absurd ((nI_ltI (a := 1) (b := ((pg xG r) k).val) (by omega) (by omega)).mpr (by omega)) c_78)
        refine z_aload_n C d_M_emitPolynomial_86 rfl rfl ?_
        refine z_iload C d_M_emitPolynomial_87 rfl ?_
        refine z_top (y := nI (((pg xG r) k).val)) rfl ?_
        refine z_callV (rest := []) (n := 1) (As := [.int (nI (((pg xG r) k).val))]) C (m_emitNumber E X.2.1 sz _ H1 hwa (((pg xG r) k).val) (by omega) (by omega) (by simp only [List.length_append, List.length_singleton, List.length_nil] at *; omega)) ⟨z_cb C k_M_emitNumber ml_M_220 ii_M rfl rfl (by decide +kernel) ⟨by decide, by decide⟩, C.2.2.2.2.1 _ im_M_emitNumber, C.2.2.2.2.1 _ se_M_emitNumber⟩ H1.1 rfl rfl rfl (Nat.le_of_ble_eq_true rfl) d_M_emitPolynomial_89 ⟨by decide, by decide⟩ ?_
        intro v_M1_89 s_M1_89 M_M1_89 hp_M1_89
        obtain ⟨rfl, rfl, ho_M1_89, H_M1_89⟩ := hp_M1_89
        have hz_M1_89 : zoutR M M_M1_89 m (m + 15) := zoutR_tr hz1 ho_M1_89
        show Z _ _ _ _ _ _ _ _ 92 _ []
        refine z_iload C d_M_emitPolynomial_92 rfl ?_
        refine z_top (y := nI (((pg xG r) k).val)) rfl ?_
        refine z_iconst (v := nI 1) C d_M_emitPolynomial_94 (by decide) ?_
        refine z_icmp_le (tgt := 109) C d_M_emitPolynomial_95 (by decide) (fun c_95 => absurd c_95 (fun q => by have := (nI_leI (a := ((pg xG r) k).val) (b := 1) (by omega) (by omega)).mp q; omega)) (fun _ => ?_)
        refine z_iload C d_M_emitPolynomial_98 rfl ?_
        refine z_if_le (tgt := 109) C d_M_emitPolynomial_100 (by decide) (fun c_100 => absurd c_100 (fun q => by have := (nI_leI (a := k) (b := 0) (by omega) (by omega)).mp q; omega)) (fun _ => ?_)
        refine z_aload_n C d_M_emitPolynomial_103 rfl rfl ?_
        refine z_bipush (v := nI 42) C d_M_emitPolynomial_104 (by decide) ?_
        refine z_callV (rest := []) (n := 1) (As := [.int (nI 42)]) C (m_emit E X.2.1 sz _ H_M1_89 hwa 42 (by simp only [List.length_append, List.length_singleton, List.length_nil] at *; omega)) ⟨z_cb C k_M_emit ml_M_217 ii_M rfl rfl (by decide +kernel) ⟨by decide, by decide⟩, C.2.2.2.2.1 _ im_M_emit, C.2.2.2.2.1 _ se_M_emit⟩ H_M1_89.1 rfl rfl rfl (Nat.le_of_ble_eq_true rfl) d_M_emitPolynomial_106 ⟨by decide, by decide⟩ ?_
        intro v_M_M1_89_106 s_M_M1_89_106 M_M_M1_89_106 hp_M_M1_89_106
        obtain ⟨rfl, rfl, ho_M_M1_89_106, H_M_M1_89_106⟩ := hp_M_M1_89_106
        have hz_M_M1_89_106 : zoutR M M_M_M1_89_106 m (m + 15) := zoutR_tr hz_M1_89 ho_M_M1_89_106
        show Z _ _ _ _ _ _ _ _ 109 _ []
        refine z_iload C d_M_emitPolynomial_109 rfl ?_
        refine z_if_le (tgt := 120) C d_M_emitPolynomial_111 (by decide) (fun c_111 => absurd c_111 (fun q => by have := (nI_leI (a := k) (b := 0) (by omega) (by omega)).mp q; omega)) (fun _ => ?_)
        refine z_aload_n C d_M_emitPolynomial_114 rfl rfl ?_
        refine z_bipush (v := nI 120) C d_M_emitPolynomial_115 (by decide) ?_
        refine z_callV (rest := []) (n := 1) (As := [.int (nI 120)]) C (m_emit E X.2.1 sz _ H_M_M1_89_106 hwa 120 (by simp only [List.length_append, List.length_singleton, List.length_nil] at *; omega)) ⟨z_cb C k_M_emit ml_M_217 ii_M rfl rfl (by decide +kernel) ⟨by decide, by decide⟩, C.2.2.2.2.1 _ im_M_emit, C.2.2.2.2.1 _ se_M_emit⟩ H_M_M1_89_106.1 rfl rfl rfl (Nat.le_of_ble_eq_true rfl) d_M_emitPolynomial_117 ⟨by decide, by decide⟩ ?_
        intro v__M_M1_89_106_117 s__M_M1_89_106_117 M__M_M1_89_106_117 hp__M_M1_89_106_117
        obtain ⟨rfl, rfl, ho__M_M1_89_106_117, H__M_M1_89_106_117⟩ := hp__M_M1_89_106_117
        have hz__M_M1_89_106_117 : zoutR M M__M_M1_89_106_117 m (m + 15) := zoutR_tr hz_M_M1_89_106 ho__M_M1_89_106_117
        show Z _ _ _ _ _ _ _ _ 120 _ []
        refine z_iload C d_M_emitPolynomial_120 rfl ?_
        refine z_iconst (v := nI 1) C d_M_emitPolynomial_122 (by decide) ?_
        refine z_icmp_le (tgt := 132) C d_M_emitPolynomial_123 (by decide) (fun c_123 => absurd c_123 (fun q => by have := (nI_leI (a := k) (b := 1) (by omega) (by omega)).mp q; omega)) (fun _ => ?_)
        refine z_aload_n C d_M_emitPolynomial_126 rfl rfl ?_
        refine z_bipush (v := nI 94) C d_M_emitPolynomial_127 (by decide) ?_
        refine z_callV (rest := []) (n := 1) (As := [.int (nI 94)]) C (m_emit E X.2.1 sz _ H__M_M1_89_106_117 hwa 94 (by simp only [List.length_append, List.length_singleton, List.length_nil] at *; omega)) ⟨z_cb C k_M_emit ml_M_217 ii_M rfl rfl (by decide +kernel) ⟨by decide, by decide⟩, C.2.2.2.2.1 _ im_M_emit, C.2.2.2.2.1 _ se_M_emit⟩ H__M_M1_89_106_117.1 rfl rfl rfl (Nat.le_of_ble_eq_true rfl) d_M_emitPolynomial_129 ⟨by decide, by decide⟩ ?_
        intro v_1_89_106_117_129 s_1_89_106_117_129 M_1_89_106_117_129 hp_1_89_106_117_129
        obtain ⟨rfl, rfl, ho_1_89_106_117_129, H_1_89_106_117_129⟩ := hp_1_89_106_117_129
        have hz_1_89_106_117_129 : zoutR M M_1_89_106_117_129 m (m + 15) := zoutR_tr hz__M_M1_89_106_117 ho_1_89_106_117_129
        show Z _ _ _ _ _ _ _ _ 132 _ []
        refine z_iload C d_M_emitPolynomial_132 rfl ?_
        refine z_iconst (v := nI 1) C d_M_emitPolynomial_134 (by decide) ?_
        refine z_icmp_le (tgt := 144) C d_M_emitPolynomial_135 (by decide) (fun c_135 => absurd c_135 (fun q => by have := (nI_leI (a := k) (b := 1) (by omega) (by omega)).mp q; omega)) (fun _ => ?_)
        refine z_aload_n C d_M_emitPolynomial_138 rfl rfl ?_
        refine z_iload C d_M_emitPolynomial_139 rfl ?_
        refine z_callV (rest := []) (n := 1) (As := [.int (nI k)]) C (m_emitNumber E X.2.1 sz _ H_1_89_106_117_129 hwa k (by omega) (by omega) (by simp only [List.length_append, List.length_singleton, List.length_nil] at *; omega)) ⟨z_cb C k_M_emitNumber ml_M_220 ii_M rfl rfl (by decide +kernel) ⟨by decide, by decide⟩, C.2.2.2.2.1 _ im_M_emitNumber, C.2.2.2.2.1 _ se_M_emitNumber⟩ H_1_89_106_117_129.1 rfl rfl rfl (Nat.le_of_ble_eq_true rfl) d_M_emitPolynomial_141 ⟨by decide, by decide⟩ ?_
        intro v__106_117_129_141 s__106_117_129_141 M__106_117_129_141 hp__106_117_129_141
        obtain ⟨rfl, rfl, ho__106_117_129_141, H__106_117_129_141⟩ := hp__106_117_129_141
        have hz__106_117_129_141 : zoutR M M__106_117_129_141 m (m + 15) := zoutR_tr hz_1_89_106_117_129 ho__106_117_129_141
        show Z _ _ _ _ _ _ _ _ 144 _ []
        refine z_iinc (v := tI k) (L' := [(0, .ref m), (1, .int (nI r)), (2, .int (nI 1)), (3, .int (tI K)), (4, .int (tI k)), (5, .int (fI ((pg xG r) k)))]) C d_M_emitPolynomial_144 rfl (nI_dec k) (by decide) rfl ?_
        refine z_goto (tgt := 20) C d_M_emitPolynomial_147 (by decide) ?_
        refine z_sub [0, 1, 2, 3, 4] rfl ?_
        refine ih _ (l1 ++ sn (((pg xG r) k).val) ++ [42] ++ [120] ++ [94] ++ sn k) (by omega) (by simp only [List.length_append, List.length_singleton, List.length_nil] at *; omega) hz__106_117_129_141 H__106_117_129_141 ?_
        rw [e1, show spl (pg xG r) K (k + 1) = (if (pg xG r) k = 0 then [] else (if k + 1 < K then [43] else []) ++ sp ((pg xG r) k).val k) ++ spl (pg xG r) K k from rfl, if_neg hz0, if_neg hh0]
        unfold sp
        rw [if_neg (show ¬ k = 0 by omega), if_neg (show ¬ ((pg xG r) k).val = 1 by omega), if_pos hk0]
        try simp only [List.append_assoc, List.nil_append, List.append_nil, List.singleton_append, List.cons_append]
      rcases (by omega : k = 0 ∨ k = 1 ∨ 1 < k) with a | a | a <;> rcases (by omega : ((pg xG r) k).val = 1 ∨ 1 < ((pg xG r) k).val) with b | b <;> by_cases c : k + 1 < K
      · exact g001 a b c
      · exact g000 a b c
      · exact g011 a b c
      · exact g010 a b c
      · exact g101 a b c
      · exact g100 a b c
      · exact g111 a b c
      · exact g110 a b c
      · exact g201 a b c
      · exact g200 a b c
      · exact g211 a b c
      · exact g210 a b c
  show Z X E 6 _ 0 0 sz M 0 [(0, .ref m), (1, .int (nI r)), (2, .int (nI 1))] []
  refine z_aload_n C d_M_emitPolynomial_0 rfl rfl ?_
  refine z_iload_n C d_M_emitPolynomial_1 rfl rfl ?_
  refine z_iload_n C d_M_emitPolynomial_2 rfl rfl ?_
  refine z_callV (rest := []) (n := 2) (As := [.int (nI r), .int (nI 1)]) C (m_top E X.2.1 sz _ H r 1 (by omega) (by decide)) ⟨z_cb C k_M_top ml_M_133 ii_M rfl rfl (by decide +kernel) ⟨by decide, by decide⟩, C.2.2.2.2.1 _ im_M_top, C.2.2.2.2.1 _ se_M_top⟩ H.1 rfl rfl rfl (Nat.le_of_ble_eq_true rfl) d_M_emitPolynomial_3 ⟨by decide, by decide⟩ ?_
  intro v_3 s_3 M_3 hp_3
  obtain ⟨k1, rfl, rfl, rfl, hk1⟩ := hp_3
  have hk1 : isC (pg xG r) k1 := hk1
  have ek : K = k1 := isC_un hK hk1
  subst ek
  show Z _ _ _ _ _ _ _ _ 6 _ [.int (tI K)]
  refine z_istore_n (L' := [(0, .ref m), (1, .int (nI r)), (2, .int (nI 1)), (3, .int (tI K))]) C d_M_emitPolynomial_6 rfl (by decide) rfl ?_
  refine z_iload_n C d_M_emitPolynomial_7 rfl rfl ?_
  refine z_if_ge (tgt := 17) C d_M_emitPolynomial_8 (by decide) (fun c_8 => ?_) (fun c_8 => ?_)
  · have c_8 : 0 < K := (tI_ge0 (n := K) (by omega)).mp c_8
    refine z_iload_n C d_M_emitPolynomial_17 rfl rfl ?_
    refine z_istore (L' := [(0, .ref m), (1, .int (nI r)), (2, .int (nI 1)), (3, .int (tI K)), (4, .int (tI K))]) C d_M_emitPolynomial_18 (by decide) rfl ?_
    exact loop K _ (ls) (Nat.le_refl _) (by first | omega | (simp only [List.length_append, List.length_singleton, List.length_nil]; omega)) zoutR_rf H (by unfold txtP; rw [if_neg (by omega), List.nil_append])
  · have c_8 : K = 0 := Nat.eq_zero_of_not_pos (fun q => c_8 ((tI_ge0 (n := K) (by omega)).mpr q))
    refine z_aload_n C d_M_emitPolynomial_11 rfl rfl ?_
    refine z_bipush (v := nI 48) C d_M_emitPolynomial_12 (by decide) ?_
    refine z_callV (rest := []) (n := 1) (As := [.int (nI 48)]) C (m_emit E X.2.1 sz _ H hwa 48 (by simp only [List.length_append, List.length_singleton, List.length_nil] at *; omega)) ⟨z_cb C k_M_emit ml_M_217 ii_M rfl rfl (by decide +kernel) ⟨by decide, by decide⟩, C.2.2.2.2.1 _ im_M_emit, C.2.2.2.2.1 _ se_M_emit⟩ H.1 rfl rfl rfl (Nat.le_of_ble_eq_true rfl) d_M_emitPolynomial_14 ⟨by decide, by decide⟩ ?_
    intro v_M_14 s_M_14 M_M_14 hp_M_14
    obtain ⟨rfl, rfl, ho_M_14, H_M_14⟩ := hp_M_14
    have hz_M_14 : zoutR M M_M_14 m (m + 15) := zoutR_tr zoutR_rf ho_M_14
    show Z _ _ _ _ _ _ _ _ 17 _ []
    refine z_iload_n C d_M_emitPolynomial_17 rfl rfl ?_
    refine z_istore (L' := [(0, .ref m), (1, .int (nI r)), (2, .int (nI 1)), (3, .int (tI K)), (4, .int (tI K))]) C d_M_emitPolynomial_18 (by decide) rfl ?_
    exact loop K _ (ls ++ [48]) (Nat.le_refl _) (by first | omega | (simp only [List.length_append, List.length_singleton, List.length_nil]; omega)) hz_M_14 H_M_14 (by unfold txtP; rw [if_pos c_8, List.append_assoc])
