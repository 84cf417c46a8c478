set_option maxHeartbeats 4000000 in
/-- Worker.operate, 11 -/
theorem k_div (E : zE) (l : Launch) (sz : Nat) (M : zM) {k : Nat} {ys : List (PS × PS)} {l1 r1 : PS × PS} (H : zwk E M k (ys ++ [l1, r1])) (il : isform l1.1 l1.2) (ir : isform r1.1 r1.2) (y : Int32) : zMet E l y_K_operate c_K_operate 7 (some .int) { frames := 4, cells := 0, slots := 0, locals := 95 } 0 0 [.ref k, .int (nI 11), .int (y)] sz M (fun v s M' => sz = s ∧ zoutR M M' k (k + 97) ∧ (((∀ i, r1.1 i = 0) ∧ some (.int (-5)) = v ∧ ∃ xs', zwk E M' k xs') ∨ ((∃ i, r1.1 i ≠ 0) ∧ setlR E M' k v ys (ps_mul l1.1 r1.2) (ps_mul l1.2 r1.1)))) := by
  obtain ⟨ff, h0, h1, hl0, hff, ⟨sa, sb, sA, sB, hs⟩, hfm, hal⟩ := id H
  have e9 : (ys ++ [l1, r1]).length = ys.length + 2 := by simp
  rw [e9] at h0 hl0
  obtain ⟨c1, c2, hzl⟩ := hfm ys.length l1 (by simp)
  obtain ⟨c3, c4, hzr⟩ := hfm (ys.length + 1) r1 (by rw [List.getElem?_append_right (by omega)]; simp)
  refine zMet.ofZ (by decide) (Nat.le_of_ble_eq_true rfl) ?_
  intro X hl hini C
  show Z X E 7 _ 0 0 sz M 0 [(0, .ref k), (1, .int (nI 11)), (2, .int y)] []
  refine z_iload_n C d_K_operate_0 rfl rfl ?_
  refine z_callS (rest := []) (n := 1) (As := [.int (nI 11)]) C (g_two E X.2.1 sz _ 11 (by decide)) ⟨z_cb C k_G_hasTwoSides ml_K_74 ii_G rfl rfl (by decide +kernel) ⟨by decide, by decide⟩, C.2.2.2.2.1 _ sm_G_hasTwoSides⟩ rfl rfl (Nat.le_of_ble_eq_true rfl) d_K_operate_1 ⟨by decide, by decide⟩ ?_
  intro v_1 s_1 M_1 hp_1
  obtain ⟨rfl, rfl, rfl⟩ := hp_1
  show Z _ _ _ _ _ _ _ _ 4 _ [.int (if 8 ≤ 11 then 1 else 0)]
  refine z_if_eq (tgt := 11) C d_K_operate_4 (by decide) (fun c_4 => absurd c_4 (by decide)) (fun _ => ?_)
  refine z_iconst (v := nI 2) C d_K_operate_7 (by decide) ?_
  refine z_goto (tgt := 12) C d_K_operate_8 (by decide) ?_
  refine z_istore_n (L' := [(0, .ref k), (1, .int (nI 11)), (2, .int y), (3, .int (nI 2))]) C d_K_operate_12 rfl (by decide) rfl ?_
  refine z_aload_n C d_K_operate_13 rfl rfl ?_
  refine z_get C in_K h0 rfl 2 (by decide) fl_K_24 rfl rfl d_K_operate_14 ?_
  refine z_iload_n C d_K_operate_17 rfl rfl ?_
  refine z_icmp_ge (tgt := 24) C d_K_operate_18 (by decide) (fun _ => ?_) (fun c_18 => absurd ((nI_leI (by decide) (by omega)).mpr (by omega)) c_18)
  refine z_aload_n C d_K_operate_24 rfl rfl ?_
  refine z_get C in_K h0 rfl 1 (by decide) fl_K_20 rfl rfl d_K_operate_25 ?_
  refine z_aload_n C d_K_operate_28 rfl rfl ?_
  refine z_get C in_K h0 rfl 2 (by decide) fl_K_24 rfl rfl d_K_operate_29 ?_
  refine z_iconst (v := nI 1) C d_K_operate_32 (by decide) ?_
  refine z_isub C d_K_operate_33 ?_
  refine z_top (y := nI (ys.length + 1)) (pk_sub (a := ys.length + 2) (b := 1) (by omega)) ?_
  refine z_aald C h1 3 rfl (ys.length + 1) (rfl) (by omega) (by decide) (congrArg va_rf (hff _ (by omega))) d_K_operate_34 ?_
  refine z_astore (L' := [(0, .ref k), (1, .int (nI 11)), (2, .int y), (3, .int (nI 2)), (4, .ref (k + 17 + 5 * (ys.length + 1)))]) C d_K_operate_35 (by decide) rfl ?_
  refine z_aload_n C d_K_operate_37 rfl rfl ?_
  refine z_get C in_K h0 rfl 1 (by decide) fl_K_20 rfl rfl d_K_operate_38 ?_
  refine z_aload_n C d_K_operate_41 rfl rfl ?_
  refine z_get C in_K h0 rfl 2 (by decide) fl_K_24 rfl rfl d_K_operate_42 ?_
  refine z_iload_n C d_K_operate_45 rfl rfl ?_
  refine z_isub C d_K_operate_46 ?_
  refine z_top (y := nI ys.length) (pk_sub (a := ys.length + 2) (b := 2) (by omega)) ?_
  refine z_aald C h1 3 rfl ys.length (rfl) (by omega) (by decide) (congrArg va_rf (hff _ (by omega))) d_K_operate_47 ?_
  refine z_astore (L' := [(0, .ref k), (1, .int (nI 11)), (2, .int y), (3, .int (nI 2)), (4, .ref (k + 17 + 5 * (ys.length + 1))), (5, .ref (k + 17 + 5 * ys.length))]) C d_K_operate_48 (by decide) rfl ?_
  refine z_aload_n C d_K_operate_50 rfl rfl ?_
  refine z_aload_n C d_K_operate_51 rfl rfl ?_
  refine z_get C in_K h0 rfl 2 (by decide) fl_K_24 rfl rfl d_K_operate_52 ?_
  refine z_iload_n C d_K_operate_55 rfl rfl ?_
  refine z_isub C d_K_operate_56 ?_
  refine z_top (y := nI ys.length) (pk_sub (a := ys.length + 2) (b := 2) (by omega)) ?_
  refine z_iconst (v := 1) C d_K_operate_57 (by decide) ?_
  refine z_iadd C d_K_operate_58 ?_
  refine z_top (y := nI (ys.length + 1)) (nI_1 _) ?_
  refine z_put C in_K ty_K tok_K nm_K h0 rfl 2 (by decide) fl_K_24 rfl rfl rfl (rfl) (rfl) (Nat.le_of_ble_eq_true rfl) d_K_operate_59 ?_
  show Z _ _ _ _ _ _ _ (zU M k (.inr (8, [.ref (k + 1), .ref (k + 16), .int (nI (ys.length + 1))]))) _ _ _
  have ho0 : zoutR M (zU M k (.inr (8, [.ref (k + 1), .ref (k + 16), .int (nI (ys.length + 1))]))) k (k + 1) := fun x hq => zU_ne (by omega)
  have hk0 : (zU M k (.inr (8, [.ref (k + 1), .ref (k + 16), .int (nI (ys.length + 1))]))) k = _ := zU_eq
  have hz0 := zf_oR ho0 hzl (by omega)
  have hs0 := zsh_oR ho0 hs (by omega)
  have hr0 := zf_oR ho0 hzr (by omega)
  refine z_iconst (v := nI 0) C d_K_operate_62 (by decide) ?_
  refine z_istore (L' := [(0, .ref k), (1, .int (nI 11)), (2, .int y), (3, .int (nI 2)), (4, .ref (k + 17 + 5 * (ys.length + 1))), (5, .ref (k + 17 + 5 * ys.length)), (6, .int (nI 0))]) C d_K_operate_63 (by decide) rfl ?_
  refine z_iload_n C d_K_operate_65 rfl rfl ?_
  refine z_tableIn (off := 92) (tgt := 158) C d_K_operate_66 (by decide) (by decide) (by decide) (by decide) ?_
  refine z_aload_n C d_K_operate_158 rfl rfl ?_
  refine z_get C in_K zU_eq rfl 0 (by decide) fl_K_12 rfl rfl d_K_operate_159 ?_
  refine z_aload C d_K_operate_162 rfl ?_
  refine z_aload C d_K_operate_164 rfl ?_
  refine z_callV (rest := []) (n := 2) (As := [.ref (k + 17 + 5 * ys.length), .ref (k + 17 + 5 * (ys.length + 1))]) C (w_divide E X.2.1 sz _ hs0 hz0 (by omega) hr0 (by omega)) ⟨z_cb C k_W_divide ml_K_85 ii_W rfl rfl (by decide +kernel) ⟨by decide, by decide⟩, C.2.2.2.2.1 _ im_W_divide, C.2.2.2.2.1 _ se_W_divide⟩ hs0.1 rfl rfl rfl (Nat.le_of_ble_eq_true rfl) d_K_operate_166 ⟨by decide, by decide⟩ ?_
  intro v_w s_w M1 hp_w
  rcases hp_w with ⟨hq, rfl, rfl, rfl⟩ | ⟨hq, rfl, rfl, ⟨wx, wy, hs1⟩, ho1⟩
  · show Z _ _ _ _ _ _ _ _ 169 _ [.int (-5)]
    refine z_istore (L' := [(0, .ref k), (1, .int (nI 11)), (2, .int y), (3, .int (nI 2)), (4, .ref (k + 17 + 5 * (ys.length + 1))), (5, .ref (k + 17 + 5 * ys.length)), (6, .int (-5))]) C d_K_operate_169 (by decide) rfl ?_
    refine z_goto (tgt := 226) C d_K_operate_171 (by decide) ?_
    refine z_iload C d_K_operate_226 rfl ?_
    refine z_if_ne (tgt := 243) C d_K_operate_228 (by decide) (fun _ => ?_) (fun c_228 => absurd c_228 (by decide))
    refine z_iload C d_K_operate_243 rfl ?_
    exact z_iret C ⟨rfl, fun x hq => ho0 x (by omega), Or.inl ⟨zp_zero hr0.2.1 hq, rfl, ⟨_, zwk_mk H (fun i hi => List.getElem?_append_left hi) (by omega) hz0 ⟨_, _, _, _, hs0⟩ hk0 (fun x q1 q2 q3 => ho0 x (by omega))⟩⟩⟩ d_K_operate_245
  · show Z _ _ _ _ _ _ _ _ 169 _ [.int 0]
    have hz1 := zf_oR ho1 hz0 (by omega)
    have hk1 := (ho1 k (by omega)).trans hk0
    refine z_istore (L' := [(0, .ref k), (1, .int (nI 11)), (2, .int y), (3, .int (nI 2)), (4, .ref (k + 17 + 5 * (ys.length + 1))), (5, .ref (k + 17 + 5 * ys.length)), (6, .int (nI 0))]) C d_K_operate_169 (by decide) rfl ?_
    refine z_goto (tgt := 226) C d_K_operate_171 (by decide) ?_
    refine z_iload C d_K_operate_226 rfl ?_
    refine z_if_ne (tgt := 243) C d_K_operate_228 (by decide) (fun c_228 => absurd c_228 (fun q => q (by decide))) (fun _ => ?_)
    refine z_aload_n C d_K_operate_231 rfl rfl ?_
    refine z_get C in_K hk1 rfl 0 (by decide) fl_K_12 rfl rfl d_K_operate_232 ?_
    refine z_aload C d_K_operate_235 rfl ?_
    obtain ⟨i9, hi9⟩ := mul_ne il.2.1 ir.1 (isf_ne il) (zp_nz hr0.2.1 hq)
    have hkd := zp_pos hs1.2.2.1 hi9
    refine z_callV (rest := []) (n := 1) (As := [.ref (k + 17 + 5 * ys.length)]) C (w_settle E X.2.1 sz _ hs1 hkd hz1 (by omega)) ⟨z_cb C k_W_settle ml_K_102 ii_W rfl rfl (by decide +kernel) ⟨by decide, by decide⟩, C.2.2.2.2.1 _ im_W_settle, C.2.2.2.2.1 _ se_W_settle⟩ hs1.1 rfl rfl rfl (Nat.le_of_ble_eq_true rfl) d_K_operate_237 ⟨by decide, by decide⟩ ?_
    intro v_t s_t M2 hp_t
    obtain ⟨rfl, ⟨tx, ty, tA, tB, hs2⟩, hfr2, fn, fd, hfo, hcase⟩ := hp_t
    have hk2 := (hfr2 k (by omega) (by omega)).trans hk1
    have hframe : zoutR M M2 k (k + 97) := fun x hq => (hfr2 x (by omega) (by omega)).trans ((ho1 x (by omega)).trans (ho0 x (by omega)))
    have hfx : ∀ x, x ≠ k → (x < k + 1 ∨ k + 16 ≤ x) → (x < k + 17 + 5 * ys.length + 1 ∨ k + 17 + 5 * ys.length + 5 ≤ x) → M2 x = M x := fun x q1 q2 q3 => (hfr2 x (by omega) (by omega)).trans ((ho1 x (by omega)).trans (ho0 x (by omega)))
    have hyy : ∀ i : Nat, i < ys.length → (ys ++ [l1, r1])[i]? = ys[i]? := fun i hi => List.getElem?_append_left hi
    rcases hcase with ⟨rfl, hbig, ho9⟩ | ⟨rfl, ka, kb, hz2⟩
    · have hz2 := zf_oR ho9 hz1 (by omega)
      show Z _ _ _ _ _ _ _ _ 240 _ [.int (-6)]
      refine z_goto (tgt := 245) C d_K_operate_240 (by decide) ?_
      exact z_iret C ⟨rfl, hframe, Or.inr ⟨zp_nz hr0.2.1 hq, ⟨(fn, fd), hfo, Or.inl ⟨hbig, rfl, _, zwk_mk H hyy (by omega) hz2 ⟨_, _, _, _, hs2⟩ hk2 hfx⟩⟩⟩⟩ d_K_operate_245
    · show Z _ _ _ _ _ _ _ _ 240 _ [.int 0]
      refine z_goto (tgt := 245) C d_K_operate_240 (by decide) ?_
      exact z_iret C ⟨rfl, hframe, Or.inr ⟨zp_nz hr0.2.1 hq, ⟨(fn, fd), hfo, Or.inr ⟨zf_small hz2, rfl, zwk_mk H hyy (by omega) hz2 ⟨_, _, _, _, hs2⟩ hk2 hfx⟩⟩⟩⟩ d_K_operate_245
set_option maxHeartbeats 4000000 in
/-- Worker.operate, 12 -/
theorem k_comp (E : zE) (l : Launch) (sz : Nat) (M : zM) {k : Nat} {ys : List (PS × PS)} {l1 r1 : PS × PS} (H : zwk E M k (ys ++ [l1, r1])) (il : isform l1.1 l1.2) (ir : isform r1.1 r1.2) (y : Int32) : zMet E l y_K_operate c_K_operate 7 (some .int) { frames := 4, cells := 0, slots := 0, locals := 95 } 0 0 [.ref k, .int (nI 12), .int (y)] sz M (fun v s M' => sz = s ∧ zoutR M M' k (k + 97) ∧ (∃ a b, hts l1 a ∧ hts r1 b ∧ ((12 < a * b ∧ some (.int (-6)) = v ∧ ∃ xs', zwk E M' k xs') ∨ (a * b ≤ 12 ∧ (∀ i, hom a l1.2 r1.1 r1.2 i = 0) ∧ some (.int (-5)) = v ∧ ∃ xs', zwk E M' k xs') ∨ (a * b ≤ 12 ∧ (∃ i, hom a l1.2 r1.1 r1.2 i ≠ 0) ∧ setlR E M' k v ys (hom a l1.1 r1.1 r1.2) (hom a l1.2 r1.1 r1.2))))) := by
  obtain ⟨ff, h0, h1, hl0, hff, ⟨sa, sb, sA, sB, hs⟩, hfm, hal⟩ := id H
  have e9 : (ys ++ [l1, r1]).length = ys.length + 2 := by simp
  rw [e9] at h0 hl0
  obtain ⟨c1, c2, hzl⟩ := hfm ys.length l1 (by simp)
  obtain ⟨c3, c4, hzr⟩ := hfm (ys.length + 1) r1 (by rw [List.getElem?_append_right (by omega)]; simp)
  obtain ⟨u9, hu9⟩ := isf_ne il
  have kd1 := zp_pos hzl.2.2 hu9
  have ht1 := zf_hts hzl kd1
  obtain ⟨v9, hv9⟩ := isf_ne ir
  have kd2 := zp_pos hzr.2.2 hv9
  have ht2 := zf_hts hzr kd2
  refine zMet.ofZ (by decide) (Nat.le_of_ble_eq_true rfl) ?_
  intro X hl hini C
  show Z X E 7 _ 0 0 sz M 0 [(0, .ref k), (1, .int (nI 12)), (2, .int y)] []
  refine z_iload_n C d_K_operate_0 rfl rfl ?_
  refine z_callS (rest := []) (n := 1) (As := [.int (nI 12)]) C (g_two E X.2.1 sz _ 12 (by decide)) ⟨z_cb C k_G_hasTwoSides ml_K_74 ii_G rfl rfl (by decide +kernel) ⟨by decide, by decide⟩, C.2.2.2.2.1 _ sm_G_hasTwoSides⟩ rfl rfl (Nat.le_of_ble_eq_true rfl) d_K_operate_1 ⟨by decide, by decide⟩ ?_
  intro v_1 s_1 M_1 hp_1
  obtain ⟨rfl, rfl, rfl⟩ := hp_1
  show Z _ _ _ _ _ _ _ _ 4 _ [.int (if 8 ≤ 12 then 1 else 0)]
  refine z_if_eq (tgt := 11) C d_K_operate_4 (by decide) (fun c_4 => absurd c_4 (by decide)) (fun _ => ?_)
  refine z_iconst (v := nI 2) C d_K_operate_7 (by decide) ?_
  refine z_goto (tgt := 12) C d_K_operate_8 (by decide) ?_
  refine z_istore_n (L' := [(0, .ref k), (1, .int (nI 12)), (2, .int y), (3, .int (nI 2))]) C d_K_operate_12 rfl (by decide) rfl ?_
  refine z_aload_n C d_K_operate_13 rfl rfl ?_
  refine z_get C in_K h0 rfl 2 (by decide) fl_K_24 rfl rfl d_K_operate_14 ?_
  refine z_iload_n C d_K_operate_17 rfl rfl ?_
  refine z_icmp_ge (tgt := 24) C d_K_operate_18 (by decide) (fun _ => ?_) (fun c_18 => absurd ((nI_leI (by decide) (by omega)).mpr (by omega)) c_18)
  refine z_aload_n C d_K_operate_24 rfl rfl ?_
  refine z_get C in_K h0 rfl 1 (by decide) fl_K_20 rfl rfl d_K_operate_25 ?_
  refine z_aload_n C d_K_operate_28 rfl rfl ?_
  refine z_get C in_K h0 rfl 2 (by decide) fl_K_24 rfl rfl d_K_operate_29 ?_
  refine z_iconst (v := nI 1) C d_K_operate_32 (by decide) ?_
  refine z_isub C d_K_operate_33 ?_
  refine z_top (y := nI (ys.length + 1)) (pk_sub (a := ys.length + 2) (b := 1) (by omega)) ?_
  refine z_aald C h1 3 rfl (ys.length + 1) (rfl) (by omega) (by decide) (congrArg va_rf (hff _ (by omega))) d_K_operate_34 ?_
  refine z_astore (L' := [(0, .ref k), (1, .int (nI 12)), (2, .int y), (3, .int (nI 2)), (4, .ref (k + 17 + 5 * (ys.length + 1)))]) C d_K_operate_35 (by decide) rfl ?_
  refine z_aload_n C d_K_operate_37 rfl rfl ?_
  refine z_get C in_K h0 rfl 1 (by decide) fl_K_20 rfl rfl d_K_operate_38 ?_
  refine z_aload_n C d_K_operate_41 rfl rfl ?_
  refine z_get C in_K h0 rfl 2 (by decide) fl_K_24 rfl rfl d_K_operate_42 ?_
  refine z_iload_n C d_K_operate_45 rfl rfl ?_
  refine z_isub C d_K_operate_46 ?_
  refine z_top (y := nI ys.length) (pk_sub (a := ys.length + 2) (b := 2) (by omega)) ?_
  refine z_aald C h1 3 rfl ys.length (rfl) (by omega) (by decide) (congrArg va_rf (hff _ (by omega))) d_K_operate_47 ?_
  refine z_astore (L' := [(0, .ref k), (1, .int (nI 12)), (2, .int y), (3, .int (nI 2)), (4, .ref (k + 17 + 5 * (ys.length + 1))), (5, .ref (k + 17 + 5 * ys.length))]) C d_K_operate_48 (by decide) rfl ?_
  refine z_aload_n C d_K_operate_50 rfl rfl ?_
  refine z_aload_n C d_K_operate_51 rfl rfl ?_
  refine z_get C in_K h0 rfl 2 (by decide) fl_K_24 rfl rfl d_K_operate_52 ?_
  refine z_iload_n C d_K_operate_55 rfl rfl ?_
  refine z_isub C d_K_operate_56 ?_
  refine z_top (y := nI ys.length) (pk_sub (a := ys.length + 2) (b := 2) (by omega)) ?_
  refine z_iconst (v := 1) C d_K_operate_57 (by decide) ?_
  refine z_iadd C d_K_operate_58 ?_
  refine z_top (y := nI (ys.length + 1)) (nI_1 _) ?_
  refine z_put C in_K ty_K tok_K nm_K h0 rfl 2 (by decide) fl_K_24 rfl rfl rfl (rfl) (rfl) (Nat.le_of_ble_eq_true rfl) d_K_operate_59 ?_
  show Z _ _ _ _ _ _ _ (zU M k (.inr (8, [.ref (k + 1), .ref (k + 16), .int (nI (ys.length + 1))]))) _ _ _
  have ho0 : zoutR M (zU M k (.inr (8, [.ref (k + 1), .ref (k + 16), .int (nI (ys.length + 1))]))) k (k + 1) := fun x hq => zU_ne (by omega)
  have hk0 : (zU M k (.inr (8, [.ref (k + 1), .ref (k + 16), .int (nI (ys.length + 1))]))) k = _ := zU_eq
  have hz0 := zf_oR ho0 hzl (by omega)
  have hs0 := zsh_oR ho0 hs (by omega)
  have hr0 := zf_oR ho0 hzr (by omega)
  refine z_iconst (v := nI 0) C d_K_operate_62 (by decide) ?_
  refine z_istore (L' := [(0, .ref k), (1, .int (nI 12)), (2, .int y), (3, .int (nI 2)), (4, .ref (k + 17 + 5 * (ys.length + 1))), (5, .ref (k + 17 + 5 * ys.length)), (6, .int (nI 0))]) C d_K_operate_63 (by decide) rfl ?_
  refine z_iload_n C d_K_operate_65 rfl rfl ?_
  refine z_tableIn (off := 108) (tgt := 174) C d_K_operate_66 (by decide) (by decide) (by decide) (by decide) ?_
  refine z_aload_n C d_K_operate_174 rfl rfl ?_
  refine z_get C in_K zU_eq rfl 0 (by decide) fl_K_12 rfl rfl d_K_operate_175 ?_
  refine z_aload C d_K_operate_178 rfl ?_
  refine z_aload C d_K_operate_180 rfl ?_
  refine z_callV (rest := []) (n := 2) (As := [.ref (k + 17 + 5 * ys.length), .ref (k + 17 + 5 * (ys.length + 1))]) C (w_compose E X.2.1 sz _ hs0 hz0 (by omega) hr0 (by omega) kd1 kd2) ⟨z_cb C k_W_compose ml_K_89 ii_W rfl rfl (by decide +kernel) ⟨by decide, by decide⟩, C.2.2.2.2.1 _ im_W_compose, C.2.2.2.2.1 _ se_W_compose⟩ hs0.1 rfl rfl rfl (Nat.le_of_ble_eq_true rfl) d_K_operate_182 ⟨by decide, by decide⟩ ?_
  intro v_w s_w M1 hp_w
  rcases hp_w with ⟨hq, rfl, rfl, rfl⟩ | ⟨hq, rfl, ho1, wx, wy, hs1, ⟨hy9, rfl⟩ | ⟨hy9, rfl⟩⟩
  · show Z _ _ _ _ _ _ _ _ 185 _ [.int (-6)]
    refine z_istore (L' := [(0, .ref k), (1, .int (nI 12)), (2, .int y), (3, .int (nI 2)), (4, .ref (k + 17 + 5 * (ys.length + 1))), (5, .ref (k + 17 + 5 * ys.length)), (6, .int (-6))]) C d_K_operate_185 (by decide) rfl ?_
    refine z_goto (tgt := 226) C d_K_operate_187 (by decide) ?_
    refine z_iload C d_K_operate_226 rfl ?_
    refine z_if_ne (tgt := 243) C d_K_operate_228 (by decide) (fun _ => ?_) (fun c_228 => absurd c_228 (by decide))
    refine z_iload C d_K_operate_243 rfl ?_
    exact z_iret C ⟨rfl, fun x hq => ho0 x (by omega), ⟨_, _, ht1, ht2, Or.inl ⟨hq, rfl, ⟨_, zwk_mk H (fun i hi => List.getElem?_append_left hi) (by omega) hz0 ⟨_, _, _, _, hs0⟩ hk0 (fun x q1 q2 q3 => ho0 x (by omega))⟩⟩⟩⟩ d_K_operate_245
  · have hz1 := zf_oR ho1 hz0 (by omega)
    have hk1 := (ho1 k (by omega)).trans hk0
    show Z _ _ _ _ _ _ _ _ 185 _ [.int (-5)]
    refine z_istore (L' := [(0, .ref k), (1, .int (nI 12)), (2, .int y), (3, .int (nI 2)), (4, .ref (k + 17 + 5 * (ys.length + 1))), (5, .ref (k + 17 + 5 * ys.length)), (6, .int (-5))]) C d_K_operate_185 (by decide) rfl ?_
    refine z_goto (tgt := 226) C d_K_operate_187 (by decide) ?_
    refine z_iload C d_K_operate_226 rfl ?_
    refine z_if_ne (tgt := 243) C d_K_operate_228 (by decide) (fun _ => ?_) (fun c_228 => absurd c_228 (by decide))
    refine z_iload C d_K_operate_243 rfl ?_
    exact z_iret C ⟨rfl, fun x hq => (ho1 x (by omega)).trans (ho0 x (by omega)), ⟨_, _, ht1, ht2, Or.inr (Or.inl ⟨hq, zp_zero hs1.2.2.1 hy9, rfl, ⟨_, zwk_mk H (fun i hi => List.getElem?_append_left hi) (by omega) hz1 ⟨_, _, _, _, hs1⟩ hk1 (fun x q1 q2 q3 => (ho1 x (by omega)).trans (ho0 x (by omega)))⟩⟩)⟩⟩ d_K_operate_245
  · show Z _ _ _ _ _ _ _ _ 185 _ [.int 0]
    have hz1 := zf_oR ho1 hz0 (by omega)
    have hk1 := (ho1 k (by omega)).trans hk0
    refine z_istore (L' := [(0, .ref k), (1, .int (nI 12)), (2, .int y), (3, .int (nI 2)), (4, .ref (k + 17 + 5 * (ys.length + 1))), (5, .ref (k + 17 + 5 * ys.length)), (6, .int (nI 0))]) C d_K_operate_185 (by decide) rfl ?_
    refine z_goto (tgt := 226) C d_K_operate_187 (by decide) ?_
    refine z_iload C d_K_operate_226 rfl ?_
    refine z_if_ne (tgt := 243) C d_K_operate_228 (by decide) (fun c_228 => absurd c_228 (fun q => q (by decide))) (fun _ => ?_)
    refine z_aload_n C d_K_operate_231 rfl rfl ?_
    refine z_get C in_K hk1 rfl 0 (by decide) fl_K_12 rfl rfl d_K_operate_232 ?_
    refine z_aload C d_K_operate_235 rfl ?_
    have hkd : 1 ≤ wy := by omega
    refine z_callV (rest := []) (n := 1) (As := [.ref (k + 17 + 5 * ys.length)]) C (w_settle E X.2.1 sz _ hs1 hkd hz1 (by omega)) ⟨z_cb C k_W_settle ml_K_102 ii_W rfl rfl (by decide +kernel) ⟨by decide, by decide⟩, C.2.2.2.2.1 _ im_W_settle, C.2.2.2.2.1 _ se_W_settle⟩ hs1.1 rfl rfl rfl (Nat.le_of_ble_eq_true rfl) d_K_operate_237 ⟨by decide, by decide⟩ ?_
    intro v_t s_t M2 hp_t
    obtain ⟨rfl, ⟨tx, ty, tA, tB, hs2⟩, hfr2, fn, fd, hfo, hcase⟩ := hp_t
    have hk2 := (hfr2 k (by omega) (by omega)).trans hk1
    have hframe : zoutR M M2 k (k + 97) := fun x hq => (hfr2 x (by omega) (by omega)).trans ((ho1 x (by omega)).trans (ho0 x (by omega)))
    have hfx : ∀ x, x ≠ k → (x < k + 1 ∨ k + 16 ≤ x) → (x < k + 17 + 5 * ys.length + 1 ∨ k + 17 + 5 * ys.length + 5 ≤ x) → M2 x = M x := fun x q1 q2 q3 => (hfr2 x (by omega) (by omega)).trans ((ho1 x (by omega)).trans (ho0 x (by omega)))
    have hyy : ∀ i : Nat, i < ys.length → (ys ++ [l1, r1])[i]? = ys[i]? := fun i hi => List.getElem?_append_left hi
    rcases hcase with ⟨rfl, hbig, ho9⟩ | ⟨rfl, ka, kb, hz2⟩
    · have hz2 := zf_oR ho9 hz1 (by omega)
      show Z _ _ _ _ _ _ _ _ 240 _ [.int (-6)]
      refine z_goto (tgt := 245) C d_K_operate_240 (by decide) ?_
      exact z_iret C ⟨rfl, hframe, ⟨_, _, ht1, ht2, Or.inr (Or.inr ⟨hq, zp_nz hs1.2.2.1 hy9, ⟨(fn, fd), hfo, Or.inl ⟨hbig, rfl, _, zwk_mk H hyy (by omega) hz2 ⟨_, _, _, _, hs2⟩ hk2 hfx⟩⟩⟩)⟩⟩ d_K_operate_245
    · show Z _ _ _ _ _ _ _ _ 240 _ [.int 0]
      refine z_goto (tgt := 245) C d_K_operate_240 (by decide) ?_
      exact z_iret C ⟨rfl, hframe, ⟨_, _, ht1, ht2, Or.inr (Or.inr ⟨hq, zp_nz hs1.2.2.1 hy9, ⟨(fn, fd), hfo, Or.inr ⟨zf_small hz2, rfl, zwk_mk H hyy (by omega) hz2 ⟨_, _, _, _, hs2⟩ hk2 hfx⟩⟩⟩)⟩⟩ d_K_operate_245
set_option maxHeartbeats 4000000 in
/-- Worker.operate, 5 -/
theorem k_powP (E : zE) (l : Launch) (sz : Nat) (M : zM) {k : Nat} {ys : List (PS × PS)} {l1 : PS × PS} (H : zwk E M k (ys ++ [l1])) (il : isform l1.1 l1.2) (t : Nat) (ht : t ≤ 12) : zMet E l y_K_operate c_K_operate 7 (some .int) { frames := 4, cells := 0, slots := 0, locals := 95 } 0 0 [.ref k, .int (nI 5), .int (nI t)] sz M (fun v s M' => sz = s ∧ zoutR M M' k (k + 97) ∧ (∃ a, hts l1 a ∧ ((12 < t * a ∧ some (.int (-6)) = v ∧ ∃ xs', zwk E M' k xs') ∨ (t * a ≤ 12 ∧ setlR E M' k v ys (ps_pow l1.1 t) (ps_pow l1.2 t))))) := by
  obtain ⟨ff, h0, h1, hl0, hff, ⟨sa, sb, sA, sB, hs⟩, hfm, hal⟩ := id H
  have e9 : (ys ++ [l1]).length = ys.length + 1 := by simp
  rw [e9] at h0 hl0
  obtain ⟨c1, c2, hzl⟩ := hfm ys.length l1 (by simp)
  obtain ⟨u9, hu9⟩ := isf_ne il
  have kd1 := zp_pos hzl.2.2 hu9
  have ht1 := zf_hts hzl kd1
  refine zMet.ofZ (by decide) (Nat.le_of_ble_eq_true rfl) ?_
  intro X hl hini C
  show Z X E 7 _ 0 0 sz M 0 [(0, .ref k), (1, .int (nI 5)), (2, .int (nI t))] []
  refine z_iload_n C d_K_operate_0 rfl rfl ?_
  refine z_callS (rest := []) (n := 1) (As := [.int (nI 5)]) C (g_two E X.2.1 sz _ 5 (by decide)) ⟨z_cb C k_G_hasTwoSides ml_K_74 ii_G rfl rfl (by decide +kernel) ⟨by decide, by decide⟩, C.2.2.2.2.1 _ sm_G_hasTwoSides⟩ rfl rfl (Nat.le_of_ble_eq_true rfl) d_K_operate_1 ⟨by decide, by decide⟩ ?_
  intro v_1 s_1 M_1 hp_1
  obtain ⟨rfl, rfl, rfl⟩ := hp_1
  show Z _ _ _ _ _ _ _ _ 4 _ [.int (if 8 ≤ 5 then 1 else 0)]
  refine z_if_eq (tgt := 11) C d_K_operate_4 (by decide) (fun _ => ?_) (fun c_4 => absurd (by decide) c_4)
  refine z_iconst (v := nI 1) C d_K_operate_11 (by decide) ?_
  refine z_istore_n (L' := [(0, .ref k), (1, .int (nI 5)), (2, .int (nI t)), (3, .int (nI 1))]) C d_K_operate_12 rfl (by decide) rfl ?_
  refine z_aload_n C d_K_operate_13 rfl rfl ?_
  refine z_get C in_K h0 rfl 2 (by decide) fl_K_24 rfl rfl d_K_operate_14 ?_
  refine z_iload_n C d_K_operate_17 rfl rfl ?_
  refine z_icmp_ge (tgt := 24) C d_K_operate_18 (by decide) (fun _ => ?_) (fun c_18 => absurd ((nI_leI (by decide) (by omega)).mpr (by omega)) c_18)
  refine z_aload_n C d_K_operate_24 rfl rfl ?_
  refine z_get C in_K h0 rfl 1 (by decide) fl_K_20 rfl rfl d_K_operate_25 ?_
  refine z_aload_n C d_K_operate_28 rfl rfl ?_
  refine z_get C in_K h0 rfl 2 (by decide) fl_K_24 rfl rfl d_K_operate_29 ?_
  refine z_iconst (v := nI 1) C d_K_operate_32 (by decide) ?_
  refine z_isub C d_K_operate_33 ?_
  refine z_top (y := nI ys.length) (pk_sub (a := ys.length + 1) (b := 1) (by omega)) ?_
  refine z_aald C h1 3 rfl ys.length (rfl) (by omega) (by decide) (congrArg va_rf (hff _ (by omega))) d_K_operate_34 ?_
  refine z_astore (L' := [(0, .ref k), (1, .int (nI 5)), (2, .int (nI t)), (3, .int (nI 1)), (4, .ref (k + 17 + 5 * ys.length))]) C d_K_operate_35 (by decide) rfl ?_
  refine z_aload_n C d_K_operate_37 rfl rfl ?_
  refine z_get C in_K h0 rfl 1 (by decide) fl_K_20 rfl rfl d_K_operate_38 ?_
  refine z_aload_n C d_K_operate_41 rfl rfl ?_
  refine z_get C in_K h0 rfl 2 (by decide) fl_K_24 rfl rfl d_K_operate_42 ?_
  refine z_iload_n C d_K_operate_45 rfl rfl ?_
  refine z_isub C d_K_operate_46 ?_
  refine z_top (y := nI ys.length) (pk_sub (a := ys.length + 1) (b := 1) (by omega)) ?_
  refine z_aald C h1 3 rfl ys.length (rfl) (by omega) (by decide) (congrArg va_rf (hff _ (by omega))) d_K_operate_47 ?_
  refine z_astore (L' := [(0, .ref k), (1, .int (nI 5)), (2, .int (nI t)), (3, .int (nI 1)), (4, .ref (k + 17 + 5 * ys.length)), (5, .ref (k + 17 + 5 * ys.length))]) C d_K_operate_48 (by decide) rfl ?_
  refine z_aload_n C d_K_operate_50 rfl rfl ?_
  refine z_aload_n C d_K_operate_51 rfl rfl ?_
  refine z_get C in_K h0 rfl 2 (by decide) fl_K_24 rfl rfl d_K_operate_52 ?_
  refine z_iload_n C d_K_operate_55 rfl rfl ?_
  refine z_isub C d_K_operate_56 ?_
  refine z_top (y := nI ys.length) (pk_sub (a := ys.length + 1) (b := 1) (by omega)) ?_
  refine z_iconst (v := 1) C d_K_operate_57 (by decide) ?_
  refine z_iadd C d_K_operate_58 ?_
  refine z_top (y := nI (ys.length + 1)) (nI_1 _) ?_
  refine z_put C in_K ty_K tok_K nm_K h0 rfl 2 (by decide) fl_K_24 rfl rfl rfl (rfl) (rfl) (Nat.le_of_ble_eq_true rfl) d_K_operate_59 ?_
  show Z _ _ _ _ _ _ _ (zU M k (.inr (8, [.ref (k + 1), .ref (k + 16), .int (nI (ys.length + 1))]))) _ _ _
  have ho0 : zoutR M (zU M k (.inr (8, [.ref (k + 1), .ref (k + 16), .int (nI (ys.length + 1))]))) k (k + 1) := fun x hq => zU_ne (by omega)
  have hk0 : (zU M k (.inr (8, [.ref (k + 1), .ref (k + 16), .int (nI (ys.length + 1))]))) k = _ := zU_eq
  have hz0 := zf_oR ho0 hzl (by omega)
  have hs0 := zsh_oR ho0 hs (by omega)
  refine z_iconst (v := nI 0) C d_K_operate_62 (by decide) ?_
  refine z_istore (L' := [(0, .ref k), (1, .int (nI 5)), (2, .int (nI t)), (3, .int (nI 1)), (4, .ref (k + 17 + 5 * ys.length)), (5, .ref (k + 17 + 5 * ys.length)), (6, .int (nI 0))]) C d_K_operate_63 (by decide) rfl ?_
  refine z_iload_n C d_K_operate_65 rfl rfl ?_
  refine z_tableIn (off := 124) (tgt := 190) C d_K_operate_66 (by decide) (by decide) (by decide) (by decide) ?_
  refine z_aload_n C d_K_operate_190 rfl rfl ?_
  refine z_get C in_K zU_eq rfl 0 (by decide) fl_K_12 rfl rfl d_K_operate_191 ?_
  refine z_aload C d_K_operate_194 rfl ?_
  refine z_iload_n C d_K_operate_196 rfl rfl ?_
  refine z_callV (rest := []) (n := 2) (As := [.ref (k + 17 + 5 * ys.length), .int (nI t)]) C (w_powP E X.2.1 sz _ hs0 hz0 (by omega) t ht kd1) ⟨z_cb C k_W_power ml_K_92 ii_W rfl rfl (by decide +kernel) ⟨by decide, by decide⟩, C.2.2.2.2.1 _ im_W_power, C.2.2.2.2.1 _ se_W_power⟩ hs0.1 rfl rfl rfl (Nat.le_of_ble_eq_true rfl) d_K_operate_197 ⟨by decide, by decide⟩ ?_
  intro v_w s_w M1 hp_w
  rcases hp_w with ⟨hq, rfl, rfl, rfl⟩ | ⟨hq, rfl, rfl, ⟨wx, wy, hs1⟩, ho1⟩
  · show Z _ _ _ _ _ _ _ _ 200 _ [.int (-6)]
    refine z_istore (L' := [(0, .ref k), (1, .int (nI 5)), (2, .int (nI t)), (3, .int (nI 1)), (4, .ref (k + 17 + 5 * ys.length)), (5, .ref (k + 17 + 5 * ys.length)), (6, .int (-6))]) C d_K_operate_200 (by decide) rfl ?_
    refine z_goto (tgt := 226) C d_K_operate_202 (by decide) ?_
    refine z_iload C d_K_operate_226 rfl ?_
    refine z_if_ne (tgt := 243) C d_K_operate_228 (by decide) (fun _ => ?_) (fun c_228 => absurd c_228 (by decide))
    refine z_iload C d_K_operate_243 rfl ?_
    exact z_iret C ⟨rfl, fun x hq => ho0 x (by omega), ⟨_, ht1, Or.inl ⟨hq, rfl, ⟨_, zwk_mk H (fun i hi => List.getElem?_append_left hi) (by omega) hz0 ⟨_, _, _, _, hs0⟩ hk0 (fun x q1 q2 q3 => ho0 x (by omega))⟩⟩⟩⟩ d_K_operate_245
  · show Z _ _ _ _ _ _ _ _ 200 _ [.int 0]
    have hz1 := zf_oR ho1 hz0 (by omega)
    have hk1 := (ho1 k (by omega)).trans hk0
    refine z_istore (L' := [(0, .ref k), (1, .int (nI 5)), (2, .int (nI t)), (3, .int (nI 1)), (4, .ref (k + 17 + 5 * ys.length)), (5, .ref (k + 17 + 5 * ys.length)), (6, .int (nI 0))]) C d_K_operate_200 (by decide) rfl ?_
    refine z_goto (tgt := 226) C d_K_operate_202 (by decide) ?_
    refine z_iload C d_K_operate_226 rfl ?_
    refine z_if_ne (tgt := 243) C d_K_operate_228 (by decide) (fun c_228 => absurd c_228 (fun q => q (by decide))) (fun _ => ?_)
    refine z_aload_n C d_K_operate_231 rfl rfl ?_
    refine z_get C in_K hk1 rfl 0 (by decide) fl_K_12 rfl rfl d_K_operate_232 ?_
    refine z_aload C d_K_operate_235 rfl ?_
    obtain ⟨i9, hi9⟩ := pow_ne il.2.1 (isf_ne il) t
    have hkd := zp_pos hs1.2.2.1 hi9
    refine z_callV (rest := []) (n := 1) (As := [.ref (k + 17 + 5 * ys.length)]) C (w_settle E X.2.1 sz _ hs1 hkd hz1 (by omega)) ⟨z_cb C k_W_settle ml_K_102 ii_W rfl rfl (by decide +kernel) ⟨by decide, by decide⟩, C.2.2.2.2.1 _ im_W_settle, C.2.2.2.2.1 _ se_W_settle⟩ hs1.1 rfl rfl rfl (Nat.le_of_ble_eq_true rfl) d_K_operate_237 ⟨by decide, by decide⟩ ?_
    intro v_t s_t M2 hp_t
    obtain ⟨rfl, ⟨tx, ty, tA, tB, hs2⟩, hfr2, fn, fd, hfo, hcase⟩ := hp_t
    have hk2 := (hfr2 k (by omega) (by omega)).trans hk1
    have hframe : zoutR M M2 k (k + 97) := fun x hq => (hfr2 x (by omega) (by omega)).trans ((ho1 x (by omega)).trans (ho0 x (by omega)))
    have hfx : ∀ x, x ≠ k → (x < k + 1 ∨ k + 16 ≤ x) → (x < k + 17 + 5 * ys.length + 1 ∨ k + 17 + 5 * ys.length + 5 ≤ x) → M2 x = M x := fun x q1 q2 q3 => (hfr2 x (by omega) (by omega)).trans ((ho1 x (by omega)).trans (ho0 x (by omega)))
    have hyy : ∀ i : Nat, i < ys.length → (ys ++ [l1])[i]? = ys[i]? := fun i hi => List.getElem?_append_left hi
    rcases hcase with ⟨rfl, hbig, ho9⟩ | ⟨rfl, ka, kb, hz2⟩
    · have hz2 := zf_oR ho9 hz1 (by omega)
      show Z _ _ _ _ _ _ _ _ 240 _ [.int (-6)]
      refine z_goto (tgt := 245) C d_K_operate_240 (by decide) ?_
      exact z_iret C ⟨rfl, hframe, ⟨_, ht1, Or.inr ⟨hq, ⟨(fn, fd), hfo, Or.inl ⟨hbig, rfl, _, zwk_mk H hyy (by omega) hz2 ⟨_, _, _, _, hs2⟩ hk2 hfx⟩⟩⟩⟩⟩ d_K_operate_245
    · show Z _ _ _ _ _ _ _ _ 240 _ [.int 0]
      refine z_goto (tgt := 245) C d_K_operate_240 (by decide) ?_
      exact z_iret C ⟨rfl, hframe, ⟨_, ht1, Or.inr ⟨hq, ⟨(fn, fd), hfo, Or.inr ⟨zf_small hz2, rfl, zwk_mk H hyy (by omega) hz2 ⟨_, _, _, _, hs2⟩ hk2 hfx⟩⟩⟩⟩⟩ d_K_operate_245
set_option maxHeartbeats 4000000 in
/-- Worker.operate, 5 -/
theorem k_powN (E : zE) (l : Launch) (sz : Nat) (M : zM) {k : Nat} {ys : List (PS × PS)} {l1 : PS × PS} (H : zwk E M k (ys ++ [l1])) (il : isform l1.1 l1.2) (t : Nat) (ht : t ≤ 12) (ht0 : 0 < t) : zMet E l y_K_operate c_K_operate 7 (some .int) { frames := 4, cells := 0, slots := 0, locals := 95 } 0 0 [.ref k, .int (nI 5), .int (-nI t)] sz M (fun v s M' => sz = s ∧ zoutR M M' k (k + 97) ∧ (((∀ i, l1.1 i = 0) ∧ some (.int (-5)) = v ∧ ∃ xs', zwk E M' k xs') ∨ ((∃ i, l1.1 i ≠ 0) ∧ ∃ a, hts l1 a ∧ ((12 < t * a ∧ some (.int (-6)) = v ∧ ∃ xs', zwk E M' k xs') ∨ (t * a ≤ 12 ∧ setlR E M' k v ys (ps_pow l1.2 t) (ps_pow l1.1 t)))))) := by
  obtain ⟨ff, h0, h1, hl0, hff, ⟨sa, sb, sA, sB, hs⟩, hfm, hal⟩ := id H
  have e9 : (ys ++ [l1]).length = ys.length + 1 := by simp
  rw [e9] at h0 hl0
  obtain ⟨c1, c2, hzl⟩ := hfm ys.length l1 (by simp)
  obtain ⟨u9, hu9⟩ := isf_ne il
  have kd1 := zp_pos hzl.2.2 hu9
  have ht1 := zf_hts hzl kd1
  refine zMet.ofZ (by decide) (Nat.le_of_ble_eq_true rfl) ?_
  intro X hl hini C
  show Z X E 7 _ 0 0 sz M 0 [(0, .ref k), (1, .int (nI 5)), (2, .int (-nI t))] []
  refine z_iload_n C d_K_operate_0 rfl rfl ?_
  refine z_callS (rest := []) (n := 1) (As := [.int (nI 5)]) C (g_two E X.2.1 sz _ 5 (by decide)) ⟨z_cb C k_G_hasTwoSides ml_K_74 ii_G rfl rfl (by decide +kernel) ⟨by decide, by decide⟩, C.2.2.2.2.1 _ sm_G_hasTwoSides⟩ rfl rfl (Nat.le_of_ble_eq_true rfl) d_K_operate_1 ⟨by decide, by decide⟩ ?_
  intro v_1 s_1 M_1 hp_1
  obtain ⟨rfl, rfl, rfl⟩ := hp_1
  show Z _ _ _ _ _ _ _ _ 4 _ [.int (if 8 ≤ 5 then 1 else 0)]
  refine z_if_eq (tgt := 11) C d_K_operate_4 (by decide) (fun _ => ?_) (fun c_4 => absurd (by decide) c_4)
  refine z_iconst (v := nI 1) C d_K_operate_11 (by decide) ?_
  refine z_istore_n (L' := [(0, .ref k), (1, .int (nI 5)), (2, .int (-nI t)), (3, .int (nI 1))]) C d_K_operate_12 rfl (by decide) rfl ?_
  refine z_aload_n C d_K_operate_13 rfl rfl ?_
  refine z_get C in_K h0 rfl 2 (by decide) fl_K_24 rfl rfl d_K_operate_14 ?_
  refine z_iload_n C d_K_operate_17 rfl rfl ?_
  refine z_icmp_ge (tgt := 24) C d_K_operate_18 (by decide) (fun _ => ?_) (fun c_18 => absurd ((nI_leI (by decide) (by omega)).mpr (by omega)) c_18)
  refine z_aload_n C d_K_operate_24 rfl rfl ?_
  refine z_get C in_K h0 rfl 1 (by decide) fl_K_20 rfl rfl d_K_operate_25 ?_
  refine z_aload_n C d_K_operate_28 rfl rfl ?_
  refine z_get C in_K h0 rfl 2 (by decide) fl_K_24 rfl rfl d_K_operate_29 ?_
  refine z_iconst (v := nI 1) C d_K_operate_32 (by decide) ?_
  refine z_isub C d_K_operate_33 ?_
  refine z_top (y := nI ys.length) (pk_sub (a := ys.length + 1) (b := 1) (by omega)) ?_
  refine z_aald C h1 3 rfl ys.length (rfl) (by omega) (by decide) (congrArg va_rf (hff _ (by omega))) d_K_operate_34 ?_
  refine z_astore (L' := [(0, .ref k), (1, .int (nI 5)), (2, .int (-nI t)), (3, .int (nI 1)), (4, .ref (k + 17 + 5 * ys.length))]) C d_K_operate_35 (by decide) rfl ?_
  refine z_aload_n C d_K_operate_37 rfl rfl ?_
  refine z_get C in_K h0 rfl 1 (by decide) fl_K_20 rfl rfl d_K_operate_38 ?_
  refine z_aload_n C d_K_operate_41 rfl rfl ?_
  refine z_get C in_K h0 rfl 2 (by decide) fl_K_24 rfl rfl d_K_operate_42 ?_
  refine z_iload_n C d_K_operate_45 rfl rfl ?_
  refine z_isub C d_K_operate_46 ?_
  refine z_top (y := nI ys.length) (pk_sub (a := ys.length + 1) (b := 1) (by omega)) ?_
  refine z_aald C h1 3 rfl ys.length (rfl) (by omega) (by decide) (congrArg va_rf (hff _ (by omega))) d_K_operate_47 ?_
  refine z_astore (L' := [(0, .ref k), (1, .int (nI 5)), (2, .int (-nI t)), (3, .int (nI 1)), (4, .ref (k + 17 + 5 * ys.length)), (5, .ref (k + 17 + 5 * ys.length))]) C d_K_operate_48 (by decide) rfl ?_
  refine z_aload_n C d_K_operate_50 rfl rfl ?_
  refine z_aload_n C d_K_operate_51 rfl rfl ?_
  refine z_get C in_K h0 rfl 2 (by decide) fl_K_24 rfl rfl d_K_operate_52 ?_
  refine z_iload_n C d_K_operate_55 rfl rfl ?_
  refine z_isub C d_K_operate_56 ?_
  refine z_top (y := nI ys.length) (pk_sub (a := ys.length + 1) (b := 1) (by omega)) ?_
  refine z_iconst (v := 1) C d_K_operate_57 (by decide) ?_
  refine z_iadd C d_K_operate_58 ?_
  refine z_top (y := nI (ys.length + 1)) (nI_1 _) ?_
  refine z_put C in_K ty_K tok_K nm_K h0 rfl 2 (by decide) fl_K_24 rfl rfl rfl (rfl) (rfl) (Nat.le_of_ble_eq_true rfl) d_K_operate_59 ?_
  show Z _ _ _ _ _ _ _ (zU M k (.inr (8, [.ref (k + 1), .ref (k + 16), .int (nI (ys.length + 1))]))) _ _ _
  have ho0 : zoutR M (zU M k (.inr (8, [.ref (k + 1), .ref (k + 16), .int (nI (ys.length + 1))]))) k (k + 1) := fun x hq => zU_ne (by omega)
  have hk0 : (zU M k (.inr (8, [.ref (k + 1), .ref (k + 16), .int (nI (ys.length + 1))]))) k = _ := zU_eq
  have hz0 := zf_oR ho0 hzl (by omega)
  have hs0 := zsh_oR ho0 hs (by omega)
  refine z_iconst (v := nI 0) C d_K_operate_62 (by decide) ?_
  refine z_istore (L' := [(0, .ref k), (1, .int (nI 5)), (2, .int (-nI t)), (3, .int (nI 1)), (4, .ref (k + 17 + 5 * ys.length)), (5, .ref (k + 17 + 5 * ys.length)), (6, .int (nI 0))]) C d_K_operate_63 (by decide) rfl ?_
  refine z_iload_n C d_K_operate_65 rfl rfl ?_
  refine z_tableIn (off := 124) (tgt := 190) C d_K_operate_66 (by decide) (by decide) (by decide) (by decide) ?_
  refine z_aload_n C d_K_operate_190 rfl rfl ?_
  refine z_get C in_K zU_eq rfl 0 (by decide) fl_K_12 rfl rfl d_K_operate_191 ?_
  refine z_aload C d_K_operate_194 rfl ?_
  refine z_iload_n C d_K_operate_196 rfl rfl ?_
  refine z_callV (rest := []) (n := 2) (As := [.ref (k + 17 + 5 * ys.length), .int (-nI t)]) C (w_powN E X.2.1 sz _ hs0 hz0 (by omega) t ht ht0 kd1) ⟨z_cb C k_W_power ml_K_92 ii_W rfl rfl (by decide +kernel) ⟨by decide, by decide⟩, C.2.2.2.2.1 _ im_W_power, C.2.2.2.2.1 _ se_W_power⟩ hs0.1 rfl rfl rfl (Nat.le_of_ble_eq_true rfl) d_K_operate_197 ⟨by decide, by decide⟩ ?_
  intro v_w s_w M1 hp_w
  rcases hp_w with ⟨hq, rfl, rfl, rfl⟩ | ⟨hn9, hq, rfl, rfl, rfl⟩ | ⟨hn9, hq, rfl, rfl, ⟨wx, wy, hs1⟩, ho1⟩
  · show Z _ _ _ _ _ _ _ _ 200 _ [.int (-5)]
    refine z_istore (L' := [(0, .ref k), (1, .int (nI 5)), (2, .int (-nI t)), (3, .int (nI 1)), (4, .ref (k + 17 + 5 * ys.length)), (5, .ref (k + 17 + 5 * ys.length)), (6, .int (-5))]) C d_K_operate_200 (by decide) rfl ?_
    refine z_goto (tgt := 226) C d_K_operate_202 (by decide) ?_
    refine z_iload C d_K_operate_226 rfl ?_
    refine z_if_ne (tgt := 243) C d_K_operate_228 (by decide) (fun _ => ?_) (fun c_228 => absurd c_228 (by decide))
    refine z_iload C d_K_operate_243 rfl ?_
    exact z_iret C ⟨rfl, fun x hq => ho0 x (by omega), Or.inl ⟨zp_zero hz0.2.1 hq, rfl, ⟨_, zwk_mk H (fun i hi => List.getElem?_append_left hi) (by omega) hz0 ⟨_, _, _, _, hs0⟩ hk0 (fun x q1 q2 q3 => ho0 x (by omega))⟩⟩⟩ d_K_operate_245
  · show Z _ _ _ _ _ _ _ _ 200 _ [.int (-6)]
    refine z_istore (L' := [(0, .ref k), (1, .int (nI 5)), (2, .int (-nI t)), (3, .int (nI 1)), (4, .ref (k + 17 + 5 * ys.length)), (5, .ref (k + 17 + 5 * ys.length)), (6, .int (-6))]) C d_K_operate_200 (by decide) rfl ?_
    refine z_goto (tgt := 226) C d_K_operate_202 (by decide) ?_
    refine z_iload C d_K_operate_226 rfl ?_
    refine z_if_ne (tgt := 243) C d_K_operate_228 (by decide) (fun _ => ?_) (fun c_228 => absurd c_228 (by decide))
    refine z_iload C d_K_operate_243 rfl ?_
    exact z_iret C ⟨rfl, fun x hq => ho0 x (by omega), Or.inr ⟨zp_nz hz0.2.1 hn9, _, ht1, Or.inl ⟨hq, rfl, ⟨_, zwk_mk H (fun i hi => List.getElem?_append_left hi) (by omega) hz0 ⟨_, _, _, _, hs0⟩ hk0 (fun x q1 q2 q3 => ho0 x (by omega))⟩⟩⟩⟩ d_K_operate_245
  · show Z _ _ _ _ _ _ _ _ 200 _ [.int 0]
    have hz1 := zf_oR ho1 hz0 (by omega)
    have hk1 := (ho1 k (by omega)).trans hk0
    refine z_istore (L' := [(0, .ref k), (1, .int (nI 5)), (2, .int (-nI t)), (3, .int (nI 1)), (4, .ref (k + 17 + 5 * ys.length)), (5, .ref (k + 17 + 5 * ys.length)), (6, .int (nI 0))]) C d_K_operate_200 (by decide) rfl ?_
    refine z_goto (tgt := 226) C d_K_operate_202 (by decide) ?_
    refine z_iload C d_K_operate_226 rfl ?_
    refine z_if_ne (tgt := 243) C d_K_operate_228 (by decide) (fun c_228 => absurd c_228 (fun q => q (by decide))) (fun _ => ?_)
    refine z_aload_n C d_K_operate_231 rfl rfl ?_
    refine z_get C in_K hk1 rfl 0 (by decide) fl_K_12 rfl rfl d_K_operate_232 ?_
    refine z_aload C d_K_operate_235 rfl ?_
    obtain ⟨i9, hi9⟩ := pow_ne il.1 (zp_nz hz0.2.1 hn9) t
    have hkd := zp_pos hs1.2.2.1 hi9
    refine z_callV (rest := []) (n := 1) (As := [.ref (k + 17 + 5 * ys.length)]) C (w_settle E X.2.1 sz _ hs1 hkd hz1 (by omega)) ⟨z_cb C k_W_settle ml_K_102 ii_W rfl rfl (by decide +kernel) ⟨by decide, by decide⟩, C.2.2.2.2.1 _ im_W_settle, C.2.2.2.2.1 _ se_W_settle⟩ hs1.1 rfl rfl rfl (Nat.le_of_ble_eq_true rfl) d_K_operate_237 ⟨by decide, by decide⟩ ?_
    intro v_t s_t M2 hp_t
    obtain ⟨rfl, ⟨tx, ty, tA, tB, hs2⟩, hfr2, fn, fd, hfo, hcase⟩ := hp_t
    have hk2 := (hfr2 k (by omega) (by omega)).trans hk1
    have hframe : zoutR M M2 k (k + 97) := fun x hq => (hfr2 x (by omega) (by omega)).trans ((ho1 x (by omega)).trans (ho0 x (by omega)))
    have hfx : ∀ x, x ≠ k → (x < k + 1 ∨ k + 16 ≤ x) → (x < k + 17 + 5 * ys.length + 1 ∨ k + 17 + 5 * ys.length + 5 ≤ x) → M2 x = M x := fun x q1 q2 q3 => (hfr2 x (by omega) (by omega)).trans ((ho1 x (by omega)).trans (ho0 x (by omega)))
    have hyy : ∀ i : Nat, i < ys.length → (ys ++ [l1])[i]? = ys[i]? := fun i hi => List.getElem?_append_left hi
    rcases hcase with ⟨rfl, hbig, ho9⟩ | ⟨rfl, ka, kb, hz2⟩
    · have hz2 := zf_oR ho9 hz1 (by omega)
      show Z _ _ _ _ _ _ _ _ 240 _ [.int (-6)]
      refine z_goto (tgt := 245) C d_K_operate_240 (by decide) ?_
      exact z_iret C ⟨rfl, hframe, Or.inr ⟨zp_nz hz0.2.1 hn9, _, ht1, Or.inr ⟨hq, ⟨(fn, fd), hfo, Or.inl ⟨hbig, rfl, _, zwk_mk H hyy (by omega) hz2 ⟨_, _, _, _, hs2⟩ hk2 hfx⟩⟩⟩⟩⟩ d_K_operate_245
    · show Z _ _ _ _ _ _ _ _ 240 _ [.int 0]
      refine z_goto (tgt := 245) C d_K_operate_240 (by decide) ?_
      exact z_iret C ⟨rfl, hframe, Or.inr ⟨zp_nz hz0.2.1 hn9, _, ht1, Or.inr ⟨hq, ⟨(fn, fd), hfo, Or.inr ⟨zf_small hz2, rfl, zwk_mk H hyy (by omega) hz2 ⟨_, _, _, _, hs2⟩ hk2 hfx⟩⟩⟩⟩⟩ d_K_operate_245
