set_option maxHeartbeats 4000000 in
/-- Worker.load -/
theorem k_loadC (E : zE) (l : Launch) (sz : Nat) (M : zM) {k : Nat} {xs : List (PS × PS)} (H : zwk E M k xs) (hx : xs.length < 16) (n : Nat) (hn : n < 2 ^ 31) {h : Nat} : zMet E l y_K_load c_K_load 6 (some .int) { frames := 3, cells := 0, slots := 0, locals := 64 } 0 0 [.ref k, .int (nI 1), .int (nI n), .ref h] sz M (fun v s M' => sz = s ∧ some (.int 0) = v ∧ zoutR M M' k (k + 97) ∧ zwk E M' k (xs ++ [(ps_C (Fin.ofNat 10007 n), ps_C 1)])) := by
  obtain ⟨ff, h0, h1, hl1, hff, hs, hfm, hal⟩ := id H
  obtain ⟨b1, b2, b3, b4, hz⟩ := hal xs.length hx
  refine zMet.ofZ (by decide) (Nat.le_of_ble_eq_true rfl) ?_
  intro X hl hini C
  show Z X E 6 _ 0 0 sz M 0 [(0, .ref k), (1, .int (nI 1)), (2, .int (nI n)), (3, .ref h)] []
  refine z_aload_n C d_K_load_0 rfl rfl ?_
  refine z_get C in_K h0 rfl 2 (by decide) fl_K_24 rfl rfl d_K_load_1 ?_
  refine z_bipush (v := nI 16) C d_K_load_4 (by decide) ?_
  refine z_icmp_lt (tgt := 12) C d_K_load_6 (by decide) (fun _ => ?_) (fun c_6 => absurd ((nI_ltI (by omega) (by decide)).mpr hx) c_6)
  refine z_aload_n C d_K_load_12 rfl rfl ?_
  refine z_get C in_K h0 rfl 1 (by decide) fl_K_20 rfl rfl d_K_load_13 ?_
  refine z_aload_n C d_K_load_16 rfl rfl ?_
  refine z_get C in_K h0 rfl 2 (by decide) fl_K_24 rfl rfl d_K_load_17 ?_
  refine z_aald C h1 3 rfl xs.length (rfl) (hx) (by decide) (congrArg va_rf (hff _ hx)) d_K_load_20 ?_
  refine z_astore (L' := [(0, .ref k), (1, .int (nI 1)), (2, .int (nI n)), (3, .ref h), (4, .ref (k + 17 + 5 * xs.length))]) C d_K_load_21 (by decide) rfl ?_
  refine z_aload_n C d_K_load_23 rfl rfl ?_
  refine z_dup C d_K_load_24 rfl ?_
  refine z_get C in_K h0 rfl 2 (by decide) fl_K_24 rfl rfl d_K_load_25 ?_
  refine z_iconst (v := 1) C d_K_load_28 (by decide) ?_
  refine z_iadd C d_K_load_29 ?_
  refine z_top (y := nI (xs.length + 1)) (nI_1 _) ?_
  refine z_put C in_K ty_K tok_K nm_K h0 rfl 2 (by decide) fl_K_24 rfl rfl rfl (rfl) (rfl) (Nat.le_of_ble_eq_true rfl) d_K_load_30 ?_
  show Z _ _ _ _ _ _ _ (zU M k (.inr (8, [.ref (k + 1), .ref (k + 16), .int (nI (xs.length + 1))]))) _ _ _
  have ho0 : zoutR M (zU M k (.inr (8, [.ref (k + 1), .ref (k + 16), .int (nI (xs.length + 1))]))) k (k + 1) := fun x hq => zU_ne (by omega)
  have hz0 := zf_oR ho0 hz (by omega)
  obtain ⟨sa, sb, sA, sB, hs⟩ := hs
  have hs0 := zsh_oR ho0 hs (by omega)
  refine z_iload_n C d_K_load_33 rfl rfl ?_
  refine z_iconst (v := nI 1) C d_K_load_34 (by decide) ?_
  refine z_icmp_ne (tgt := 51) C d_K_load_35 (by decide) (fun c_35 => absurd c_35 (fun q => q rfl)) (fun _ => ?_)
  refine z_aload C d_K_load_38 rfl ?_
  refine z_iload_n C d_K_load_40 rfl rfl ?_
  refine z_sipush (v := 10007) C d_K_load_41 (by decide) ?_
  refine z_irem C d_K_load_44 (by decide) ?_
  refine z_top (y := fI (Fin.ofNat 10007 n)) (nI_modf hn) ?_
  refine z_callV (rest := []) (n := 1) (As := [.int (fI (Fin.ofNat 10007 n))]) C (f_setConstant E X.2.1 sz _ hz0 (Fin.ofNat 10007 n)) ⟨z_cb C k_F_setConstant ml_K_53 ii_F rfl rfl (by decide +kernel) ⟨by decide, by decide⟩, C.2.2.2.2.1 _ im_F_setConstant, C.2.2.2.2.1 _ se_F_setConstant⟩ hz0.1 rfl rfl rfl (Nat.le_of_ble_eq_true rfl) d_K_load_45 ⟨by decide, by decide⟩ ?_
  intro v_45 s_45 M1 hp_45
  obtain ⟨rfl, rfl, hz1, ho1⟩ := hp_45
  have hs1 := zsh_oR ho1 hs0 (by omega)
  have hk1 := (ho1 k (by omega)).trans (zU_eq (M := M))
  show Z _ _ _ _ _ _ _ _ 48 _ []
  refine z_goto (tgt := 99) C d_K_load_48 (by decide) ?_
  refine z_iconst (v := 0) C d_K_load_99 (by decide) ?_
  exact z_iret C ⟨rfl, rfl, (fun x hq => (ho1 x (by omega)).trans (ho0 x (by omega))), zwk_mk H (fun _ _ => rfl) hx hz1 ⟨_, _, _, _, hs1⟩ hk1 (fun x q1 q2 q3 => (ho1 x (by omega)).trans (ho0 x (by omega)))⟩ d_K_load_100
set_option maxHeartbeats 4000000 in
/-- Worker.load -/
theorem k_loadX (E : zE) (l : Launch) (sz : Nat) (M : zM) {k : Nat} {xs : List (PS × PS)} (H : zwk E M k xs) (hx : xs.length < 16) {y : Int32} {h : Nat} : zMet E l y_K_load c_K_load 6 (some .int) { frames := 3, cells := 0, slots := 0, locals := 64 } 0 0 [.ref k, .int (nI 2), .int (y), .ref h] sz M (fun v s M' => sz = s ∧ some (.int 0) = v ∧ zoutR M M' k (k + 97) ∧ zwk E M' k (xs ++ [(mono 1 1, ps_C 1)])) := by
  obtain ⟨ff, h0, h1, hl1, hff, hs, hfm, hal⟩ := id H
  obtain ⟨b1, b2, b3, b4, hz⟩ := hal xs.length hx
  refine zMet.ofZ (by decide) (Nat.le_of_ble_eq_true rfl) ?_
  intro X hl hini C
  show Z X E 6 _ 0 0 sz M 0 [(0, .ref k), (1, .int (nI 2)), (2, .int y), (3, .ref h)] []
  refine z_aload_n C d_K_load_0 rfl rfl ?_
  refine z_get C in_K h0 rfl 2 (by decide) fl_K_24 rfl rfl d_K_load_1 ?_
  refine z_bipush (v := nI 16) C d_K_load_4 (by decide) ?_
  refine z_icmp_lt (tgt := 12) C d_K_load_6 (by decide) (fun _ => ?_) (fun c_6 => absurd ((nI_ltI (by omega) (by decide)).mpr hx) c_6)
  refine z_aload_n C d_K_load_12 rfl rfl ?_
  refine z_get C in_K h0 rfl 1 (by decide) fl_K_20 rfl rfl d_K_load_13 ?_
  refine z_aload_n C d_K_load_16 rfl rfl ?_
  refine z_get C in_K h0 rfl 2 (by decide) fl_K_24 rfl rfl d_K_load_17 ?_
  refine z_aald C h1 3 rfl xs.length (rfl) (hx) (by decide) (congrArg va_rf (hff _ hx)) d_K_load_20 ?_
  refine z_astore (L' := [(0, .ref k), (1, .int (nI 2)), (2, .int y), (3, .ref h), (4, .ref (k + 17 + 5 * xs.length))]) C d_K_load_21 (by decide) rfl ?_
  refine z_aload_n C d_K_load_23 rfl rfl ?_
  refine z_dup C d_K_load_24 rfl ?_
  refine z_get C in_K h0 rfl 2 (by decide) fl_K_24 rfl rfl d_K_load_25 ?_
  refine z_iconst (v := 1) C d_K_load_28 (by decide) ?_
  refine z_iadd C d_K_load_29 ?_
  refine z_top (y := nI (xs.length + 1)) (nI_1 _) ?_
  refine z_put C in_K ty_K tok_K nm_K h0 rfl 2 (by decide) fl_K_24 rfl rfl rfl (rfl) (rfl) (Nat.le_of_ble_eq_true rfl) d_K_load_30 ?_
  show Z _ _ _ _ _ _ _ (zU M k (.inr (8, [.ref (k + 1), .ref (k + 16), .int (nI (xs.length + 1))]))) _ _ _
  have ho0 : zoutR M (zU M k (.inr (8, [.ref (k + 1), .ref (k + 16), .int (nI (xs.length + 1))]))) k (k + 1) := fun x hq => zU_ne (by omega)
  have hz0 := zf_oR ho0 hz (by omega)
  obtain ⟨sa, sb, sA, sB, hs⟩ := hs
  have hs0 := zsh_oR ho0 hs (by omega)
  refine z_iload_n C d_K_load_33 rfl rfl ?_
  refine z_iconst (v := nI 1) C d_K_load_34 (by decide) ?_
  refine z_icmp_ne (tgt := 51) C d_K_load_35 (by decide) (fun _ => ?_) (fun c_35 => absurd c_35 (by decide))
  refine z_iload_n C d_K_load_51 rfl rfl ?_
  refine z_iconst (v := nI 2) C d_K_load_52 (by decide) ?_
  refine z_icmp_ne (tgt := 64) C d_K_load_53 (by decide) (fun c_53 => absurd c_53 (fun q => q rfl)) (fun _ => ?_)
  refine z_aload C d_K_load_56 rfl ?_
  refine z_callV (rest := []) (n := 0) (As := []) C (f_setLetter E X.2.1 sz _ hz0) ⟨z_cb C k_F_setLetter ml_K_57 ii_F rfl rfl (by decide +kernel) ⟨by decide, by decide⟩, C.2.2.2.2.1 _ im_F_setLetter, C.2.2.2.2.1 _ se_F_setLetter⟩ hz0.1 rfl rfl rfl (Nat.le_of_ble_eq_true rfl) d_K_load_58 ⟨by decide, by decide⟩ ?_
  intro v_58 s_58 M1 hp_58
  obtain ⟨rfl, rfl, hz1, ho1⟩ := hp_58
  have hs1 := zsh_oR ho1 hs0 (by omega)
  have hk1 := (ho1 k (by omega)).trans (zU_eq (M := M))
  show Z _ _ _ _ _ _ _ _ 61 _ []
  refine z_goto (tgt := 99) C d_K_load_61 (by decide) ?_
  refine z_iconst (v := 0) C d_K_load_99 (by decide) ?_
  exact z_iret C ⟨rfl, rfl, (fun x hq => (ho1 x (by omega)).trans (ho0 x (by omega))), zwk_mk H (fun _ _ => rfl) hx hz1 ⟨_, _, _, _, hs1⟩ hk1 (fun x q1 q2 q3 => (ho1 x (by omega)).trans (ho0 x (by omega)))⟩ d_K_load_100
set_option maxHeartbeats 4000000 in
/-- Worker.load -/
theorem k_loadL (E : zE) (l : Launch) (sz : Nat) (M : zM) {k : Nat} {xs : List (PS × PS)} (H : zwk E M k xs) (hx : xs.length < 16) {h : Nat} {fs : List (PS × PS)} {ss : List Nat} {nb : Nat → Nat} {sc : Nat} (S : zsf E M h fs ss nb sc) (ah : k + 97 ≤ h ∨ h + 204 ≤ k) (y : Int32) : zMet E l y_K_load c_K_load 6 (some .int) { frames := 3, cells := 0, slots := 0, locals := 64 } 0 0 [.ref k, .int (nI 4), .int (y), .ref h] sz M (fun v s M' => sz = s ∧ zoutR M M' k (k + 97) ∧ ((∃ i : Nat, i < fs.length ∧ y = nI (i + 1) ∧ some (.int 0) = v ∧ ∃ x, fs[i]? = some x ∧ zwk E M' k (xs ++ [x])) ∨ ((¬ ∃ i : Nat, i < fs.length ∧ y = nI (i + 1)) ∧ some (.int (-4)) = v ∧ ∃ xs', zwk E M' k xs'))) := by
  obtain ⟨ff, h0, h1, hl1, hff, hs, hfm, hal⟩ := id H
  obtain ⟨b1, b2, b3, b4, hz⟩ := hal xs.length hx
  refine zMet.ofZ (by decide) (Nat.le_of_ble_eq_true rfl) ?_
  intro X hl hini C
  show Z X E 6 _ 0 0 sz M 0 [(0, .ref k), (1, .int (nI 4)), (2, .int y), (3, .ref h)] []
  refine z_aload_n C d_K_load_0 rfl rfl ?_
  refine z_get C in_K h0 rfl 2 (by decide) fl_K_24 rfl rfl d_K_load_1 ?_
  refine z_bipush (v := nI 16) C d_K_load_4 (by decide) ?_
  refine z_icmp_lt (tgt := 12) C d_K_load_6 (by decide) (fun _ => ?_) (fun c_6 => absurd ((nI_ltI (by omega) (by decide)).mpr hx) c_6)
  refine z_aload_n C d_K_load_12 rfl rfl ?_
  refine z_get C in_K h0 rfl 1 (by decide) fl_K_20 rfl rfl d_K_load_13 ?_
  refine z_aload_n C d_K_load_16 rfl rfl ?_
  refine z_get C in_K h0 rfl 2 (by decide) fl_K_24 rfl rfl d_K_load_17 ?_
  refine z_aald C h1 3 rfl xs.length (rfl) (hx) (by decide) (congrArg va_rf (hff _ hx)) d_K_load_20 ?_
  refine z_astore (L' := [(0, .ref k), (1, .int (nI 4)), (2, .int y), (3, .ref h), (4, .ref (k + 17 + 5 * xs.length))]) C d_K_load_21 (by decide) rfl ?_
  refine z_aload_n C d_K_load_23 rfl rfl ?_
  refine z_dup C d_K_load_24 rfl ?_
  refine z_get C in_K h0 rfl 2 (by decide) fl_K_24 rfl rfl d_K_load_25 ?_
  refine z_iconst (v := 1) C d_K_load_28 (by decide) ?_
  refine z_iadd C d_K_load_29 ?_
  refine z_top (y := nI (xs.length + 1)) (nI_1 _) ?_
  refine z_put C in_K ty_K tok_K nm_K h0 rfl 2 (by decide) fl_K_24 rfl rfl rfl (rfl) (rfl) (Nat.le_of_ble_eq_true rfl) d_K_load_30 ?_
  show Z _ _ _ _ _ _ _ (zU M k (.inr (8, [.ref (k + 1), .ref (k + 16), .int (nI (xs.length + 1))]))) _ _ _
  have ho0 : zoutR M (zU M k (.inr (8, [.ref (k + 1), .ref (k + 16), .int (nI (xs.length + 1))]))) k (k + 1) := fun x hq => zU_ne (by omega)
  have hz0 := zf_oR ho0 hz (by omega)
  obtain ⟨sa, sb, sA, sB, hs⟩ := hs
  have hs0 := zsh_oR ho0 hs (by omega)
  have S0 := zsf_oR ho0 S (by omega)
  obtain ⟨gff, gsf, gnf, hS, gS1, gS2, gS3, ⟨hlS, -, -⟩, -, -, -, hfmS, -⟩ := id S0
  refine z_iload_n C d_K_load_33 rfl rfl ?_
  refine z_iconst (v := nI 1) C d_K_load_34 (by decide) ?_
  refine z_icmp_ne (tgt := 51) C d_K_load_35 (by decide) (fun _ => ?_) (fun c_35 => absurd c_35 (by decide))
  refine z_iload_n C d_K_load_51 rfl rfl ?_
  refine z_iconst (v := nI 2) C d_K_load_52 (by decide) ?_
  refine z_icmp_ne (tgt := 64) C d_K_load_53 (by decide) (fun _ => ?_) (fun c_53 => absurd c_53 (by decide))
  refine z_aload_n C d_K_load_64 rfl rfl ?_
  refine z_iload_n C d_K_load_65 rfl rfl ?_
  refine z_iconst (v := nI 3) C d_K_load_66 (by decide) ?_
  refine z_icmp_ne (tgt := 78) C d_K_load_67 (by decide) (fun _ => ?_) (fun c_67 => absurd c_67 (by decide))
  refine z_iload_n C d_K_load_78 rfl rfl ?_
  refine z_callV (rest := []) (n := 1) (As := [.int y]) C (h_find E X.2.1 sz _ S0 (y)) ⟨z_cb C k_H_find ml_K_66 ii_H rfl rfl (by decide +kernel) ⟨by decide, by decide⟩, C.2.2.2.2.1 _ im_H_find, C.2.2.2.2.1 _ se_H_find⟩ hS rfl rfl rfl (Nat.le_of_ble_eq_true rfl) d_K_load_79 ⟨by decide, by decide⟩ ?_
  intro v_79 s_79 M_79 hp_79
  obtain ⟨rfl, rfl, ⟨i, hi, hlab, rfl⟩ | ⟨hno, rfl⟩⟩ := hp_79
  · show Z _ _ _ _ _ _ _ _ 82 _ [.ref (h + 4 + 5 * i)]
    have hxi : fs[i]? = some fs[i] := List.getElem?_eq_getElem hi
    obtain ⟨c1, c2, hzi⟩ := hfmS i _ hxi
    have hb40 := hlS
    refine z_astore (L' := [(0, .ref k), (1, .int (nI 4)), (2, .int y), (3, .ref h), (4, .ref (k + 17 + 5 * xs.length)), (5, .ref (h + 4 + 5 * i))]) C d_K_load_82 (by decide) rfl ?_
    refine z_aload C d_K_load_84 rfl ?_
    refine z_ifnonnull (tgt := 92) C d_K_load_86 (by decide) ?_
    refine z_aload C d_K_load_92 rfl ?_
    refine z_aload C d_K_load_94 rfl ?_
    refine z_callV (rest := []) (n := 1) (As := [.ref (h + 4 + 5 * i)]) C (f_copy E X.2.1 sz _ hz0 hzi (by omega)) ⟨z_cb C k_F_copy ml_K_70 ii_F rfl rfl (by decide +kernel) ⟨by decide, by decide⟩, C.2.2.2.2.1 _ im_F_copy, C.2.2.2.2.1 _ se_F_copy⟩ hz0.1 rfl rfl rfl (Nat.le_of_ble_eq_true rfl) d_K_load_96 ⟨by decide, by decide⟩ ?_
    intro v_96 s_96 M1 hp_96
    obtain ⟨rfl, rfl, hz1, ho1⟩ := hp_96
    have hs1 := zsh_oR ho1 hs0 (by omega)
    have hk1 := (ho1 k (by omega)).trans (zU_eq (M := M))
    show Z _ _ _ _ _ _ _ _ 99 _ []
    refine z_iconst (v := 0) C d_K_load_99 (by decide) ?_
    exact z_iret C ⟨rfl, (fun x hq => (ho1 x (by omega)).trans (ho0 x (by omega))), Or.inl ⟨i, hi, hlab, rfl, _, hxi, zwk_mk H (fun _ _ => rfl) hx hz1 ⟨_, _, _, _, hs1⟩ hk1 (fun x q1 q2 q3 => (ho1 x (by omega)).trans (ho0 x (by omega)))⟩⟩ d_K_load_100
  · show Z _ _ _ _ _ _ _ _ 82 _ [.null]
    refine z_astoreN (L' := [(0, .ref k), (1, .int (nI 4)), (2, .int y), (3, .ref h), (4, .ref (k + 17 + 5 * xs.length)), (5, .null)]) C d_K_load_82 (by decide) rfl ?_
    refine z_aloadN C d_K_load_84 rfl ?_
    refine z_ifnonnullN C d_K_load_86 ?_
    refine z_bipush (v := -4) C d_K_load_89 (by decide) ?_
    exact z_iret C ⟨rfl, fun x hq => zU_ne (by omega), Or.inr ⟨hno, rfl, _, zwk_mk H (fun _ _ => rfl) hx hz0 ⟨_, _, _, _, hs0⟩ zU_eq (fun x q1 q2 q3 => zU_ne q1)⟩⟩ d_K_load_91
set_option maxHeartbeats 4000000 in
/-- Worker.load -/
theorem k_loadN (E : zE) (l : Launch) (sz : Nat) (M : zM) {k : Nat} {xs : List (PS × PS)} (H : zwk E M k xs) (hx : xs.length < 16) {h : Nat} {fs : List (PS × PS)} {ss : List Nat} {nb : Nat → Nat} {sc : Nat} (S : zsf E M h fs ss nb sc) (ah : k + 97 ≤ h ∨ h + 204 ≤ k) (n : Nat) (hn : n < 3) : zMet E l y_K_load c_K_load 6 (some .int) { frames := 3, cells := 0, slots := 0, locals := 64 } 0 0 [.ref k, .int (nI 3), .int (nI n), .ref h] sz M (fun v s M' => sz = s ∧ zoutR M M' k (k + 97) ∧ ((∃ i : Nat, i < fs.length ∧ nI (nb n) = nI (i + 1) ∧ some (.int 0) = v ∧ ∃ x, fs[i]? = some x ∧ zwk E M' k (xs ++ [x])) ∨ ((¬ ∃ i : Nat, i < fs.length ∧ nI (nb n) = nI (i + 1)) ∧ some (.int (-4)) = v ∧ ∃ xs', zwk E M' k xs'))) := by
  obtain ⟨ff, h0, h1, hl1, hff, hs, hfm, hal⟩ := id H
  obtain ⟨b1, b2, b3, b4, hz⟩ := hal xs.length hx
  refine zMet.ofZ (by decide) (Nat.le_of_ble_eq_true rfl) ?_
  intro X hl hini C
  show Z X E 6 _ 0 0 sz M 0 [(0, .ref k), (1, .int (nI 3)), (2, .int (nI n)), (3, .ref h)] []
  refine z_aload_n C d_K_load_0 rfl rfl ?_
  refine z_get C in_K h0 rfl 2 (by decide) fl_K_24 rfl rfl d_K_load_1 ?_
  refine z_bipush (v := nI 16) C d_K_load_4 (by decide) ?_
  refine z_icmp_lt (tgt := 12) C d_K_load_6 (by decide) (fun _ => ?_) (fun c_6 => absurd ((nI_ltI (by omega) (by decide)).mpr hx) c_6)
  refine z_aload_n C d_K_load_12 rfl rfl ?_
  refine z_get C in_K h0 rfl 1 (by decide) fl_K_20 rfl rfl d_K_load_13 ?_
  refine z_aload_n C d_K_load_16 rfl rfl ?_
  refine z_get C in_K h0 rfl 2 (by decide) fl_K_24 rfl rfl d_K_load_17 ?_
  refine z_aald C h1 3 rfl xs.length (rfl) (hx) (by decide) (congrArg va_rf (hff _ hx)) d_K_load_20 ?_
  refine z_astore (L' := [(0, .ref k), (1, .int (nI 3)), (2, .int (nI n)), (3, .ref h), (4, .ref (k + 17 + 5 * xs.length))]) C d_K_load_21 (by decide) rfl ?_
  refine z_aload_n C d_K_load_23 rfl rfl ?_
  refine z_dup C d_K_load_24 rfl ?_
  refine z_get C in_K h0 rfl 2 (by decide) fl_K_24 rfl rfl d_K_load_25 ?_
  refine z_iconst (v := 1) C d_K_load_28 (by decide) ?_
  refine z_iadd C d_K_load_29 ?_
  refine z_top (y := nI (xs.length + 1)) (nI_1 _) ?_
  refine z_put C in_K ty_K tok_K nm_K h0 rfl 2 (by decide) fl_K_24 rfl rfl rfl (rfl) (rfl) (Nat.le_of_ble_eq_true rfl) d_K_load_30 ?_
  show Z _ _ _ _ _ _ _ (zU M k (.inr (8, [.ref (k + 1), .ref (k + 16), .int (nI (xs.length + 1))]))) _ _ _
  have ho0 : zoutR M (zU M k (.inr (8, [.ref (k + 1), .ref (k + 16), .int (nI (xs.length + 1))]))) k (k + 1) := fun x hq => zU_ne (by omega)
  have hz0 := zf_oR ho0 hz (by omega)
  obtain ⟨sa, sb, sA, sB, hs⟩ := hs
  have hs0 := zsh_oR ho0 hs (by omega)
  have S0 := zsf_oR ho0 S (by omega)
  obtain ⟨gff, gsf, gnf, hS, gS1, gS2, gS3, ⟨hlS, -, -⟩, -, -, -, hfmS, -⟩ := id S0
  refine z_iload_n C d_K_load_33 rfl rfl ?_
  refine z_iconst (v := nI 1) C d_K_load_34 (by decide) ?_
  refine z_icmp_ne (tgt := 51) C d_K_load_35 (by decide) (fun _ => ?_) (fun c_35 => absurd c_35 (by decide))
  refine z_iload_n C d_K_load_51 rfl rfl ?_
  refine z_iconst (v := nI 2) C d_K_load_52 (by decide) ?_
  refine z_icmp_ne (tgt := 64) C d_K_load_53 (by decide) (fun _ => ?_) (fun c_53 => absurd c_53 (by decide))
  refine z_aload_n C d_K_load_64 rfl rfl ?_
  refine z_iload_n C d_K_load_65 rfl rfl ?_
  refine z_iconst (v := nI 3) C d_K_load_66 (by decide) ?_
  refine z_icmp_ne (tgt := 78) C d_K_load_67 (by decide) (fun c_67 => absurd c_67 (fun q => q rfl)) (fun _ => ?_)
  refine z_aload_n C d_K_load_70 rfl rfl ?_
  refine z_iload_n C d_K_load_71 rfl rfl ?_
  refine z_callV (rest := [.ref h]) (n := 1) (As := [.int (nI n)]) C (h_boundTo E X.2.1 sz _ S0 n hn) ⟨z_cb C k_H_labelBoundTo ml_K_60 ii_H rfl rfl (by decide +kernel) ⟨by decide, by decide⟩, C.2.2.2.2.1 _ im_H_labelBoundTo, C.2.2.2.2.1 _ se_H_labelBoundTo⟩ hS rfl rfl rfl (Nat.le_of_ble_eq_true rfl) d_K_load_72 ⟨by decide, by decide⟩ ?_
  intro v_72 s_72 M_72 hp_72
  obtain ⟨rfl, rfl, rfl⟩ := hp_72
  show Z _ _ _ _ _ _ _ _ 75 _ [.int (nI (nb n)), .ref h]
  refine z_goto (tgt := 79) C d_K_load_75 (by decide) ?_
  refine z_callV (rest := []) (n := 1) (As := [.int (nI (nb n))]) C (h_find E X.2.1 sz _ S0 (nI (nb n))) ⟨z_cb C k_H_find ml_K_66 ii_H rfl rfl (by decide +kernel) ⟨by decide, by decide⟩, C.2.2.2.2.1 _ im_H_find, C.2.2.2.2.1 _ se_H_find⟩ hS rfl rfl rfl (Nat.le_of_ble_eq_true rfl) d_K_load_79 ⟨by decide, by decide⟩ ?_
  intro v_79 s_79 M_79 hp_79
  obtain ⟨rfl, rfl, ⟨i, hi, hlab, rfl⟩ | ⟨hno, rfl⟩⟩ := hp_79
  · show Z _ _ _ _ _ _ _ _ 82 _ [.ref (h + 4 + 5 * i)]
    have hxi : fs[i]? = some fs[i] := List.getElem?_eq_getElem hi
    obtain ⟨c1, c2, hzi⟩ := hfmS i _ hxi
    have hb40 := hlS
    refine z_astore (L' := [(0, .ref k), (1, .int (nI 3)), (2, .int (nI n)), (3, .ref h), (4, .ref (k + 17 + 5 * xs.length)), (5, .ref (h + 4 + 5 * i))]) C d_K_load_82 (by decide) rfl ?_
    refine z_aload C d_K_load_84 rfl ?_
    refine z_ifnonnull (tgt := 92) C d_K_load_86 (by decide) ?_
    refine z_aload C d_K_load_92 rfl ?_
    refine z_aload C d_K_load_94 rfl ?_
    refine z_callV (rest := []) (n := 1) (As := [.ref (h + 4 + 5 * i)]) C (f_copy E X.2.1 sz _ hz0 hzi (by omega)) ⟨z_cb C k_F_copy ml_K_70 ii_F rfl rfl (by decide +kernel) ⟨by decide, by decide⟩, C.2.2.2.2.1 _ im_F_copy, C.2.2.2.2.1 _ se_F_copy⟩ hz0.1 rfl rfl rfl (Nat.le_of_ble_eq_true rfl) d_K_load_96 ⟨by decide, by decide⟩ ?_
    intro v_96 s_96 M1 hp_96
    obtain ⟨rfl, rfl, hz1, ho1⟩ := hp_96
    have hs1 := zsh_oR ho1 hs0 (by omega)
    have hk1 := (ho1 k (by omega)).trans (zU_eq (M := M))
    show Z _ _ _ _ _ _ _ _ 99 _ []
    refine z_iconst (v := 0) C d_K_load_99 (by decide) ?_
    exact z_iret C ⟨rfl, (fun x hq => (ho1 x (by omega)).trans (ho0 x (by omega))), Or.inl ⟨i, hi, hlab, rfl, _, hxi, zwk_mk H (fun _ _ => rfl) hx hz1 ⟨_, _, _, _, hs1⟩ hk1 (fun x q1 q2 q3 => (ho1 x (by omega)).trans (ho0 x (by omega)))⟩⟩ d_K_load_100
  · show Z _ _ _ _ _ _ _ _ 82 _ [.null]
    refine z_astoreN (L' := [(0, .ref k), (1, .int (nI 3)), (2, .int (nI n)), (3, .ref h), (4, .ref (k + 17 + 5 * xs.length)), (5, .null)]) C d_K_load_82 (by decide) rfl ?_
    refine z_aloadN C d_K_load_84 rfl ?_
    refine z_ifnonnullN C d_K_load_86 ?_
    refine z_bipush (v := -4) C d_K_load_89 (by decide) ?_
    exact z_iret C ⟨rfl, fun x hq => zU_ne (by omega), Or.inr ⟨hno, rfl, _, zwk_mk H (fun _ _ => rfl) hx hz0 ⟨_, _, _, _, hs0⟩ zU_eq (fun x q1 q2 q3 => zU_ne q1)⟩⟩ d_K_load_91
set_option maxHeartbeats 4000000 in
/-- Worker.result -/
theorem k_result (E : zE) (l : Launch) (sz : Nat) (M : zM) {k : Nat} {xs : List (PS × PS)} (H : zwk E M k xs) : zMet E l y_K_result c_K_result 1 (some (FieldType.object "RationalSession$Form")) { frames := 0, cells := 0, slots := 0, locals := 0 } 0 0 [.ref k] sz M (zRet (some (.ref (k + 17))) sz M) := by
  obtain ⟨ff, h0, h1, hl1, hff, hs, hfm, hal⟩ := id H
  refine zMet.ofZ (by decide) (Nat.le_of_ble_eq_true rfl) ?_
  intro X hl hini C
  show Z X E 1 _ 0 0 sz M 0 [(0, .ref k)] []
  refine z_aload_n C d_K_result_0 rfl rfl ?_
  refine z_get C in_K h0 rfl 1 (by decide) fl_K_20 rfl rfl d_K_result_1 ?_
  refine z_iconst (v := nI 0) C d_K_result_4 (by decide) ?_
  refine z_aald C h1 3 rfl 0 (rfl) (by decide) (by decide) (congrArg va_rf (hff 0 (by decide))) d_K_result_5 ?_
  exact z_aret C (Or.inl ⟨_, rfl⟩) (Or.inr ⟨_, rfl⟩) ⟨rfl, rfl, rfl⟩ d_K_result_6
