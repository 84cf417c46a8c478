theorem ent_nil {g : (Nat → Nat) × (Nat → Nat) × (Nat → Nat) × Nat × Nat × Nat} {σ s' : St} {v : Int32} (h : entC g σ v s') : s'.1 = [] := by
  obtain ⟨cs, fs, ss, nb, sc, bad⟩ := σ
  rcases h with ⟨-, -, rfl⟩ | ⟨-, ⟨-, -, rfl⟩ | ⟨-, ⟨t, -, -, rfl⟩ | ⟨x, r, sc', -, -, -, -, rfl⟩⟩⟩ <;> rfl
theorem mst_nil {E : zE} {M : zM} {m : Nat} {cs : List Nat} {fs : List (PS × PS)} {ss : List Nat} {nb : Nat → Nat} {sc : Nat} {bad : Int32} (h : mst E M m (cs, fs, ss, nb, sc, bad)) : ∃ v, M m = some v ∧ ∃ (xln : Nat → Nat) (xlen : Nat) (xlab : Nat) (xbad : Int32) (xlev : Nat) (xtr : Int32) (xwa : Nat) (xpl : Nat) (xfo : Nat) (xsf : Nat → Nat) (xbf : Nat → Nat) (xF : Nat → FF) (xG : Nat → FF) (xP : Nat → FF) (xQ : Nat → FF) (xmm : Nat → FF) (xsl : Nat → Nat) (xkd : Nat → Nat) (xhs : Nat → Nat) (xht : Nat → Nat) (xsg : Nat → Nat) (xdv : Nat → Nat), mw E M m xln xlen xlab xbad xlev xtr xwa xpl xfo xsf xbf xF xG xP xQ xmm xsl xkd xhs xht xsg xdv ∧ mrel cs fs ss nb sc bad xln xlen xlab xbad xsf xbf xF xG xkd := by
  obtain ⟨xln, xlen, xlab, xbad, xlev, xtr, xwa, xpl, xfo, xsf, xbf, xF, xG, xP, xQ, xmm, xsl, xkd, xhs, xht, xsg, xdv, H, hr⟩ := h
  exact ⟨_, H.1, xln, xlen, xlab, xbad, xlev, xtr, xwa, xpl, xfo, xsf, xbf, xF, xG, xP, xQ, xmm, xsl, xkd, xhs, xht, xsg, xdv, H, hr⟩
set_option maxHeartbeats 4000000 in
/-- enter -/
theorem m_enter (E : zE) (l : Launch) (sz : Nat) (M : zM) {m : Nat} {cs : List Nat} {fs : List (PS × PS)} {ss : List Nat} {nb : Nat → Nat} {sc : Nat} {bad : Int32} (hm : mst E M m (cs, fs, ss, nb, sc, bad)) : zMet E l y_M_enter c_M_enter 2 (some .int) { frames := 10, cells := 0, slots := 0, locals := 246 } 0 0 [.ref m] sz M (fun v s M' => sz = s ∧ zoutR M M' m (m + 15) ∧ ∃ y s', some (.int y) = v ∧ entC (fun _ => 0, fun _ => 0, fun _ => 0, 0, 0, 0) (cs, fs, ss, nb, sc, bad) y s' ∧ mst E M' m s') := by
  obtain ⟨xln, xlen, xlab, xbad, xlev, xtr, xwa, xpl, xfo, xsf, xbf, xF, xG, xP, xQ, xmm, xsl, xkd, xhs, xht, xsg, xdv, H, hr⟩ := id hm
  obtain ⟨r1, r2, r3, r4, r5, r6, r7, r8, r9, r10, r11, r12, r13, r14, r15, r16⟩ := id hr
  refine zMet.ofZ (by decide) (Nat.le_of_ble_eq_true rfl) ?_
  intro X hl hini C
  show Z X E 2 _ 0 0 sz M 0 [(0, .ref m)] []
  refine z_bipush (v := -2) C d_M_enter_0 (by decide) ?_
  refine z_istore_n (L' := [(0, .ref m), (1, .int (-2))]) C d_M_enter_2 rfl (by decide) rfl ?_
  refine z_aload_n C d_M_enter_3 rfl rfl ?_
  refine z_get C in_M H.1 rfl 2 (by decide) fl_M_167 rfl rfl d_M_enter_4 ?_
  refine z_bipush (v := nI 40) C d_M_enter_7 (by decide) ?_
  refine z_icmp_ge (tgt := 17) C d_M_enter_9 (by decide) (fun c_9 => ?_) (fun c_9 => ?_)
  · have c_9 : 40 ≤ xlab := (nI_leI (a := 40) (b := xlab) (by omega) (by omega)).mp c_9
    refine z_aload_n C d_M_enter_17 rfl rfl ?_
    refine z_iconst (v := nI 0) C d_M_enter_18 (by decide) ?_
    refine z_put C in_M ty_M tok_M nm_M H.1 rfl 1 (by decide) fl_M_67 rfl rfl rfl (rfl) (rfl) (Nat.le_of_ble_eq_true rfl) d_M_enter_19 ?_
    show Z _ _ _ _ _ _ _ (zU M m (.inr (10, [.ref (m + 1), .int (nI 0), .int (nI xlab), .int xbad, .int (nI xlev), .int xtr, .int (nI xwa), .int (nI xpl), .int (nI xfo), .ref (m + 2), .ref (m + 3), .ref (m + 4), .ref (m + 5), .ref (m + 6), .ref (m + 7), .ref (m + 8), .ref (m + 9), .ref (m + 10), .ref (m + 11), .ref (m + 12), .ref (m + 13), .ref (m + 14)]))) _ _ _
    refine z_iload_n C d_M_enter_22 rfl rfl ?_
    exact z_iret C ⟨rfl, (zoutR_tr zoutR_rf (zo_u (by omega) (by omega))), -2, ([], fs, ss, nb, sc, bad), rfl, Or.inl ⟨by omega, rfl, rfl⟩, xln, 0, xlab, xbad, xlev, xtr, xwa, xpl, xfo, xsf, xbf, xF, xG, xP, xQ, xmm, xsl, xkd, xhs, xht, xsg, xdv, (mw_o H 0 xlab xbad xlev xtr xwa xpl xfo), ⟨rfl, by simp, fun i hi => by simp at hi, r4, r5, r6, r7, r8, r9, r10, r11, r12, r13, r14, r15, r16⟩⟩ d_M_enter_23
  · have c_9 : xlab < 40 := Nat.not_le.mp (fun q => c_9 ((nI_leI (a := 40) (b := xlab) (by omega) (by omega)).mpr q))
    refine z_aload_n C d_M_enter_12 rfl rfl ?_
    refine z_callV (rest := []) (n := 0) (As := []) C (m_work E X.2.1 sz _ H hr (by omega)) ⟨z_cb C k_M_work ml_M_189 ii_M rfl rfl (by decide +kernel) ⟨by decide, by decide⟩, C.2.2.2.2.1 _ im_M_work, C.2.2.2.2.1 _ se_M_work⟩ H.1 rfl rfl rfl (Nat.le_of_ble_eq_true rfl) d_M_enter_13 ⟨by decide, by decide⟩ ?_
    intro v_13 s_13 M_13 hp_13
    obtain ⟨rfl, ho_13, y0, s9, rfl, hen, hm2⟩ := hp_13
    have hnil := ent_nil hen
    obtain ⟨c9, f9, ss9, n9, sc9, b9⟩ := s9
    have hnil : c9 = [] := hnil
    subst hnil
    obtain ⟨zln, zlen, zlab, zbad, zlev, ztr, zwa, zpl, zfo, zsf, zbf, zF, zG, zP, zQ, zmm, zsl, zkd, zhs, zht, zsg, zdv, H2, hr2⟩ := id hm2
    obtain ⟨t1, t2, t3, t4, t5, t6, t7, t8, t9, t10, t11, t12, t13, t14, t15, t16⟩ := id hr2
    show Z _ _ _ _ _ _ _ _ 16 _ [.int y0]
    refine z_istore_n (L' := [(0, .ref m), (1, .int y0)]) C d_M_enter_16 rfl (by decide) rfl ?_
    refine z_aload_n C d_M_enter_17 rfl rfl ?_
    refine z_iconst (v := nI 0) C d_M_enter_18 (by decide) ?_
    refine z_put C in_M ty_M tok_M nm_M H2.1 rfl 1 (by decide) fl_M_67 rfl rfl rfl (rfl) (rfl) (Nat.le_of_ble_eq_true rfl) d_M_enter_19 ?_
    show Z _ _ _ _ _ _ _ (zU M_13 m (.inr (10, [.ref (m + 1), .int (nI 0), .int (nI zlab), .int zbad, .int (nI zlev), .int ztr, .int (nI zwa), .int (nI zpl), .int (nI zfo), .ref (m + 2), .ref (m + 3), .ref (m + 4), .ref (m + 5), .ref (m + 6), .ref (m + 7), .ref (m + 8), .ref (m + 9), .ref (m + 10), .ref (m + 11), .ref (m + 12), .ref (m + 13), .ref (m + 14)]))) _ _ _
    refine z_iload_n C d_M_enter_22 rfl rfl ?_
    exact z_iret C ⟨rfl, (zoutR_tr ho_13 (zo_u (by omega) (by omega))), y0, _, rfl, hen, zln, 0, zlab, zbad, zlev, ztr, zwa, zpl, zfo, zsf, zbf, zF, zG, zP, zQ, zmm, zsl, zkd, zhs, zht, zsg, zdv, (mw_o H2 0 zlab zbad zlev ztr zwa zpl zfo), ⟨rfl, by simp, fun i hi => by simp at hi, t4, t5, t6, t7, t8, t9, t10, t11, t12, t13, t14, t15, t16⟩⟩ d_M_enter_23
set_option maxHeartbeats 4000000 in
/-- M_badPlace -/
theorem m_badPlace (E : zE) (l : Launch) (sz : Nat) (M : zM) {m : Nat} {cs : List Nat} {fs : List (PS × PS)} {ss : List Nat} {nb : Nat → Nat} {sc : Nat} {bad : Int32} (hm : mst E M m (cs, fs, ss, nb, sc, bad))  : zMet E l y_M_badPlace c_M_badPlace 1 (some .int) { frames := 0, cells := 0, slots := 0, locals := 0 } 0 0 [.ref m] sz M (zRet (some (.int (bad))) sz M) := by
  obtain ⟨xln, xlen, xlab, xbad, xlev, xtr, xwa, xpl, xfo, xsf, xbf, xF, xG, xP, xQ, xmm, xsl, xkd, xhs, xht, xsg, xdv, H, hr⟩ := id hm
  obtain ⟨r1, r2, r3, r4, r5, r6, r7, r8, r9, r10, r11, r12, r13, r14, r15, r16⟩ := id hr
  refine zMet.ofZ (by decide) (Nat.le_of_ble_eq_true rfl) ?_
  intro X hl hini C
  show Z X E 1 _ 0 0 sz M 0 [(0, .ref m)] []
  refine z_aload_n C d_M_badPlace_0 rfl rfl ?_
  refine z_get C in_M H.1 rfl 3 (by decide) fl_M_13 rfl rfl d_M_badPlace_1 ?_
  exact z_iret C ⟨by rw [r11], rfl, rfl⟩ d_M_badPlace_4
set_option maxHeartbeats 4000000 in
/-- M_labels -/
theorem m_labels (E : zE) (l : Launch) (sz : Nat) (M : zM) {m : Nat} {cs : List Nat} {fs : List (PS × PS)} {ss : List Nat} {nb : Nat → Nat} {sc : Nat} {bad : Int32} (hm : mst E M m (cs, fs, ss, nb, sc, bad))  : zMet E l y_M_labels c_M_labels 1 (some .int) { frames := 0, cells := 0, slots := 0, locals := 0 } 0 0 [.ref m] sz M (zRet (some (.int (nI fs.length))) sz M) := by
  obtain ⟨xln, xlen, xlab, xbad, xlev, xtr, xwa, xpl, xfo, xsf, xbf, xF, xG, xP, xQ, xmm, xsl, xkd, xhs, xht, xsg, xdv, H, hr⟩ := id hm
  obtain ⟨r1, r2, r3, r4, r5, r6, r7, r8, r9, r10, r11, r12, r13, r14, r15, r16⟩ := id hr
  refine zMet.ofZ (by decide) (Nat.le_of_ble_eq_true rfl) ?_
  intro X hl hini C
  show Z X E 1 _ 0 0 sz M 0 [(0, .ref m)] []
  refine z_aload_n C d_M_labels_0 rfl rfl ?_
  refine z_get C in_M H.1 rfl 2 (by decide) fl_M_167 rfl rfl d_M_labels_1 ?_
  exact z_iret C ⟨by rw [r5], rfl, rfl⟩ d_M_labels_4
/-- shapes, as the session has it -/
theorem m_shapesQ (E : zE) (l : Launch) (sz : Nat) (M : zM) {m : Nat} {cs : List Nat} {fs : List (PS × PS)} {ss : List Nat} {nb : Nat → Nat} {sc : Nat} {bad : Int32} (hm : mst E M m (cs, fs, ss, nb, sc, bad)) : zMet E l y_M_shapes c_M_shapes 3 (some .int) { frames := 0, cells := 0, slots := 0, locals := 0 } 0 0 [.ref m] sz M (zRet (some (.int (nI sc))) sz M) := by
  obtain ⟨xln, xlen, xlab, xbad, xlev, xtr, xwa, xpl, xfo, xsf, xbf, xF, xG, xP, xQ, xmm, xsl, xkd, xhs, xht, xsg, xdv, H, hr⟩ := id hm
  obtain ⟨r1, r2, r3, r4, r5, r6, r7, r8, r9, r10, r11, r12, r13, r14, r15, r16⟩ := id hr
  have h9 := m_shapes E l sz M H (by omega) r15
  rw [r5, r14] at h9
  exact h9
theorem getD_dl {cs : List Nat} {i : Nat} (h : i < cs.length - 1) : cs.getD i 0 = cs.dropLast.getD i 0 := by
  rw [List.getD_eq_getElem?_getD, List.getD_eq_getElem?_getD, List.getElem?_dropLast, if_pos h]
set_option maxHeartbeats 4000000 in
/-- M_back -/
theorem m_back (E : zE) (l : Launch) (sz : Nat) (M : zM) {m : Nat} {cs : List Nat} {fs : List (PS × PS)} {ss : List Nat} {nb : Nat → Nat} {sc : Nat} {bad : Int32} (hm : mst E M m (cs, fs, ss, nb, sc, bad))  : zMet E l y_M_back c_M_back 1 (some .int) { frames := 0, cells := 0, slots := 0, locals := 0 } 0 0 [.ref m] sz M (fun v s M' => some (.int (q_back (cs, fs, ss, nb, sc, bad)).1) = v ∧ sz = s ∧ zoutR M M' m (m + 15) ∧ mst E M' m (q_back (cs, fs, ss, nb, sc, bad)).2) := by
  obtain ⟨xln, xlen, xlab, xbad, xlev, xtr, xwa, xpl, xfo, xsf, xbf, xF, xG, xP, xQ, xmm, xsl, xkd, xhs, xht, xsg, xdv, H, hr⟩ := id hm
  obtain ⟨r1, r2, r3, r4, r5, r6, r7, r8, r9, r10, r11, r12, r13, r14, r15, r16⟩ := id hr
  refine zMet.ofZ (by decide) (Nat.le_of_ble_eq_true rfl) ?_
  intro X hl hini C
  show Z X E 1 _ 0 0 sz M 0 [(0, .ref m)] []
  refine z_aload_n C d_M_back_0 rfl rfl ?_
  refine z_get C in_M H.1 rfl 1 (by decide) fl_M_67 rfl rfl d_M_back_1 ?_
  refine z_if_ne (tgt := 9) C d_M_back_4 (by decide) (fun c_4 => ?_) (fun c_4 => ?_)
  · have c_4 : ¬ xlen = 0 := fun q => c_4 (congrArg nI q)
    refine z_aload_n C d_M_back_9 rfl rfl ?_
    refine z_dup C d_M_back_10 rfl ?_
    refine z_get C in_M H.1 rfl 1 (by decide) fl_M_67 rfl rfl d_M_back_11 ?_
    refine z_iconst (v := nI 1) C d_M_back_14 (by decide) ?_
    refine z_isub C d_M_back_15 ?_
    refine z_top (y := nI (xlen - 1)) (pk_sub (by omega)) ?_
    refine z_put C in_M ty_M tok_M nm_M H.1 rfl 1 (by decide) fl_M_67 rfl rfl rfl (rfl) (rfl) (Nat.le_of_ble_eq_true rfl) d_M_back_16 ?_
    show Z _ _ _ _ _ _ _ (zU M m (.inr (10, [.ref (m + 1), .int (nI (xlen - 1)), .int (nI xlab), .int xbad, .int (nI xlev), .int xtr, .int (nI xwa), .int (nI xpl), .int (nI xfo), .ref (m + 2), .ref (m + 3), .ref (m + 4), .ref (m + 5), .ref (m + 6), .ref (m + 7), .ref (m + 8), .ref (m + 9), .ref (m + 10), .ref (m + 11), .ref (m + 12), .ref (m + 13), .ref (m + 14)]))) _ _ _
    refine z_aload_n C d_M_back_19 rfl rfl ?_
    refine z_get C in_M zU_eq rfl 1 (by decide) fl_M_67 rfl rfl d_M_back_20 ?_
    have eb : q_back (cs, fs, ss, nb, sc, bad) = (nI (cs.length - 1), (cs.dropLast, fs, ss, nb, sc, bad)) := if_neg (by omega)
    exact z_iret C ⟨by rw [eb, ← r1], rfl, (zoutR_tr zoutR_rf (zo_u (by omega) (by omega))), by rw [eb]; exact ⟨xln, (xlen - 1), xlab, xbad, xlev, xtr, xwa, xpl, xfo, xsf, xbf, xF, xG, xP, xQ, xmm, xsl, xkd, xhs, xht, xsg, xdv, (mw_o H (xlen - 1) xlab xbad xlev xtr xwa xpl xfo), ⟨by rw [List.length_dropLast, r1], by rw [List.length_dropLast]; omega, fun i hi => by rw [List.length_dropLast] at hi; rw [r3 i (by omega), getD_dl hi], r4, r5, r6, r7, r8, r9, r10, r11, r12, r13, r14, r15, r16⟩⟩⟩ d_M_back_23
  · have c_4 : xlen = 0 := (nI_eq (a := xlen) (b := 0) (by omega) (by omega)).mp c_4
    refine z_iconst (v := -1) C d_M_back_7 (by decide) ?_
    have eb : q_back (cs, fs, ss, nb, sc, bad) = (-1, (cs, fs, ss, nb, sc, bad)) := if_pos (by omega)
    exact z_iret C ⟨by rw [eb], rfl, zoutR_rf, by rw [eb]; exact hm⟩ d_M_back_8
set_option maxHeartbeats 4000000 in
/-- M_line -/
theorem m_line (E : zE) (l : Launch) (sz : Nat) (M : zM) {m : Nat} {cs : List Nat} {fs : List (PS × PS)} {ss : List Nat} {nb : Nat → Nat} {sc : Nat} {bad : Int32} (hm : mst E M m (cs, fs, ss, nb, sc, bad)) (y : Int32) : zMet E l y_M_line c_M_line 2 (some .int) { frames := 0, cells := 0, slots := 0, locals := 0 } 0 0 [.ref m, .int y] sz M (zRet (some (.int (q_line cs y))) sz M) := by
  obtain ⟨xln, xlen, xlab, xbad, xlev, xtr, xwa, xpl, xfo, xsf, xbf, xF, xG, xP, xQ, xmm, xsl, xkd, xhs, xht, xsg, xdv, H, hr⟩ := id hm
  obtain ⟨r1, r2, r3, r4, r5, r6, r7, r8, r9, r10, r11, r12, r13, r14, r15, r16⟩ := id hr
  refine zMet.ofZ (by decide) (Nat.le_of_ble_eq_true rfl) ?_
  intro X hl hini C
  show Z X E 2 _ 0 0 sz M 0 [(0, .ref m), (1, .int y)] []
  refine z_iload_n C d_M_line_0 rfl rfl ?_
  refine z_if_ge (tgt := 9) C d_M_line_1 (by decide) (fun c_1 => ?_) (fun c_1 => ?_)
  · have c_1 : ((0 : Nat) : Int) ≤ y.toInt := (xi_ge (x := y) (k := 0) (by omega)).mp c_1
    refine z_iload_n C d_M_line_9 rfl rfl ?_
    refine z_aload_n C d_M_line_10 rfl rfl ?_
    refine z_get C in_M H.1 rfl 1 (by decide) fl_M_67 rfl rfl d_M_line_11 ?_
    refine z_icmp_ge (tgt := 26) C d_M_line_14 (by decide) (fun c_14 => ?_) (fun c_14 => ?_)
    · have c_14 : ((xlen : Nat) : Int) ≤ y.toInt := (xi_ge (x := y) (k := xlen) (by omega)).mp c_14
      refine z_iconst (v := -1) C d_M_line_26 (by decide) ?_
      have eq_ : q_line cs y = -1 := by
        unfold q_line
        rw [if_neg (fun q => by have := (xi_lt (x := y) (k := 0) (by decide)).mp q; omega), if_neg (fun q => by have := (xi_lt (x := y) (k := cs.length) (by omega)).mp q; omega)]
      exact z_iret C ⟨by rw [eq_], rfl, rfl⟩ d_M_line_27
    · have c_14 : ¬ ((xlen : Nat) : Int) ≤ y.toInt := fun q => c_14 ((xi_ge (x := y) (k := xlen) (by omega)).mpr q)
      obtain ⟨n9, hn9, rfl⟩ : ∃ n9, n9 < cs.length ∧ y = nI n9 := ⟨y.toInt.toNat, by omega, (xi_eq (by omega)).mpr (by omega)⟩
      refine z_aload_n C d_M_line_17 rfl rfl ?_
      refine z_get C in_M H.1 rfl 0 (by decide) fl_M_7 rfl rfl d_M_line_18 ?_
      refine z_iload_n C d_M_line_21 rfl rfl ?_
      refine z_iald C H.2.1 0 rfl n9 (rfl) (by omega) (by omega) d_M_line_22 ?_
      refine z_top (y := nI (xln n9)) rfl ?_
      refine z_goto (tgt := 27) C d_M_line_23 (by decide) ?_
      have eq_ : q_line cs (nI n9) = nI (cs.getD n9 0) := by
        unfold q_line
        rw [if_neg (fun q => by have := (nI_ltI (a := n9) (b := 0) (by omega) (by omega)).mp q; omega), if_pos ((nI_ltI (a := n9) (b := cs.length) (by omega) (by omega)).mpr (by omega)), nI_clamp (by omega)]
      exact z_iret C ⟨by rw [eq_, r3 n9 (by omega)], rfl, rfl⟩ d_M_line_27
  · have c_1 : ¬ ((0 : Nat) : Int) ≤ y.toInt := fun q => c_1 ((xi_ge (x := y) (k := 0) (by omega)).mpr q)
    refine z_aload_n C d_M_line_4 rfl rfl ?_
    refine z_get C in_M H.1 rfl 1 (by decide) fl_M_67 rfl rfl d_M_line_5 ?_
    have eq_ : q_line cs y = nI cs.length := if_pos ((xi_lt (k := 0) (by decide)).mpr (by omega))
    exact z_iret C ⟨by rw [eq_, r1], rfl, rfl⟩ d_M_line_8
set_option maxHeartbeats 4000000 in
/-- reset -/
theorem m_reset (E : zE) (l : Launch) (sz : Nat) (M : zM) {m : Nat} {cs : List Nat} {fs : List (PS × PS)} {ss : List Nat} {nb : Nat → Nat} {sc : Nat} {bad : Int32} (hm : mst E M m (cs, fs, ss, nb, sc, bad)) : zMet E l y_M_reset c_M_reset 2 none { frames := 0, cells := 0, slots := 0, locals := 0 } 0 0 [.ref m] sz M (fun v s M' => none = v ∧ sz = s ∧ zoutR M M' m (m + 15) ∧ mst E M' m ([], [], [], (fun _ => 0), 0, -1)) := by
  obtain ⟨xln, xlen, xlab, xbad, xlev, xtr, xwa, xpl, xfo, xsf, xbf, xF, xG, xP, xQ, xmm, xsl, xkd, xhs, xht, xsg, xdv, H, hr⟩ := id hm
  obtain ⟨r1, r2, r3, r4, r5, r6, r7, r8, r9, r10, r11, r12, r13, r14, r15, r16⟩ := id hr
  refine zMet.ofZ (by decide) (Nat.le_of_ble_eq_true rfl) ?_
  intro X hl hini C
  have loop : ∀ (e i : Nat) (bf1 : Nat → Nat) (M1 : zM), i + e = 3 → (∀ j, j < i → bf1 j = 0) → mw E M1 m xln 0 0 (-1) xlev xtr xwa xpl xfo xsf bf1 xF xG xP xQ xmm xsl xkd xhs xht xsg xdv → zoutR M M1 m (m + 15) → Z X E 2 (zQ X E 0 0 (fun v s M' => none = v ∧ sz = s ∧ zoutR M M' m (m + 15) ∧ mst E M' m ([], [], [], (fun _ => 0), 0, -1))) 0 0 sz M1 17 [(0, .ref m), (1, .int (nI i))] [] := by
    intro e
    induction e with
    | zero =>
      intro i bf1 M1 hi hb H1 hz1
      have hi : i = 3 := by omega
      subst hi
      refine z_iload_n C d_M_reset_17 rfl rfl ?_
      refine z_iconst (v := nI 3) C d_M_reset_18 (by decide) ?_
      refine z_icmp_ge (tgt := 35) C d_M_reset_19 (by decide) (fun _ => ?_) (fun c_19 => absurd (by decide) c_19)
      exact z_vret C ⟨rfl, rfl, hz1, ⟨xln, 0, 0, (-1), xlev, xtr, xwa, xpl, xfo, xsf, bf1, xF, xG, xP, xQ, xmm, xsl, xkd, xhs, xht, xsg, xdv, H1, ⟨rfl, by simp, fun i hi => by simp at hi, r4, rfl, by simp, fun n f hn => by simp at hn, fun n f hn => by simp at hn, rfl, fun j hj => ⟨hb j hj, Nat.le_refl _⟩, rfl, r12, fun f hf => (by cases hf), rfl, r15, Nat.le_refl _⟩⟩⟩ d_M_reset_35
    | succ e ih =>
      intro i bf1 M1 hi hb H1 hz1
      refine z_iload_n C d_M_reset_17 rfl rfl ?_
      refine z_iconst (v := nI 3) C d_M_reset_18 (by decide) ?_
      refine z_icmp_ge (tgt := 35) C d_M_reset_19 (by decide) (fun c_19 => absurd c_19 (fun q => absurd ((nI_leI (a := 3) (b := i) (by omega) (by omega)).mp q) (by omega))) (fun _ => ?_)
      refine z_aload_n C d_M_reset_22 rfl rfl ?_
      refine z_get C in_M H1.1 rfl 10 (by decide) fl_M_20 rfl rfl d_M_reset_23 ?_
      refine z_iload_n C d_M_reset_26 rfl rfl ?_
      refine z_iconst (v := nI 0) C d_M_reset_27 (by decide) ?_
      refine z_iast C H1.2.2.2.1 0 rfl i (rfl) (by omega) (by omega) d_M_reset_28 ?_
      refine z_world (M' := zU M1 (m + 3) (.inl (E.2.1 0, 3, .inl (fun z_ => nI ((updN bf1 i 0) z_))))) (congrArg (fun e => zU M1 (m + 3) (.inl (E.2.1 0, 3, .inl e))) nI_upd) ?_
      refine z_iinc (v := nI (i + 1)) (L' := [(0, .ref m), (1, .int (nI (i + 1)))]) C d_M_reset_29 rfl (nI_add _ 1) (by decide) rfl ?_
      refine z_goto (tgt := 17) C d_M_reset_32 (by decide) ?_
      refine ih (i + 1) _ _ (by omega) (fun j hj => ?_) (mw_a3 H1 (updN bf1 i 0)) (zoutR_tr hz1 (zo_u (by omega) (by omega)))
      by_cases e9 : j = i
      · rw [e9, updN_eq]
      · rw [updN_ne e9]; exact hb j (by omega)
  show Z X E 2 _ 0 0 sz M 0 [(0, .ref m)] []
  refine z_aload_n C d_M_reset_0 rfl rfl ?_
  refine z_iconst (v := nI 0) C d_M_reset_1 (by decide) ?_
  refine z_put C in_M ty_M tok_M nm_M H.1 rfl 1 (by decide) fl_M_67 rfl rfl rfl (rfl) (rfl) (Nat.le_of_ble_eq_true rfl) d_M_reset_2 ?_
  show Z _ _ _ _ _ _ _ (zU M m (.inr (10, [.ref (m + 1), .int (nI 0), .int (nI xlab), .int xbad, .int (nI xlev), .int xtr, .int (nI xwa), .int (nI xpl), .int (nI xfo), .ref (m + 2), .ref (m + 3), .ref (m + 4), .ref (m + 5), .ref (m + 6), .ref (m + 7), .ref (m + 8), .ref (m + 9), .ref (m + 10), .ref (m + 11), .ref (m + 12), .ref (m + 13), .ref (m + 14)]))) _ _ _
  refine z_aload_n C d_M_reset_5 rfl rfl ?_
  refine z_iconst (v := nI 0) C d_M_reset_6 (by decide) ?_
  refine z_put C in_M ty_M tok_M nm_M zU_eq rfl 2 (by decide) fl_M_167 rfl rfl rfl (rfl) (rfl) (Nat.le_of_ble_eq_true rfl) d_M_reset_7 ?_
  show Z _ _ _ _ _ _ _ (zU (zU M m (.inr (10, [.ref (m + 1), .int (nI 0), .int (nI xlab), .int xbad, .int (nI xlev), .int xtr, .int (nI xwa), .int (nI xpl), .int (nI xfo), .ref (m + 2), .ref (m + 3), .ref (m + 4), .ref (m + 5), .ref (m + 6), .ref (m + 7), .ref (m + 8), .ref (m + 9), .ref (m + 10), .ref (m + 11), .ref (m + 12), .ref (m + 13), .ref (m + 14)]))) m (.inr (10, [.ref (m + 1), .int (nI 0), .int (nI 0), .int xbad, .int (nI xlev), .int xtr, .int (nI xwa), .int (nI xpl), .int (nI xfo), .ref (m + 2), .ref (m + 3), .ref (m + 4), .ref (m + 5), .ref (m + 6), .ref (m + 7), .ref (m + 8), .ref (m + 9), .ref (m + 10), .ref (m + 11), .ref (m + 12), .ref (m + 13), .ref (m + 14)]))) _ _ _
  refine z_world zU_uu ?_
  refine z_aload_n C d_M_reset_10 rfl rfl ?_
  refine z_iconst (v := (-1)) C d_M_reset_11 (by decide) ?_
  refine z_put C in_M ty_M tok_M nm_M zU_eq rfl 3 (by decide) fl_M_13 rfl rfl rfl (rfl) (rfl) (Nat.le_of_ble_eq_true rfl) d_M_reset_12 ?_
  show Z _ _ _ _ _ _ _ (zU (zU M m (.inr (10, [.ref (m + 1), .int (nI 0), .int (nI 0), .int xbad, .int (nI xlev), .int xtr, .int (nI xwa), .int (nI xpl), .int (nI xfo), .ref (m + 2), .ref (m + 3), .ref (m + 4), .ref (m + 5), .ref (m + 6), .ref (m + 7), .ref (m + 8), .ref (m + 9), .ref (m + 10), .ref (m + 11), .ref (m + 12), .ref (m + 13), .ref (m + 14)]))) m (.inr (10, [.ref (m + 1), .int (nI 0), .int (nI 0), .int (-1), .int (nI xlev), .int xtr, .int (nI xwa), .int (nI xpl), .int (nI xfo), .ref (m + 2), .ref (m + 3), .ref (m + 4), .ref (m + 5), .ref (m + 6), .ref (m + 7), .ref (m + 8), .ref (m + 9), .ref (m + 10), .ref (m + 11), .ref (m + 12), .ref (m + 13), .ref (m + 14)]))) _ _ _
  refine z_world zU_uu ?_
  refine z_iconst (v := nI 0) C d_M_reset_15 (by decide) ?_
  refine z_istore_n (L' := [(0, .ref m), (1, .int (nI 0))]) C d_M_reset_16 rfl (by decide) rfl ?_
  exact loop 3 0 xbf _ (by omega) (fun j hj => by omega) (mw_o H 0 0 (-1) xlev xtr xwa xpl xfo) (zoutR_tr zoutR_rf (zo_u (by omega) (by omega)))
set_option maxHeartbeats 4000000 in
/-- M_noLabel -/
theorem m_noLabel (E : zE) (l : Launch) (sz : Nat) (M : zM) {m : Nat} {cs : List Nat} {fs : List (PS × PS)} {ss : List Nat} {nb : Nat → Nat} {sc : Nat} {bad : Int32} (hm : mst E M m (cs, fs, ss, nb, sc, bad)) (y : Int32) : zMet E l y_M_noLabel c_M_noLabel 2 (some .boolean) { frames := 0, cells := 0, slots := 0, locals := 0 } 0 0 [.ref m, .int y] sz M (zRet (some (.int (nI (b01 (y.toInt < 1 ∨ ((fs.length : Nat) : Int) < y.toInt))))) sz M) := by
  obtain ⟨xln, xlen, xlab, xbad, xlev, xtr, xwa, xpl, xfo, xsf, xbf, xF, xG, xP, xQ, xmm, xsl, xkd, xhs, xht, xsg, xdv, H, hr⟩ := id hm
  obtain ⟨r1, r2, r3, r4, r5, r6, r7, r8, r9, r10, r11, r12, r13, r14, r15, r16⟩ := id hr
  refine zMet.ofZ (by decide) (Nat.le_of_ble_eq_true rfl) ?_
  intro X hl hini C
  show Z X E 2 _ 0 0 sz M 0 [(0, .ref m), (1, .int y)] []
  refine z_iload_n C d_M_noLabel_0 rfl rfl ?_
  refine z_iconst (v := nI 1) C d_M_noLabel_1 (by decide) ?_
  refine z_icmp_lt (tgt := 13) C d_M_noLabel_2 (by decide) (fun c_2 => ?_) (fun c_2 => ?_)
  · have c_2 : y.toInt < ((1 : Nat) : Int) := (xi_lt (x := y) (k := 1) (by omega)).mp c_2
    refine z_iconst (v := nI 1) C d_M_noLabel_13 (by decide) ?_
    refine z_goto (tgt := 18) C d_M_noLabel_14 (by decide) ?_
    exact z_zret C (by first | rfl | decide) ⟨by rw [b01_t (by omega)], rfl, rfl⟩ d_M_noLabel_18
  · have c_2 : ¬ y.toInt < ((1 : Nat) : Int) := fun q => c_2 ((xi_lt (x := y) (k := 1) (by omega)).mpr q)
    refine z_iload_n C d_M_noLabel_5 rfl rfl ?_
    refine z_aload_n C d_M_noLabel_6 rfl rfl ?_
    refine z_get C in_M H.1 rfl 2 (by decide) fl_M_167 rfl rfl d_M_noLabel_7 ?_
    refine z_icmp_le (tgt := 17) C d_M_noLabel_10 (by decide) (fun c_10 => ?_) (fun c_10 => ?_)
    · have c_10 : y.toInt ≤ ((xlab : Nat) : Int) := (xi_le (x := y) (k := xlab) (by omega)).mp c_10
      refine z_iconst (v := nI 0) C d_M_noLabel_17 (by decide) ?_
      exact z_zret C (by first | rfl | decide) ⟨by rw [b01_f (by omega)], rfl, rfl⟩ d_M_noLabel_18
    · have c_10 : ¬ y.toInt ≤ ((xlab : Nat) : Int) := fun q => c_10 ((xi_le (x := y) (k := xlab) (by omega)).mpr q)
      refine z_iconst (v := nI 1) C d_M_noLabel_13 (by decide) ?_
      refine z_goto (tgt := 18) C d_M_noLabel_14 (by decide) ?_
      exact z_zret C (by first | rfl | decide) ⟨by rw [b01_t (by omega)], rfl, rfl⟩ d_M_noLabel_18
set_option maxHeartbeats 4000000 in
/-- M_shape -/
theorem m_shape (E : zE) (l : Launch) (sz : Nat) (M : zM) {m : Nat} {cs : List Nat} {fs : List (PS × PS)} {ss : List Nat} {nb : Nat → Nat} {sc : Nat} {bad : Int32} (hm : mst E M m (cs, fs, ss, nb, sc, bad)) (y : Int32) : zMet E l y_M_shape c_M_shape 2 (some .int) { frames := 1, cells := 0, slots := 0, locals := 21 } 0 0 [.ref m, .int y] sz M (zRet (some (.int (q_shape fs ss y))) sz M) := by
  obtain ⟨xln, xlen, xlab, xbad, xlev, xtr, xwa, xpl, xfo, xsf, xbf, xF, xG, xP, xQ, xmm, xsl, xkd, xhs, xht, xsg, xdv, H, hr⟩ := id hm
  obtain ⟨r1, r2, r3, r4, r5, r6, r7, r8, r9, r10, r11, r12, r13, r14, r15, r16⟩ := id hr
  refine zMet.ofZ (by decide) (Nat.le_of_ble_eq_true rfl) ?_
  intro X hl hini C
  show Z X E 2 _ 0 0 sz M 0 [(0, .ref m), (1, .int y)] []
  refine z_aload_n C d_M_shape_0 rfl rfl ?_
  refine z_iload_n C d_M_shape_1 rfl rfl ?_
  refine z_callV (rest := []) (n := 1) (As := [.int y]) C (m_noLabel E X.2.1 sz _ hm y) ⟨z_cb C k_M_noLabel ml_M_205 ii_M rfl rfl (by decide +kernel) ⟨by decide, by decide⟩, C.2.2.2.2.1 _ im_M_noLabel, C.2.2.2.2.1 _ se_M_noLabel⟩ H.1 rfl rfl rfl (Nat.le_of_ble_eq_true rfl) d_M_shape_2 ⟨by decide, by decide⟩ ?_
  intro v_2 s_2 M_2 hp_2
  obtain ⟨rfl, rfl, rfl⟩ := hp_2
  show Z _ _ _ _ _ _ _ _ 5 _ [.int (nI (b01 (y.toInt < 1 ∨ ((fs.length : Nat) : Int) < y.toInt)))]
  refine z_if_eq (tgt := 12) C d_M_shape_5 (by decide) (fun c_5 => ?_) (fun c_5 => ?_)
  · have c_5 : ¬ (y.toInt < 1 ∨ ((fs.length : Nat) : Int) < y.toInt) := b01_z c_5
    obtain ⟨n9, hn9, rfl⟩ : ∃ n9, n9 < fs.length ∧ y = nI (n9 + 1) := ⟨y.toInt.toNat - 1, by omega, (xi_eq (by omega)).mpr (by omega)⟩
    have hf9 : fs[n9]? = some fs[n9] := List.getElem?_eq_getElem hn9
    have hr9 := r7 n9 _ hf9
    have hlab : lab fs (nI (n9 + 1)) = some fs[n9] := (lab_at (by omega)).trans hf9
    refine z_aload_n C d_M_shape_12 rfl rfl ?_
    refine z_get C in_M H.1 rfl 9 (by decide) fl_M_17 rfl rfl d_M_shape_13 ?_
    refine z_iload_n C d_M_shape_16 rfl rfl ?_
    refine z_iald C H.2.2.1 0 rfl (n9 + 1) (rfl) (by omega) (by omega) d_M_shape_17 ?_
    refine z_top (y := nI (xsf (n9 + 1))) rfl ?_
    have hs9 : ss[n9]? = some ss[n9] := List.getElem?_eq_getElem (by omega)
    exact z_iret C ⟨by unfold q_shape; rw [hlab]; simp only; rw [nI_clamp (by omega), Nat.add_sub_cancel, List.getD_eq_getElem?_getD, hs9, r8 n9 _ hs9]; rfl, rfl, rfl⟩ d_M_shape_18
  · have c_5 : (y.toInt < 1 ∨ ((fs.length : Nat) : Int) < y.toInt) := b01_ne c_5
    have hlab : lab fs y = none := lab_no (by rintro ⟨i, hi, rfl⟩; rw [nI_toInt (by omega)] at c_5; omega)
    refine z_iconst (v := -1) C d_M_shape_8 (by decide) ?_
    refine z_goto (tgt := 18) C d_M_shape_9 (by decide) ?_
    exact z_iret C ⟨by unfold q_shape; rw [hlab], rfl, rfl⟩ d_M_shape_18
set_option maxHeartbeats 4000000 in
/-- M_bound -/
theorem m_bound (E : zE) (l : Launch) (sz : Nat) (M : zM) {m : Nat} {cs : List Nat} {fs : List (PS × PS)} {ss : List Nat} {nb : Nat → Nat} {sc : Nat} {bad : Int32} (hm : mst E M m (cs, fs, ss, nb, sc, bad)) (y : Int32) : zMet E l y_M_bound c_M_bound 2 (some .int) { frames := 0, cells := 0, slots := 0, locals := 0 } 0 0 [.ref m, .int y] sz M (zRet (some (.int (q_bound ss nb y))) sz M) := by
  obtain ⟨xln, xlen, xlab, xbad, xlev, xtr, xwa, xpl, xfo, xsf, xbf, xF, xG, xP, xQ, xmm, xsl, xkd, xhs, xht, xsg, xdv, H, hr⟩ := id hm
  obtain ⟨r1, r2, r3, r4, r5, r6, r7, r8, r9, r10, r11, r12, r13, r14, r15, r16⟩ := id hr
  refine zMet.ofZ (by decide) (Nat.le_of_ble_eq_true rfl) ?_
  intro X hl hini C
  show Z X E 2 _ 0 0 sz M 0 [(0, .ref m), (1, .int y)] []
  refine z_iload_n C d_M_bound_0 rfl rfl ?_
  refine z_if_lt (tgt := 9) C d_M_bound_1 (by decide) (fun c_1 => ?_) (fun c_1 => ?_)
  · have c_1 : y.toInt < ((0 : Nat) : Int) := (xi_lt (x := y) (k := 0) (by omega)).mp c_1
    refine z_iconst (v := -1) C d_M_bound_9 (by decide) ?_
    have eq_ : q_bound ss nb y = -1 := if_pos (by first | exact Or.inl ((xi_lt (k := 0) (by decide)).mpr c_1) | exact Or.inr ((xi_ge (k := 3) (by decide)).mpr (by omega)))
    exact z_iret C ⟨by rw [eq_], rfl, rfl⟩ d_M_bound_10
  · have c_1 : ¬ y.toInt < ((0 : Nat) : Int) := fun q => c_1 ((xi_lt (x := y) (k := 0) (by omega)).mpr q)
    refine z_iload_n C d_M_bound_4 rfl rfl ?_
    refine z_iconst (v := nI 2) C d_M_bound_5 (by decide) ?_
    refine z_icmp_le (tgt := 11) C d_M_bound_6 (by decide) (fun c_6 => ?_) (fun c_6 => ?_)
    · have c_6 : y.toInt ≤ ((2 : Nat) : Int) := (xi_le (x := y) (k := 2) (by omega)).mp c_6
      obtain ⟨n9, hn9, rfl⟩ : ∃ n9, n9 < 3 ∧ y = nI n9 := ⟨y.toInt.toNat, by omega, (xi_eq (by omega)).mpr (by omega)⟩
      have hb8 := r10 n9 hn9
      refine z_aload_n C d_M_bound_11 rfl rfl ?_
      refine z_get C in_M H.1 rfl 10 (by decide) fl_M_20 rfl rfl d_M_bound_12 ?_
      refine z_iload_n C d_M_bound_15 rfl rfl ?_
      refine z_iald C H.2.2.2.1 0 rfl n9 (rfl) (by omega) (by omega) d_M_bound_16 ?_
      refine z_top (y := nI (xbf n9)) rfl ?_
      refine z_if_ne (tgt := 24) C d_M_bound_17 (by decide) (fun c_17 => ?_) (fun c_17 => ?_)
      · have c_17 : ¬ (xbf n9) = 0 := fun q => c_17 (congrArg nI q)
        refine z_aload_n C d_M_bound_24 rfl rfl ?_
        refine z_get C in_M H.1 rfl 9 (by decide) fl_M_17 rfl rfl d_M_bound_25 ?_
        refine z_aload_n C d_M_bound_28 rfl rfl ?_
        refine z_get C in_M H.1 rfl 10 (by decide) fl_M_20 rfl rfl d_M_bound_29 ?_
        refine z_iload_n C d_M_bound_32 rfl rfl ?_
        refine z_iald C H.2.2.2.1 0 rfl n9 (rfl) (by omega) (by omega) d_M_bound_33 ?_
        refine z_top (y := nI (xbf n9)) rfl ?_
        refine z_iald C H.2.2.1 0 rfl (xbf n9) (rfl) (by omega) (by omega) d_M_bound_34 ?_
        refine z_top (y := nI (xsf (xbf n9))) rfl ?_
        have e1 : ¬ (nI n9 < 0 ∨ 3 ≤ nI n9) := by
          rintro (q | q)
          · have := (nI_ltI (a := n9) (b := 0) (by omega) (by omega)).mp q; omega
          · have := (nI_leI (a := 3) (b := n9) (by omega) (by omega)).mp q; omega
        have hb9 := r10 n9 hn9
        have hs9 : ss[nb n9 - 1]? = some ss[nb n9 - 1] := List.getElem?_eq_getElem (by omega)
        have e8 := r8 _ _ hs9
        rw [show nb n9 - 1 + 1 = xbf n9 by omega] at e8
        have eq_ : q_bound ss nb (nI n9) = nI (xsf (xbf n9)) := by
          unfold q_bound
          rw [if_neg e1, nI_clamp (by omega), if_neg (by omega), List.getD_eq_getElem?_getD, hs9, e8]; rfl
        exact z_iret C ⟨by rw [eq_], rfl, rfl⟩ d_M_bound_35
      · have c_17 : (xbf n9) = 0 := (nI_eq (a := (xbf n9)) (b := 0) (by omega) (by omega)).mp c_17
        refine z_iconst (v := nI 0) C d_M_bound_20 (by decide) ?_
        refine z_goto (tgt := 35) C d_M_bound_21 (by decide) ?_
        have e1 : ¬ (nI n9 < 0 ∨ 3 ≤ nI n9) := by
          rintro (q | q)
          · have := (nI_ltI (a := n9) (b := 0) (by omega) (by omega)).mp q; omega
          · have := (nI_leI (a := 3) (b := n9) (by omega) (by omega)).mp q; omega
        have hb9 := r10 n9 hn9
        have eq_ : q_bound ss nb (nI n9) = 0 := by
          unfold q_bound
          rw [if_neg e1, nI_clamp (by omega), if_pos (by omega)]
        exact z_iret C ⟨by rw [eq_]; rfl, rfl, rfl⟩ d_M_bound_35
    · have c_6 : ¬ y.toInt ≤ ((2 : Nat) : Int) := fun q => c_6 ((xi_le (x := y) (k := 2) (by omega)).mpr q)
      refine z_iconst (v := -1) C d_M_bound_9 (by decide) ?_
      have eq_ : q_bound ss nb y = -1 := if_pos (by first | exact Or.inl ((xi_lt (k := 0) (by decide)).mpr c_1) | exact Or.inr ((xi_ge (k := 3) (by decide)).mpr (by omega)))
      exact z_iret C ⟨by rw [eq_], rfl, rfl⟩ d_M_bound_10
set_option maxHeartbeats 4000000 in
/-- M_degree -/
theorem m_degree0 (E : zE) (l : Launch) (sz : Nat) (M : zM) {m : Nat} {cs : List Nat} {fs : List (PS × PS)} {ss : List Nat} {nb : Nat → Nat} {sc : Nat} {bad : Int32} (hm : mst E M m (cs, fs, ss, nb, sc, bad)) (y : Int32) : zMet E l y_M_degree c_M_degree 3 (some .int) { frames := 1, cells := 0, slots := 0, locals := 23 } 0 0 [.ref m, .int y, .int (nI 0)] sz M (zRet (some (.int (q_degree fs y false))) sz M) := by
  obtain ⟨xln, xlen, xlab, xbad, xlev, xtr, xwa, xpl, xfo, xsf, xbf, xF, xG, xP, xQ, xmm, xsl, xkd, xhs, xht, xsg, xdv, H, hr⟩ := id hm
  obtain ⟨r1, r2, r3, r4, r5, r6, r7, r8, r9, r10, r11, r12, r13, r14, r15, r16⟩ := id hr
  refine zMet.ofZ (by decide) (Nat.le_of_ble_eq_true rfl) ?_
  intro X hl hini C
  show Z X E 3 _ 0 0 sz M 0 [(0, .ref m), (1, .int y), (2, .int (nI 0))] []
  refine z_aload_n C d_M_degree_0 rfl rfl ?_
  refine z_iload_n C d_M_degree_1 rfl rfl ?_
  refine z_callV (rest := []) (n := 1) (As := [.int y]) C (m_noLabel E X.2.1 sz _ hm y) ⟨z_cb C k_M_noLabel ml_M_205 ii_M rfl rfl (by decide +kernel) ⟨by decide, by decide⟩, C.2.2.2.2.1 _ im_M_noLabel, C.2.2.2.2.1 _ se_M_noLabel⟩ H.1 rfl rfl rfl (Nat.le_of_ble_eq_true rfl) d_M_degree_2 ⟨by decide, by decide⟩ ?_
  intro v_2 s_2 M_2 hp_2
  obtain ⟨rfl, rfl, rfl⟩ := hp_2
  show Z _ _ _ _ _ _ _ _ 5 _ [.int (nI (b01 (y.toInt < 1 ∨ ((fs.length : Nat) : Int) < y.toInt)))]
  refine z_if_eq (tgt := 12) C d_M_degree_5 (by decide) (fun c_5 => ?_) (fun c_5 => ?_)
  · have c_5 : ¬ (y.toInt < 1 ∨ ((fs.length : Nat) : Int) < y.toInt) := b01_z c_5
    obtain ⟨n9, hn9, rfl⟩ : ∃ n9, n9 < fs.length ∧ y = nI (n9 + 1) := ⟨y.toInt.toNat - 1, by omega, (xi_eq (by omega)).mpr (by omega)⟩
    have hf9 : fs[n9]? = some fs[n9] := List.getElem?_eq_getElem hn9
    have hr9 := r7 n9 _ hf9
    have hlab : lab fs (nI (n9 + 1)) = some fs[n9] := (lab_at (by omega)).trans hf9
    refine z_aload_n C d_M_degree_12 rfl rfl ?_
    refine z_iload_n C d_M_degree_13 rfl rfl ?_
    refine z_iload_n C d_M_degree_14 rfl rfl ?_
    refine z_callV (rest := []) (n := 2) (As := [.int (nI (n9 + 1)), .int (nI 0)]) C (m_top E X.2.1 sz _ H (n9 + 1) 0 (by omega) (by decide)) ⟨z_cb C k_M_top ml_M_133 ii_M rfl rfl (by decide +kernel) ⟨by decide, by decide⟩, C.2.2.2.2.1 _ im_M_top, C.2.2.2.2.1 _ se_M_top⟩ H.1 rfl rfl rfl (Nat.le_of_ble_eq_true rfl) d_M_degree_15 ⟨by decide, by decide⟩ ?_
    intro v_15 s_15 M_15 hp_15
    obtain ⟨k9, rfl, rfl, rfl, hk9⟩ := hp_15
    have hk9 : isC (pg xF (n9 + 1)) k9 := hk9
    show Z _ _ _ _ _ _ _ _ 18 _ [.int (tI k9)]
    exact z_iret C ⟨by unfold q_degree; rw [hlab]; simp only; rw [← hr9]; exact congrArg (fun k => some (Value.int (tI k))) (cnt_eq hk9), rfl, rfl⟩ d_M_degree_18
  · have c_5 : (y.toInt < 1 ∨ ((fs.length : Nat) : Int) < y.toInt) := b01_ne c_5
    have hlab : lab fs y = none := lab_no (by rintro ⟨i, hi, rfl⟩; rw [nI_toInt (by omega)] at c_5; omega)
    refine z_iconst (v := -1) C d_M_degree_8 (by decide) ?_
    refine z_goto (tgt := 18) C d_M_degree_9 (by decide) ?_
    exact z_iret C ⟨by unfold q_degree; rw [hlab], rfl, rfl⟩ d_M_degree_18
set_option maxHeartbeats 4000000 in
/-- M_coefficient -/
theorem m_coefficient0 (E : zE) (l : Launch) (sz : Nat) (M : zM) {m : Nat} {cs : List Nat} {fs : List (PS × PS)} {ss : List Nat} {nb : Nat → Nat} {sc : Nat} {bad : Int32} (hm : mst E M m (cs, fs, ss, nb, sc, bad)) (y z : Int32) : zMet E l y_M_coefficient c_M_coefficient 4 (some .int) { frames := 1, cells := 0, slots := 0, locals := 21 } 0 0 [.ref m, .int y, .int (nI 0), .int z] sz M (zRet (some (.int (q_coef fs y false z))) sz M) := by
  obtain ⟨xln, xlen, xlab, xbad, xlev, xtr, xwa, xpl, xfo, xsf, xbf, xF, xG, xP, xQ, xmm, xsl, xkd, xhs, xht, xsg, xdv, H, hr⟩ := id hm
  obtain ⟨r1, r2, r3, r4, r5, r6, r7, r8, r9, r10, r11, r12, r13, r14, r15, r16⟩ := id hr
  refine zMet.ofZ (by decide) (Nat.le_of_ble_eq_true rfl) ?_
  intro X hl hini C
  show Z X E 4 _ 0 0 sz M 0 [(0, .ref m), (1, .int y), (2, .int (nI 0)), (3, .int z)] []
  refine z_aload_n C d_M_coefficient_0 rfl rfl ?_
  refine z_iload_n C d_M_coefficient_1 rfl rfl ?_
  refine z_callV (rest := []) (n := 1) (As := [.int y]) C (m_noLabel E X.2.1 sz _ hm y) ⟨z_cb C k_M_noLabel ml_M_205 ii_M rfl rfl (by decide +kernel) ⟨by decide, by decide⟩, C.2.2.2.2.1 _ im_M_noLabel, C.2.2.2.2.1 _ se_M_noLabel⟩ H.1 rfl rfl rfl (Nat.le_of_ble_eq_true rfl) d_M_coefficient_2 ⟨by decide, by decide⟩ ?_
  intro v_2 s_2 M_2 hp_2
  obtain ⟨rfl, rfl, rfl⟩ := hp_2
  show Z _ _ _ _ _ _ _ _ 5 _ [.int (nI (b01 (y.toInt < 1 ∨ ((fs.length : Nat) : Int) < y.toInt)))]
  refine z_if_ne (tgt := 18) C d_M_coefficient_5 (by decide) (fun c_5 => ?_) (fun c_5 => ?_)
  · have c_5 : (y.toInt < 1 ∨ ((fs.length : Nat) : Int) < y.toInt) := b01_ne c_5
    have hlab : lab fs y = none := lab_no (by rintro ⟨i, hi, rfl⟩; rw [nI_toInt (by omega)] at c_5; omega)
    refine z_iconst (v := -1) C d_M_coefficient_18 (by decide) ?_
    have eq_ : q_coef fs y false z = -1 := by
      unfold q_coef
      rcases hl9 : lab fs y with _ | f9
      · rfl
      · first | (exact if_pos (Or.inl ((xi_lt (k := 0) (by decide)).mpr c_9))) | (exact if_pos (Or.inr ((xi_gt (k := 12) (by decide)).mpr (by omega)))) | (rw [hlab] at hl9; cases hl9)
    exact z_iret C ⟨by rw [eq_], rfl, rfl⟩ d_M_coefficient_19
  · have c_5 : ¬ (y.toInt < 1 ∨ ((fs.length : Nat) : Int) < y.toInt) := b01_z c_5
    refine z_iload_n C d_M_coefficient_8 rfl rfl ?_
    refine z_if_lt (tgt := 18) C d_M_coefficient_9 (by decide) (fun c_9 => ?_) (fun c_9 => ?_)
    · have c_9 : z.toInt < ((0 : Nat) : Int) := (xi_lt (x := z) (k := 0) (by omega)).mp c_9
      refine z_iconst (v := -1) C d_M_coefficient_18 (by decide) ?_
      have eq_ : q_coef fs y false z = -1 := by
        unfold q_coef
        rcases hl9 : lab fs y with _ | f9
        · rfl
        · first | (exact if_pos (Or.inl ((xi_lt (k := 0) (by decide)).mpr c_9))) | (exact if_pos (Or.inr ((xi_gt (k := 12) (by decide)).mpr (by omega)))) | (rw [hlab] at hl9; cases hl9)
      exact z_iret C ⟨by rw [eq_], rfl, rfl⟩ d_M_coefficient_19
    · have c_9 : ¬ z.toInt < ((0 : Nat) : Int) := fun q => c_9 ((xi_lt (x := z) (k := 0) (by omega)).mpr q)
      refine z_iload_n C d_M_coefficient_12 rfl rfl ?_
      refine z_bipush (v := nI 12) C d_M_coefficient_13 (by decide) ?_
      refine z_icmp_le (tgt := 20) C d_M_coefficient_15 (by decide) (fun c_15 => ?_) (fun c_15 => ?_)
      · have c_15 : z.toInt ≤ ((12 : Nat) : Int) := (xi_le (x := z) (k := 12) (by omega)).mp c_15
        obtain ⟨n9, hn9, rfl⟩ : ∃ n9, n9 < fs.length ∧ y = nI (n9 + 1) := ⟨y.toInt.toNat - 1, by omega, (xi_eq (by omega)).mpr (by omega)⟩
        have hf9 : fs[n9]? = some fs[n9] := List.getElem?_eq_getElem hn9
        have hr9 := r7 n9 _ hf9
        have hlab : lab fs (nI (n9 + 1)) = some fs[n9] := (lab_at (by omega)).trans hf9
        obtain ⟨j9, hj9, rfl⟩ : ∃ j9, j9 < 13 ∧ z = nI j9 := ⟨z.toInt.toNat, by omega, (xi_eq (by omega)).mpr (by omega)⟩
        refine z_iload_n C d_M_coefficient_20 rfl rfl ?_
        refine z_if_eq (tgt := 38) C d_M_coefficient_21 (by decide) (fun _ => ?_) (fun c_21 => absurd (rfl) c_21)
        refine z_aload_n C d_M_coefficient_38 rfl rfl ?_
        refine z_get C in_M H.1 rfl 11 (by decide) fl_M_23 rfl rfl d_M_coefficient_39 ?_
        refine z_iload_n C d_M_coefficient_42 rfl rfl ?_
        refine z_bipush (v := nI 13) C d_M_coefficient_43 (by decide) ?_
        refine z_imul C d_M_coefficient_45 ?_
        refine z_top (y := nI ((n9 + 1) * 13)) (pk_mul _ _) ?_
        refine z_iload_n C d_M_coefficient_46 rfl rfl ?_
        refine z_iadd C d_M_coefficient_47 ?_
        refine z_top (y := nI (((n9 + 1) * 13) + j9)) (nI_add _ _) ?_
        refine z_iald C H.2.2.2.2.1 0 rfl (((n9 + 1) * 13) + j9) (rfl) (by omega) (by omega) d_M_coefficient_48 ?_
        refine z_top (y := fI (xF (((n9 + 1) * 13) + j9))) rfl ?_
        have e1 : ¬ (nI j9 < 0 ∨ 12 < nI j9) := by
          rintro (q | q)
          · have := (nI_ltI (a := j9) (b := 0) (by omega) (by omega)).mp q; omega
          · have := (nI_ltI (a := 12) (b := j9) (by omega) (by omega)).mp q; omega
        exact z_iret C ⟨by unfold q_coef; rw [hlab]; simp only; rw [if_neg e1, nI_clamp (by omega), ← hr9, ← pg_at (F := xF) (r := n9 + 1) hj9]; rfl, rfl, rfl⟩ d_M_coefficient_49
      · have c_15 : ¬ z.toInt ≤ ((12 : Nat) : Int) := fun q => c_15 ((xi_le (x := z) (k := 12) (by omega)).mpr q)
        refine z_iconst (v := -1) C d_M_coefficient_18 (by decide) ?_
        have eq_ : q_coef fs y false z = -1 := by
          unfold q_coef
          rcases hl9 : lab fs y with _ | f9
          · rfl
          · first | (exact if_pos (Or.inl ((xi_lt (k := 0) (by decide)).mpr c_9))) | (exact if_pos (Or.inr ((xi_gt (k := 12) (by decide)).mpr (by omega)))) | (rw [hlab] at hl9; cases hl9)
        exact z_iret C ⟨by rw [eq_], rfl, rfl⟩ d_M_coefficient_19
set_option maxHeartbeats 4000000 in
/-- M_degree -/
theorem m_degree1 (E : zE) (l : Launch) (sz : Nat) (M : zM) {m : Nat} {cs : List Nat} {fs : List (PS × PS)} {ss : List Nat} {nb : Nat → Nat} {sc : Nat} {bad : Int32} (hm : mst E M m (cs, fs, ss, nb, sc, bad)) (y : Int32) : zMet E l y_M_degree c_M_degree 3 (some .int) { frames := 1, cells := 0, slots := 0, locals := 23 } 0 0 [.ref m, .int y, .int (nI 1)] sz M (zRet (some (.int (q_degree fs y true))) sz M) := by
  obtain ⟨xln, xlen, xlab, xbad, xlev, xtr, xwa, xpl, xfo, xsf, xbf, xF, xG, xP, xQ, xmm, xsl, xkd, xhs, xht, xsg, xdv, H, hr⟩ := id hm
  obtain ⟨r1, r2, r3, r4, r5, r6, r7, r8, r9, r10, r11, r12, r13, r14, r15, r16⟩ := id hr
  refine zMet.ofZ (by decide) (Nat.le_of_ble_eq_true rfl) ?_
  intro X hl hini C
  show Z X E 3 _ 0 0 sz M 0 [(0, .ref m), (1, .int y), (2, .int (nI 1))] []
  refine z_aload_n C d_M_degree_0 rfl rfl ?_
  refine z_iload_n C d_M_degree_1 rfl rfl ?_
  refine z_callV (rest := []) (n := 1) (As := [.int y]) C (m_noLabel E X.2.1 sz _ hm y) ⟨z_cb C k_M_noLabel ml_M_205 ii_M rfl rfl (by decide +kernel) ⟨by decide, by decide⟩, C.2.2.2.2.1 _ im_M_noLabel, C.2.2.2.2.1 _ se_M_noLabel⟩ H.1 rfl rfl rfl (Nat.le_of_ble_eq_true rfl) d_M_degree_2 ⟨by decide, by decide⟩ ?_
  intro v_2 s_2 M_2 hp_2
  obtain ⟨rfl, rfl, rfl⟩ := hp_2
  show Z _ _ _ _ _ _ _ _ 5 _ [.int (nI (b01 (y.toInt < 1 ∨ ((fs.length : Nat) : Int) < y.toInt)))]
  refine z_if_eq (tgt := 12) C d_M_degree_5 (by decide) (fun c_5 => ?_) (fun c_5 => ?_)
  · have c_5 : ¬ (y.toInt < 1 ∨ ((fs.length : Nat) : Int) < y.toInt) := b01_z c_5
    obtain ⟨n9, hn9, rfl⟩ : ∃ n9, n9 < fs.length ∧ y = nI (n9 + 1) := ⟨y.toInt.toNat - 1, by omega, (xi_eq (by omega)).mpr (by omega)⟩
    have hf9 : fs[n9]? = some fs[n9] := List.getElem?_eq_getElem hn9
    have hr9 := r7 n9 _ hf9
    have hlab : lab fs (nI (n9 + 1)) = some fs[n9] := (lab_at (by omega)).trans hf9
    refine z_aload_n C d_M_degree_12 rfl rfl ?_
    refine z_iload_n C d_M_degree_13 rfl rfl ?_
    refine z_iload_n C d_M_degree_14 rfl rfl ?_
    refine z_callV (rest := []) (n := 2) (As := [.int (nI (n9 + 1)), .int (nI 1)]) C (m_top E X.2.1 sz _ H (n9 + 1) 1 (by omega) (by decide)) ⟨z_cb C k_M_top ml_M_133 ii_M rfl rfl (by decide +kernel) ⟨by decide, by decide⟩, C.2.2.2.2.1 _ im_M_top, C.2.2.2.2.1 _ se_M_top⟩ H.1 rfl rfl rfl (Nat.le_of_ble_eq_true rfl) d_M_degree_15 ⟨by decide, by decide⟩ ?_
    intro v_15 s_15 M_15 hp_15
    obtain ⟨k9, rfl, rfl, rfl, hk9⟩ := hp_15
    have hk9 : isC (pg xG (n9 + 1)) k9 := hk9
    show Z _ _ _ _ _ _ _ _ 18 _ [.int (tI k9)]
    exact z_iret C ⟨by unfold q_degree; rw [hlab]; simp only; rw [← hr9]; exact congrArg (fun k => some (Value.int (tI k))) (cnt_eq hk9), rfl, rfl⟩ d_M_degree_18
  · have c_5 : (y.toInt < 1 ∨ ((fs.length : Nat) : Int) < y.toInt) := b01_ne c_5
    have hlab : lab fs y = none := lab_no (by rintro ⟨i, hi, rfl⟩; rw [nI_toInt (by omega)] at c_5; omega)
    refine z_iconst (v := -1) C d_M_degree_8 (by decide) ?_
    refine z_goto (tgt := 18) C d_M_degree_9 (by decide) ?_
    exact z_iret C ⟨by unfold q_degree; rw [hlab], rfl, rfl⟩ d_M_degree_18
set_option maxHeartbeats 4000000 in
/-- M_coefficient -/
theorem m_coefficient1 (E : zE) (l : Launch) (sz : Nat) (M : zM) {m : Nat} {cs : List Nat} {fs : List (PS × PS)} {ss : List Nat} {nb : Nat → Nat} {sc : Nat} {bad : Int32} (hm : mst E M m (cs, fs, ss, nb, sc, bad)) (y z : Int32) : zMet E l y_M_coefficient c_M_coefficient 4 (some .int) { frames := 1, cells := 0, slots := 0, locals := 21 } 0 0 [.ref m, .int y, .int (nI 1), .int z] sz M (zRet (some (.int (q_coef fs y true z))) sz M) := by
  obtain ⟨xln, xlen, xlab, xbad, xlev, xtr, xwa, xpl, xfo, xsf, xbf, xF, xG, xP, xQ, xmm, xsl, xkd, xhs, xht, xsg, xdv, H, hr⟩ := id hm
  obtain ⟨r1, r2, r3, r4, r5, r6, r7, r8, r9, r10, r11, r12, r13, r14, r15, r16⟩ := id hr
  refine zMet.ofZ (by decide) (Nat.le_of_ble_eq_true rfl) ?_
  intro X hl hini C
  show Z X E 4 _ 0 0 sz M 0 [(0, .ref m), (1, .int y), (2, .int (nI 1)), (3, .int z)] []
  refine z_aload_n C d_M_coefficient_0 rfl rfl ?_
  refine z_iload_n C d_M_coefficient_1 rfl rfl ?_
  refine z_callV (rest := []) (n := 1) (As := [.int y]) C (m_noLabel E X.2.1 sz _ hm y) ⟨z_cb C k_M_noLabel ml_M_205 ii_M rfl rfl (by decide +kernel) ⟨by decide, by decide⟩, C.2.2.2.2.1 _ im_M_noLabel, C.2.2.2.2.1 _ se_M_noLabel⟩ H.1 rfl rfl rfl (Nat.le_of_ble_eq_true rfl) d_M_coefficient_2 ⟨by decide, by decide⟩ ?_
  intro v_2 s_2 M_2 hp_2
  obtain ⟨rfl, rfl, rfl⟩ := hp_2
  show Z _ _ _ _ _ _ _ _ 5 _ [.int (nI (b01 (y.toInt < 1 ∨ ((fs.length : Nat) : Int) < y.toInt)))]
  refine z_if_ne (tgt := 18) C d_M_coefficient_5 (by decide) (fun c_5 => ?_) (fun c_5 => ?_)
  · have c_5 : (y.toInt < 1 ∨ ((fs.length : Nat) : Int) < y.toInt) := b01_ne c_5
    have hlab : lab fs y = none := lab_no (by rintro ⟨i, hi, rfl⟩; rw [nI_toInt (by omega)] at c_5; omega)
    refine z_iconst (v := -1) C d_M_coefficient_18 (by decide) ?_
    have eq_ : q_coef fs y true z = -1 := by
      unfold q_coef
      rcases hl9 : lab fs y with _ | f9
      · rfl
      · first | (exact if_pos (Or.inl ((xi_lt (k := 0) (by decide)).mpr c_9))) | (exact if_pos (Or.inr ((xi_gt (k := 12) (by decide)).mpr (by omega)))) | (rw [hlab] at hl9; cases hl9)
    exact z_iret C ⟨by rw [eq_], rfl, rfl⟩ d_M_coefficient_19
  · have c_5 : ¬ (y.toInt < 1 ∨ ((fs.length : Nat) : Int) < y.toInt) := b01_z c_5
    refine z_iload_n C d_M_coefficient_8 rfl rfl ?_
    refine z_if_lt (tgt := 18) C d_M_coefficient_9 (by decide) (fun c_9 => ?_) (fun c_9 => ?_)
    · have c_9 : z.toInt < ((0 : Nat) : Int) := (xi_lt (x := z) (k := 0) (by omega)).mp c_9
      refine z_iconst (v := -1) C d_M_coefficient_18 (by decide) ?_
      have eq_ : q_coef fs y true z = -1 := by
        unfold q_coef
        rcases hl9 : lab fs y with _ | f9
        · rfl
        · first | (exact if_pos (Or.inl ((xi_lt (k := 0) (by decide)).mpr c_9))) | (exact if_pos (Or.inr ((xi_gt (k := 12) (by decide)).mpr (by omega)))) | (rw [hlab] at hl9; cases hl9)
      exact z_iret C ⟨by rw [eq_], rfl, rfl⟩ d_M_coefficient_19
    · have c_9 : ¬ z.toInt < ((0 : Nat) : Int) := fun q => c_9 ((xi_lt (x := z) (k := 0) (by omega)).mpr q)
      refine z_iload_n C d_M_coefficient_12 rfl rfl ?_
      refine z_bipush (v := nI 12) C d_M_coefficient_13 (by decide) ?_
      refine z_icmp_le (tgt := 20) C d_M_coefficient_15 (by decide) (fun c_15 => ?_) (fun c_15 => ?_)
      · have c_15 : z.toInt ≤ ((12 : Nat) : Int) := (xi_le (x := z) (k := 12) (by omega)).mp c_15
        obtain ⟨n9, hn9, rfl⟩ : ∃ n9, n9 < fs.length ∧ y = nI (n9 + 1) := ⟨y.toInt.toNat - 1, by omega, (xi_eq (by omega)).mpr (by omega)⟩
        have hf9 : fs[n9]? = some fs[n9] := List.getElem?_eq_getElem hn9
        have hr9 := r7 n9 _ hf9
        have hlab : lab fs (nI (n9 + 1)) = some fs[n9] := (lab_at (by omega)).trans hf9
        obtain ⟨j9, hj9, rfl⟩ : ∃ j9, j9 < 13 ∧ z = nI j9 := ⟨z.toInt.toNat, by omega, (xi_eq (by omega)).mpr (by omega)⟩
        refine z_iload_n C d_M_coefficient_20 rfl rfl ?_
        refine z_if_eq (tgt := 38) C d_M_coefficient_21 (by decide) (fun c_21 => absurd c_21 (by decide)) (fun _ => ?_)
        refine z_aload_n C d_M_coefficient_24 rfl rfl ?_
        refine z_get C in_M H.1 rfl 12 (by decide) fl_M_26 rfl rfl d_M_coefficient_25 ?_
        refine z_iload_n C d_M_coefficient_28 rfl rfl ?_
        refine z_bipush (v := nI 13) C d_M_coefficient_29 (by decide) ?_
        refine z_imul C d_M_coefficient_31 ?_
        refine z_top (y := nI ((n9 + 1) * 13)) (pk_mul _ _) ?_
        refine z_iload_n C d_M_coefficient_32 rfl rfl ?_
        refine z_iadd C d_M_coefficient_33 ?_
        refine z_top (y := nI (((n9 + 1) * 13) + j9)) (nI_add _ _) ?_
        refine z_iald C H.2.2.2.2.2.1 0 rfl (((n9 + 1) * 13) + j9) (rfl) (by omega) (by omega) d_M_coefficient_34 ?_
        refine z_top (y := fI (xG (((n9 + 1) * 13) + j9))) rfl ?_
        refine z_goto (tgt := 49) C d_M_coefficient_35 (by decide) ?_
        have e1 : ¬ (nI j9 < 0 ∨ 12 < nI j9) := by
          rintro (q | q)
          · have := (nI_ltI (a := j9) (b := 0) (by omega) (by omega)).mp q; omega
          · have := (nI_ltI (a := 12) (b := j9) (by omega) (by omega)).mp q; omega
        exact z_iret C ⟨by unfold q_coef; rw [hlab]; simp only; rw [if_neg e1, nI_clamp (by omega), ← hr9, ← pg_at (F := xG) (r := n9 + 1) hj9]; rfl, rfl, rfl⟩ d_M_coefficient_49
      · have c_15 : ¬ z.toInt ≤ ((12 : Nat) : Int) := fun q => c_15 ((xi_le (x := z) (k := 12) (by omega)).mpr q)
        refine z_iconst (v := -1) C d_M_coefficient_18 (by decide) ?_
        have eq_ : q_coef fs y true z = -1 := by
          unfold q_coef
          rcases hl9 : lab fs y with _ | f9
          · rfl
          · first | (exact if_pos (Or.inl ((xi_lt (k := 0) (by decide)).mpr c_9))) | (exact if_pos (Or.inr ((xi_gt (k := 12) (by decide)).mpr (by omega)))) | (rw [hlab] at hl9; cases hl9)
        exact z_iret C ⟨by rw [eq_], rfl, rfl⟩ d_M_coefficient_19
