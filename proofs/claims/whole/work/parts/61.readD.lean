set_option maxHeartbeats 4000000 in
/-- read -/
theorem r_read (E : zE) (l : Launch) (sz : Nat) (M : zM) {r p : Nat} {cs : List Nat} {o a b : Nat → Nat} {n i k w y h : Nat} {ps : List (Nat × Int)} {t : Int32} (H : zrd E M r p cs (o, a, b, n, i, k, w, y, h, ps, t)) : zMet E l y_R_read c_R_read 2 (some .int) { frames := 5, cells := 0, slots := 0, locals := 104 } 0 0 [.ref r] sz M (fun v s M' => some (.int (r_fin (r_loop cs 32 (r_start cs o a b y w h))).1) = v ∧ sz = s ∧ zoutR M M' (p + 2) (r + 4) ∧ zrd E M' r p cs (r_fin (r_loop cs 32 (r_start cs o a b y w h))).2) := by
  obtain ⟨h0, h1, h2, h3, hg, hz, hpr, bo, ba, bb, bn, bk, bw, b_y, bh⟩ := id H
  refine zMet.ofZ (by decide) (Nat.le_of_ble_eq_true rfl) ?_
  intro X hl hini C
  have fin : ∀ (M1 : zM) (j : Nat) (s : RS), zoutR M M1 (p + 2) (r + 4) → zrd E M1 r p cs s → s.2.2.2.2.1 ≤ 2 ^ 20 → r_loop cs 32 (r_start cs o a b y w h) = s → Z X E 2 (zQ X E 0 0 (fun v s M' => some (.int (r_fin (r_loop cs 32 (r_start cs o a b y w h))).1) = v ∧ sz = s ∧ zoutR M M' (p + 2) (r + 4) ∧ zrd E M' r p cs (r_fin (r_loop cs 32 (r_start cs o a b y w h))).2)) 0 0 sz M1 105 [(0, .ref r), (1, .int (nI j))] [] := by
    intro M1 j s hfr1 H1 hi1 e1
    obtain ⟨ox, ax, bx, nx, ix, kx, wx, yx, hx, psx, tx⟩ := s
    have hi1 : ix ≤ 2 ^ 20 := hi1
    obtain ⟨h0_1, h1_1, h2_1, h3_1, hg_1, hz_1, hpr_1, bo_1, ba_1, bb_1, bn_1, bk_1, bw_1, b_y_1, bh_1⟩ := id H1
    refine z_aload_n C d_R_read_105 rfl rfl ?_
    refine z_get C in_R h0_1 rfl 7 (by decide) fl_R_39 rfl rfl d_R_read_106 ?_
    refine z_if_ne (tgt := 126) C d_R_read_109 (by decide) (fun c_109 => ?_) (fun c_109 => ?_)
    · have c_109 : ¬ kx = 0 := fun q => c_109 (congrArg nI q)
      refine z_aload_n C d_R_read_126 rfl rfl ?_
      refine z_get C in_R h0_1 rfl 6 (by decide) fl_R_35 rfl rfl d_R_read_127 ?_
      have eend : (r_fin (r_loop cs 32 (r_start cs o a b y w h))) = (nI ix, (ox, ax, bx, nx, ix, kx, wx, yx, hx, psx, tx)) := by
        rw [e1]; exact if_pos (by omega)
      exact z_iret C ⟨by rw [eend], rfl, hfr1, by rw [eend]; exact H1⟩ d_R_read_130
    · have c_109 : kx = 0 := (nI_eq (a := kx) (b := 0) (by omega) (by omega)).mp c_109
      refine z_aload_n C d_R_read_112 rfl rfl ?_
      refine z_get C in_R h0_1 rfl 8 (by decide) fl_R_57 rfl rfl d_R_read_113 ?_
      refine z_if_ne (tgt := 126) C d_R_read_116 (by decide) (fun c_116 => ?_) (fun c_116 => ?_)
      · have c_116 : ¬ wx = 0 := fun q => c_116 (congrArg nI q)
        refine z_aload_n C d_R_read_126 rfl rfl ?_
        refine z_get C in_R h0_1 rfl 6 (by decide) fl_R_35 rfl rfl d_R_read_127 ?_
        have eend : (r_fin (r_loop cs 32 (r_start cs o a b y w h))) = (nI ix, (ox, ax, bx, nx, ix, kx, wx, yx, hx, psx, tx)) := by
          rw [e1]; exact if_pos (by omega)
        exact z_iret C ⟨by rw [eend], rfl, hfr1, by rw [eend]; exact H1⟩ d_R_read_130
      · have c_116 : wx = 0 := (nI_eq (a := wx) (b := 0) (by omega) (by omega)).mp c_116
        refine z_aload_n C d_R_read_119 rfl rfl ?_
        refine z_get C in_R h0_1 rfl 3 (by decide) fl_R_43 rfl rfl d_R_read_120 ?_
        refine z_if_le (tgt := 131) C d_R_read_123 (by decide) (fun c_123 => ?_) (fun c_123 => ?_)
        · have c_123 : nx ≤ 0 := (nI_leI (a := nx) (b := 0) (by omega) (by omega)).mp c_123
          refine z_aload_n C d_R_read_131 rfl rfl ?_
          refine z_callV (rest := []) (n := 0) (As := []) C (r_finishTerm E X.2.1 sz _ H1) ⟨z_cb C k_R_finishTerm ml_R_71 ii_R rfl rfl (by decide +kernel) ⟨by decide, by decide⟩, C.2.2.2.2.1 _ im_R_finishTerm, C.2.2.2.2.1 _ se_R_finishTerm⟩ H1.1 rfl rfl rfl (Nat.le_of_ble_eq_true rfl) d_R_read_132 ⟨by decide, by decide⟩ ?_
          intro v_9 s_9 M_9 hp_9
          obtain ⟨rfl, rfl, hfr_9, af, bf, pf, ef, H_9⟩ := hp_9
          have eend : (r_fin (r_loop cs 32 (r_start cs o a b y w h))) = (-1, (ox, af, bf, nx, ix, kx, wx, yx, hx, pf, tx)) := by
            rw [e1, ← ef]; exact if_neg (by omega)
          show Z _ _ _ _ _ _ _ _ 135 _ []
          refine z_iconst (v := -1) C d_R_read_135 (by decide) ?_
          exact z_iret C ⟨by rw [eend], rfl, zoutR_tr hfr1 hfr_9, by rw [eend]; exact H_9⟩ d_R_read_136
        · have c_123 : 0 < nx := Nat.not_le.mp (fun q => c_123 ((nI_leI (a := nx) (b := 0) (by omega) (by omega)).mpr q))
          refine z_aload_n C d_R_read_126 rfl rfl ?_
          refine z_get C in_R h0_1 rfl 6 (by decide) fl_R_35 rfl rfl d_R_read_127 ?_
          have eend : (r_fin (r_loop cs 32 (r_start cs o a b y w h))) = (nI ix, (ox, ax, bx, nx, ix, kx, wx, yx, hx, psx, tx)) := by
            rw [e1]; exact if_pos (by omega)
          exact z_iret C ⟨by rw [eend], rfl, hfr1, by rw [eend]; exact H1⟩ d_R_read_130
  have loop : ∀ (d j : Nat) (M1 : zM) (s : RS), j + d = 32 → zoutR M M1 (p + 2) (r + 4) → zrd E M1 r p cs s → s.2.2.2.2.1 ≤ 2 ^ 20 → r_loop cs 32 (r_start cs o a b y w h) = r_loop cs d s → Z X E 2 (zQ X E 0 0 (fun v s M' => some (.int (r_fin (r_loop cs 32 (r_start cs o a b y w h))).1) = v ∧ sz = s ∧ zoutR M M' (p + 2) (r + 4) ∧ zrd E M' r p cs (r_fin (r_loop cs 32 (r_start cs o a b y w h))).2)) 0 0 sz M1 32 [(0, .ref r), (1, .int (nI j))] [] := by
    intro d
    induction d with
    | zero =>
      intro j M1 s hj hfr1 H1 hi1 e1
      refine z_iload_n C d_R_read_32 rfl rfl ?_
      refine z_bipush (v := nI 32) C d_R_read_33 (by decide) ?_
      refine z_icmp_ge (tgt := 105) C d_R_read_35 (by decide) (fun _ => ?_) (fun c_35 => absurd ((nI_leI (a := 32) (b := j) (by omega) (by omega)).mpr (by omega)) c_35)
      exact fin M1 j s hfr1 H1 hi1 e1
    | succ d ih =>
      intro j M1 s hj hfr1 H1 hi1 e1
      obtain ⟨ox, ax, bx, nx, ix, kx, wx, yx, hx, psx, tx⟩ := s
      have hi1 : ix ≤ 2 ^ 20 := hi1
      obtain ⟨h0_1, h1_1, h2_1, h3_1, hg_1, hz_1, hpr_1, bo_1, ba_1, bb_1, bn_1, bk_1, bw_1, b_y_1, bh_1⟩ := id H1
      have hlen := zln_len (zrd_l H1)
      have hlp := zrd_p H1
      refine z_iload_n C d_R_read_32 rfl rfl ?_
      refine z_bipush (v := nI 32) C d_R_read_33 (by decide) ?_
      refine z_icmp_ge (tgt := 105) C d_R_read_35 (by decide) (fun c_35 => absurd c_35 (fun q => absurd ((nI_leI (a := 32) (b := j) (by omega) (by omega)).mp q) (by omega))) (fun _ => ?_)
      refine z_aload_n C d_R_read_38 rfl rfl ?_
      refine z_get C in_R h0_1 rfl 6 (by decide) fl_R_35 rfl rfl d_R_read_39 ?_
      refine z_aload_n C d_R_read_42 rfl rfl ?_
      refine z_get C in_R h0_1 rfl 4 (by decide) fl_R_22 rfl rfl d_R_read_43 ?_
      refine z_getN C in_L hlp rfl 1 (by decide) fl_R_52 rfl rfl d_R_read_46 ?_
      refine z_icmp_ge (tgt := 105) C d_R_read_49 (by decide) (fun c_49 => ?_) (fun c_49 => ?_)
      · have c_49 : cs.length ≤ ix := (nI_leI (a := cs.length) (b := ix) (by omega) (by omega)).mp c_49
        exact fin M1 j _ hfr1 H1 hi1 (by rw [e1]; exact if_neg (by omega))
      · have c_49 : ix < cs.length := Nat.not_le.mp (fun q => c_49 ((nI_leI (a := cs.length) (b := ix) (by omega) (by omega)).mpr q))
        refine z_aload_n C d_R_read_52 rfl rfl ?_
        refine z_get C in_R h0_1 rfl 7 (by decide) fl_R_39 rfl rfl d_R_read_53 ?_
        refine z_if_ne (tgt := 105) C d_R_read_56 (by decide) (fun c_56 => ?_) (fun c_56 => ?_)
        · have c_56 : ¬ kx = 0 := fun q => c_56 (congrArg nI q)
          exact fin M1 j _ hfr1 H1 hi1 (by rw [e1]; exact if_neg (by omega))
        · have c_56 : kx = 0 := (nI_eq (a := kx) (b := 0) (by omega) (by omega)).mp c_56
          refine z_aload_n C d_R_read_59 rfl rfl ?_
          refine z_get C in_R h0_1 rfl 8 (by decide) fl_R_57 rfl rfl d_R_read_60 ?_
          refine z_if_eq (tgt := 84) C d_R_read_63 (by decide) (fun c_63 => ?_) (fun c_63 => ?_)
          · have c_63 : wx = 0 := (nI_eq (a := wx) (b := 0) (by omega) (by omega)).mp c_63
            refine z_aload_n C d_R_read_84 rfl rfl ?_
            refine z_aload_n C d_R_read_85 rfl rfl ?_
            refine z_get C in_R h0_1 rfl 4 (by decide) fl_R_22 rfl rfl d_R_read_86 ?_
            refine z_aload_n C d_R_read_89 rfl rfl ?_
            refine z_get C in_R h0_1 rfl 6 (by decide) fl_R_35 rfl rfl d_R_read_90 ?_
            refine z_callV (rest := [.ref r]) (n := 1) (As := [.int (nI ix)]) C (l_at E X.2.1 sz _ (zrd_l H1) ix (by omega)) ⟨z_cb C k_L_at ml_R_60 ii_L rfl rfl (by decide +kernel) ⟨by decide, by decide⟩, C.2.2.2.2.1 _ im_L_at, C.2.2.2.2.1 _ se_L_at⟩ hlp rfl rfl rfl (Nat.le_of_ble_eq_true rfl) d_R_read_93 ⟨by decide, by decide⟩ ?_
            intro v_8 s_8 M_8 hp_8
            obtain ⟨rfl, rfl, rfl⟩ := hp_8
            show Z _ _ _ _ _ _ _ _ 96 _ [.int (nI (cs.getD ix 0)), .ref r]
            refine z_callV (rest := []) (n := 1) (As := [.int (nI (cs.getD ix 0))]) C (r_readAfterAtom E X.2.1 sz _ H1 (cs.getD ix 0) (zln_lt (zrd_l H1) ix) (by omega)) ⟨z_cb C k_R_readAfterAtom ml_R_68 ii_R rfl rfl (by decide +kernel) ⟨by decide, by decide⟩, C.2.2.2.2.1 _ im_R_readAfterAtom, C.2.2.2.2.1 _ se_R_readAfterAtom⟩ H1.1 rfl rfl rfl (Nat.le_of_ble_eq_true rfl) d_R_read_96 ⟨by decide, by decide⟩ ?_
            intro v_9 s_9 M_9 hp_9
            obtain ⟨rfl, rfl, hfr_9, H_9⟩ := hp_9
            have es : r_step cs (ox, ax, bx, nx, ix, kx, wx, yx, hx, psx, tx) = r_aft cs (cs.getD ix 0) (ox, ax, bx, nx, ix, kx, wx, yx, hx, psx, tx) := if_neg (by omega)
            show Z _ _ _ _ _ _ _ _ 99 _ []
            refine z_iinc (v := nI (j + 1)) (L' := [(0, .ref r), (1, .int (nI (j + 1)))]) C d_R_read_99 rfl (nI_add _ 1) (by decide) rfl ?_
            refine z_goto (tgt := 32) C d_R_read_102 (by decide) ?_
            refine ih (j + 1) M_9 _ (by omega) (zoutR_tr hfr1 hfr_9) (by rw [← es] at H_9; exact H_9) ?_ (by rw [e1]; exact if_pos ⟨by omega, by omega⟩)
            exact Nat.le_trans (r_step_i cs (ox, ax, bx, nx, ix, kx, wx, yx, hx, psx, tx)) (by show ix + 10 ≤ _; omega)
          · have c_63 : ¬ wx = 0 := fun q => c_63 (congrArg nI q)
            refine z_aload_n C d_R_read_66 rfl rfl ?_
            refine z_aload_n C d_R_read_67 rfl rfl ?_
            refine z_get C in_R h0_1 rfl 4 (by decide) fl_R_22 rfl rfl d_R_read_68 ?_
            refine z_aload_n C d_R_read_71 rfl rfl ?_
            refine z_get C in_R h0_1 rfl 6 (by decide) fl_R_35 rfl rfl d_R_read_72 ?_
            refine z_callV (rest := [.ref r]) (n := 1) (As := [.int (nI ix)]) C (l_at E X.2.1 sz _ (zrd_l H1) ix (by omega)) ⟨z_cb C k_L_at ml_R_60 ii_L rfl rfl (by decide +kernel) ⟨by decide, by decide⟩, C.2.2.2.2.1 _ im_L_at, C.2.2.2.2.1 _ se_L_at⟩ hlp rfl rfl rfl (Nat.le_of_ble_eq_true rfl) d_R_read_75 ⟨by decide, by decide⟩ ?_
            intro v_8 s_8 M_8 hp_8
            obtain ⟨rfl, rfl, rfl⟩ := hp_8
            show Z _ _ _ _ _ _ _ _ 78 _ [.int (nI (cs.getD ix 0)), .ref r]
            refine z_callV (rest := []) (n := 1) (As := [.int (nI (cs.getD ix 0))]) C (r_readBeforeAtom E X.2.1 sz _ H1 (cs.getD ix 0) (zln_lt (zrd_l H1) ix) (by omega)) ⟨z_cb C k_R_readBeforeAtom ml_R_64 ii_R rfl rfl (by decide +kernel) ⟨by decide, by decide⟩, C.2.2.2.2.1 _ im_R_readBeforeAtom, C.2.2.2.2.1 _ se_R_readBeforeAtom⟩ H1.1 rfl rfl rfl (Nat.le_of_ble_eq_true rfl) d_R_read_78 ⟨by decide, by decide⟩ ?_
            intro v_9 s_9 M_9 hp_9
            obtain ⟨rfl, rfl, hfr_9, H_9⟩ := hp_9
            have es : r_step cs (ox, ax, bx, nx, ix, kx, wx, yx, hx, psx, tx) = r_bef cs (cs.getD ix 0) (ox, ax, bx, nx, ix, kx, wx, yx, hx, psx, tx) := if_pos (by omega)
            show Z _ _ _ _ _ _ _ _ 81 _ []
            refine z_goto (tgt := 99) C d_R_read_81 (by decide) ?_
            refine z_iinc (v := nI (j + 1)) (L' := [(0, .ref r), (1, .int (nI (j + 1)))]) C d_R_read_99 rfl (nI_add _ 1) (by decide) rfl ?_
            refine z_goto (tgt := 32) C d_R_read_102 (by decide) ?_
            refine ih (j + 1) M_9 _ (by omega) (zoutR_tr hfr1 hfr_9) (by rw [← es] at H_9; exact H_9) ?_ (by rw [e1]; exact if_pos ⟨by omega, by omega⟩)
            exact Nat.le_trans (r_step_i cs (ox, ax, bx, nx, ix, kx, wx, yx, hx, psx, tx)) (by show ix + 10 ≤ _; omega)
  show Z X E 2 _ 0 0 sz M 0 [(0, .ref r)] []
  refine z_aload_n C d_R_read_0 rfl rfl ?_
  refine z_get C in_R h0 rfl 5 (by decide) fl_R_26 rfl rfl d_R_read_1 ?_
  refine z_callV (rest := []) (n := 0) (As := []) C (g_clear E X.2.1 sz _ hg) ⟨z_cb C k_G_clear ml_R_30 ii_G rfl rfl (by decide +kernel) ⟨by decide, by decide⟩, C.2.2.2.2.1 _ im_G_clear, C.2.2.2.2.1 _ se_G_clear⟩ (zrd_g H) rfl rfl rfl (Nat.le_of_ble_eq_true rfl) d_R_read_4 ⟨by decide, by decide⟩ ?_
  intro v_9 s_9 M9 hp_9
  obtain ⟨rfl, rfl, ho9, hG9⟩ := hp_9
  have hc9 : zrd E M9 r p cs (o, a, b, n, i, k, w, y, h, [], -1) := ⟨(ho9 _ (by omega)).trans h0, (ho9 _ (by omega)).trans h1, (ho9 _ (by omega)).trans h2, (ho9 _ (by omega)).trans h3, hG9, zln_oR ho9 hz (by omega), hpr, bo, ba, bb, bn, bk, bw, b_y, bh⟩
  have hfr9 : zoutR M M9 (p + 2) (r + 4) := zoutR_w ho9 (by omega) (by omega)
  obtain ⟨h0_0, h1_0, h2_0, h3_0, hg_0, hz_0, hpr_0, bo_0, ba_0, bb_0, bn_0, bk_0, bw_0, b_y_0, bh_0⟩ := id hc9
  show Z _ _ _ _ _ _ _ _ 7 _ []
  refine z_aload_n C d_R_read_7 rfl rfl ?_
  refine z_iconst (v := nI 0) C d_R_read_8 (by decide) ?_
  refine z_put C in_R ty_R tok_R nm_R h0_0 rfl 6 (by decide) fl_R_35 rfl rfl rfl (rfl) (rfl) (Nat.le_of_ble_eq_true rfl) d_R_read_9 ?_
  show Z _ _ _ _ _ _ _ (zU M9 r (.inr (5, [.ref (r + 1), .ref (r + 2), .ref (r + 3), .int (nI n), .ref p, .ref (p + 2), .int (nI 0), .int (nI k), .int (nI w), .int (nI y), .int (nI h)]))) _ _ _
  refine z_aload_n C d_R_read_12 rfl rfl ?_
  refine z_iconst (v := nI 0) C d_R_read_13 (by decide) ?_
  refine z_put C in_R ty_R tok_R nm_R zU_eq rfl 7 (by decide) fl_R_39 rfl rfl rfl (rfl) (rfl) (Nat.le_of_ble_eq_true rfl) d_R_read_14 ?_
  show Z _ _ _ _ _ _ _ (zU (zU M9 r (.inr (5, [.ref (r + 1), .ref (r + 2), .ref (r + 3), .int (nI n), .ref p, .ref (p + 2), .int (nI 0), .int (nI k), .int (nI w), .int (nI y), .int (nI h)]))) r (.inr (5, [.ref (r + 1), .ref (r + 2), .ref (r + 3), .int (nI n), .ref p, .ref (p + 2), .int (nI 0), .int (nI 0), .int (nI w), .int (nI y), .int (nI h)]))) _ _ _
  refine z_world zU_uu ?_
  refine z_aload_n C d_R_read_17 rfl rfl ?_
  refine z_iconst (v := nI 0) C d_R_read_18 (by decide) ?_
  refine z_put C in_R ty_R tok_R nm_R zU_eq rfl 3 (by decide) fl_R_43 rfl rfl rfl (rfl) (rfl) (Nat.le_of_ble_eq_true rfl) d_R_read_19 ?_
  show Z _ _ _ _ _ _ _ (zU (zU M9 r (.inr (5, [.ref (r + 1), .ref (r + 2), .ref (r + 3), .int (nI n), .ref p, .ref (p + 2), .int (nI 0), .int (nI 0), .int (nI w), .int (nI y), .int (nI h)]))) r (.inr (5, [.ref (r + 1), .ref (r + 2), .ref (r + 3), .int (nI 0), .ref p, .ref (p + 2), .int (nI 0), .int (nI 0), .int (nI w), .int (nI y), .int (nI h)]))) _ _ _
  refine z_world zU_uu ?_
  refine z_aload_n C d_R_read_22 rfl rfl ?_
  have hoG_23 : zoutR M9 (zU M9 r (.inr (5, [.ref (r + 1), .ref (r + 2), .ref (r + 3), .int (nI 0), .ref p, .ref (p + 2), .int (nI 0), .int (nI 0), .int (nI w), .int (nI y), .int (nI h)]))) r (r + 4) := (fun q hq => (zU_ne (by omega)))
  have G_23 : zrd E (zU M9 r (.inr (5, [.ref (r + 1), .ref (r + 2), .ref (r + 3), .int (nI 0), .ref p, .ref (p + 2), .int (nI 0), .int (nI 0), .int (nI w), .int (nI y), .int (nI h)]))) r p cs (o, a, b, 0, 0, 0, w, y, h, [], (-1)) := ⟨zU_eq, (zU_ne (by omega)).trans h1_0, (zU_ne (by omega)).trans h2_0, (zU_ne (by omega)).trans h3_0, zpg_oR hoG_23 hg_0 (by omega), zln_oR hoG_23 hz_0 (by omega), hpr_0, bo_0, ba_0, bb_0, by omega, by omega, by omega, by omega, by omega⟩
  refine z_callV (rest := []) (n := 0) (As := []) C (r_startSum E X.2.1 sz _ G_23) ⟨z_cb C k_R_startSum ml_R_46 ii_R rfl rfl (by decide +kernel) ⟨by decide, by decide⟩, C.2.2.2.2.1 _ im_R_startSum, C.2.2.2.2.1 _ se_R_startSum⟩ G_23.1 rfl rfl rfl (Nat.le_of_ble_eq_true rfl) d_R_read_23 ⟨by decide, by decide⟩ ?_
  intro v_23 s_23 M_23 hp_23
  obtain ⟨rfl, rfl, hfr_23, H_23⟩ := hp_23
  obtain ⟨h0_23, h1_23, h2_23, h3_23, hg_23, hz_23, hpr_23, bo_23, ba_23, bb_23, bn_23, bk_23, bw_23, b_y_23, bh_23⟩ := id H_23
  show Z _ _ _ _ _ _ _ _ 26 _ []
  refine z_aload_n C d_R_read_26 rfl rfl ?_
  refine z_callV (rest := []) (n := 0) (As := []) C (r_readTarget E X.2.1 sz _ H_23) ⟨z_cb C k_R_readTarget ml_R_49 ii_R rfl rfl (by decide +kernel) ⟨by decide, by decide⟩, C.2.2.2.2.1 _ im_R_readTarget, C.2.2.2.2.1 _ se_R_readTarget⟩ H_23.1 rfl rfl rfl (Nat.le_of_ble_eq_true rfl) d_R_read_27 ⟨by decide, by decide⟩ ?_
  intro v_27 s_27 M_27 hp_27
  obtain ⟨rfl, rfl, hfr_27, H_27⟩ := hp_27
  show Z _ _ _ _ _ _ _ _ 30 _ []
  refine z_iconst (v := nI 0) C d_R_read_30 (by decide) ?_
  refine z_istore_n (L' := [(0, .ref r), (1, .int (nI 0))]) C d_R_read_31 rfl (by decide) rfl ?_
  refine loop 32 0 M_27 _ (by omega) (zoutR_tr (zoutR_tr (zoutR_tr (zoutR_tr hfr9 (zoutR_w (show zoutR M9 (zU M9 r (.inr (5, [.ref (r + 1), .ref (r + 2), .ref (r + 3), .int (nI 0), .ref p, .ref (p + 2), .int (nI 0), .int (nI 0), .int (nI w), .int (nI y), .int (nI h)]))) r (r + 4) from (fun q hq => (zU_ne (by omega)))) (by omega) (by omega))) hfr_23) (zoutR_w (show zoutR M_23 M_23 r (r + 4) from zoutR_rf) (by omega) (by omega))) hfr_27) H_27 ?_ rfl
  show (r_tg cs (o, updN a 0 0, updN b 0 0, 0, 0, 0, 1, 1, h, [], -1)).2.2.2.2.1 ≤ _
  simp only [r_tg]; split <;> exact Nat.le_of_ble_eq_true rfl
