set_option maxHeartbeats 4000000 in
/-- read -/
theorem r_read (E : zE) (l : Launch) (sz : Nat) (M : zM) {r p p0 : Nat} {cs : List Nat} {o a b : Nat → Nat} {n i k w y h : Nat} {ps : List (Nat × Int)} {t : Int32} {lv gv : Value} (h0 : M r = some (.inr (5, [.ref (r + 1), .ref (r + 2), .ref (r + 3), .int (nI n), lv, gv, .int (nI i), .int (nI k), .int (nI w), .int (nI y), .int (nI h)]))) (h1 : M (r + 1) = some (.inl (E.2.1 1, 9, .inl (fun j => nI (o j))))) (h2 : M (r + 2) = some (.inl (E.2.1 0, 9, .inl (fun j => nI (a j))))) (h3 : M (r + 3) = some (.inl (E.2.1 0, 9, .inl (fun j => nI (b j))))) (hg : zpg E M (r + 4) (ps.map img) t) (hz : zln E M p cs) (hpr : p + 2 ≤ r) (bo : ∀ j, o j < 128) (ba : ∀ j, a j < 100) (bb : ∀ j, b j < 100) (bn : n ≤ 8) (hk : k ≤ 1) (bw : w ≤ 1) (b_y : y ≤ 1) (bh : h ≤ 1) : zMet E l y_R_read c_R_read 4 (some .int) { frames := 5, cells := 0, slots := 0, locals := 104 } 0 0 [.ref r, .ref p, .ref (r + 4)] sz M (fun v s M' => some (.int (r_fin (r_loop cs 32 (r_start cs o a b y w h))).1) = v ∧ sz = s ∧ zoutR M M' r (r + 7) ∧ zrd E M' r p cs (r_fin (r_loop cs 32 (r_start cs o a b y w h))).2) := by
  refine zMet.ofZ (by decide) (Nat.le_of_ble_eq_true rfl) ?_
  intro X hl hini C
  have fin : ∀ (M1 : zM) (j : Nat) (s : RS), zoutR M M1 r (r + 7) → zrd E M1 r p cs s → s.2.2.2.2.1 ≤ 2 ^ 20 → r_loop cs 32 (r_start cs o a b y w h) = s → Z X E 4 (zQ X E 0 0 (fun v s M' => some (.int (r_fin (r_loop cs 32 (r_start cs o a b y w h))).1) = v ∧ sz = s ∧ zoutR M M' r (r + 7) ∧ zrd E M' r p cs (r_fin (r_loop cs 32 (r_start cs o a b y w h))).2)) 0 0 sz M1 115 [(0, .ref r), (1, .ref p), (2, .ref (r + 4)), (3, .int (nI j))] [] := by
    intro M1 j s hfr1 H1 hi1 e1
    obtain ⟨ox, ax, bx, nx, ix, kx, wx, yx, hx, psx, tx⟩ := s
    have hi1 : ix ≤ 2 ^ 20 := hi1
    obtain ⟨h0_1, h1_1, h2_1, h3_1, hg_1, hz_1, hpr_1, bo_1, ba_1, bb_1, bn_1, bk_1, bw_1, b_y_1, bh_1⟩ := id H1
    refine z_aload_n C d_R_read_115 rfl rfl ?_
    refine z_get C in_R h0_1 rfl 7 (by decide) fl_R_39 rfl rfl d_R_read_116 ?_
    refine z_if_ne (tgt := 136) C d_R_read_119 (by decide) (fun c_119 => ?_) (fun c_119 => ?_)
    · have c_119 : ¬ kx = 0 := fun q => c_119 (congrArg nI q)
      refine z_aload_n C d_R_read_136 rfl rfl ?_
      refine z_get C in_R h0_1 rfl 6 (by decide) fl_R_35 rfl rfl d_R_read_137 ?_
      have eend : (r_fin (r_loop cs 32 (r_start cs o a b y w h))) = (nI ix, (ox, ax, bx, nx, ix, kx, wx, yx, hx, psx, tx)) := by
        rw [e1]; exact if_pos (by omega)
      exact z_iret C ⟨by rw [eend], rfl, hfr1, by rw [eend]; exact H1⟩ d_R_read_140
    · have c_119 : kx = 0 := (nI_eq (a := kx) (b := 0) (by omega) (by omega)).mp c_119
      refine z_aload_n C d_R_read_122 rfl rfl ?_
      refine z_get C in_R h0_1 rfl 8 (by decide) fl_R_57 rfl rfl d_R_read_123 ?_
      refine z_if_ne (tgt := 136) C d_R_read_126 (by decide) (fun c_126 => ?_) (fun c_126 => ?_)
      · have c_126 : ¬ wx = 0 := fun q => c_126 (congrArg nI q)
        refine z_aload_n C d_R_read_136 rfl rfl ?_
        refine z_get C in_R h0_1 rfl 6 (by decide) fl_R_35 rfl rfl d_R_read_137 ?_
        have eend : (r_fin (r_loop cs 32 (r_start cs o a b y w h))) = (nI ix, (ox, ax, bx, nx, ix, kx, wx, yx, hx, psx, tx)) := by
          rw [e1]; exact if_pos (by omega)
        exact z_iret C ⟨by rw [eend], rfl, hfr1, by rw [eend]; exact H1⟩ d_R_read_140
      · have c_126 : wx = 0 := (nI_eq (a := wx) (b := 0) (by omega) (by omega)).mp c_126
        refine z_aload_n C d_R_read_129 rfl rfl ?_
        refine z_get C in_R h0_1 rfl 3 (by decide) fl_R_43 rfl rfl d_R_read_130 ?_
        refine z_if_le (tgt := 141) C d_R_read_133 (by decide) (fun c_133 => ?_) (fun c_133 => ?_)
        · have c_133 : nx ≤ 0 := (nI_leI (a := nx) (b := 0) (by omega) (by omega)).mp c_133
          refine z_aload_n C d_R_read_141 rfl rfl ?_
          refine z_callV (rest := []) (n := 0) (As := []) C (r_finishTerm E X.2.1 sz _ H1) ⟨z_cb C k_R_finishTerm ml_R_71 ii_R rfl rfl (by decide +kernel) ⟨by decide, by decide⟩, C.2.2.2.2.1 _ im_R_finishTerm, C.2.2.2.2.1 _ se_R_finishTerm⟩ H1.1 rfl rfl rfl (Nat.le_of_ble_eq_true rfl) d_R_read_142 ⟨by decide, by decide⟩ ?_
          intro v_9 s_9 M_9 hp_9
          obtain ⟨rfl, rfl, hfr_9, af, bf, pf, ef, H_9⟩ := hp_9
          have eend : (r_fin (r_loop cs 32 (r_start cs o a b y w h))) = (-1, (ox, af, bf, nx, ix, kx, wx, yx, hx, pf, tx)) := by
            rw [e1, ← ef]; exact if_neg (by omega)
          show Z _ _ _ _ _ _ _ _ 145 _ []
          refine z_iconst (v := -1) C d_R_read_145 (by decide) ?_
          exact z_iret C ⟨by rw [eend], rfl, zoutR_tr hfr1 hfr_9, by rw [eend]; exact H_9⟩ d_R_read_146
        · have c_133 : 0 < nx := Nat.not_le.mp (fun q => c_133 ((nI_leI (a := nx) (b := 0) (by omega) (by omega)).mpr q))
          refine z_aload_n C d_R_read_136 rfl rfl ?_
          refine z_get C in_R h0_1 rfl 6 (by decide) fl_R_35 rfl rfl d_R_read_137 ?_
          have eend : (r_fin (r_loop cs 32 (r_start cs o a b y w h))) = (nI ix, (ox, ax, bx, nx, ix, kx, wx, yx, hx, psx, tx)) := by
            rw [e1]; exact if_pos (by omega)
          exact z_iret C ⟨by rw [eend], rfl, hfr1, by rw [eend]; exact H1⟩ d_R_read_140
  have loop : ∀ (d j : Nat) (M1 : zM) (s : RS), j + d = 32 → zoutR M M1 r (r + 7) → zrd E M1 r p cs s → s.2.2.2.2.1 ≤ 2 ^ 20 → r_loop cs 32 (r_start cs o a b y w h) = r_loop cs d s → Z X E 4 (zQ X E 0 0 (fun v s M' => some (.int (r_fin (r_loop cs 32 (r_start cs o a b y w h))).1) = v ∧ sz = s ∧ zoutR M M' r (r + 7) ∧ zrd E M' r p cs (r_fin (r_loop cs 32 (r_start cs o a b y w h))).2)) 0 0 sz M1 42 [(0, .ref r), (1, .ref p), (2, .ref (r + 4)), (3, .int (nI j))] [] := by
    intro d
    induction d with
    | zero =>
      intro j M1 s hj hfr1 H1 hi1 e1
      refine z_iload_n C d_R_read_42 rfl rfl ?_
      refine z_bipush (v := nI 32) C d_R_read_43 (by decide) ?_
      refine z_icmp_ge (tgt := 115) C d_R_read_45 (by decide) (fun _ => ?_) (fun c_45 => absurd ((nI_leI (a := 32) (b := j) (by omega) (by omega)).mpr (by omega)) c_45)
      exact fin M1 j s hfr1 H1 hi1 e1
    | succ d ih =>
      intro j M1 s hj hfr1 H1 hi1 e1
      obtain ⟨ox, ax, bx, nx, ix, kx, wx, yx, hx, psx, tx⟩ := s
      have hi1 : ix ≤ 2 ^ 20 := hi1
      obtain ⟨h0_1, h1_1, h2_1, h3_1, hg_1, hz_1, hpr_1, bo_1, ba_1, bb_1, bn_1, bk_1, bw_1, b_y_1, bh_1⟩ := id H1
      have hlen := zln_len (zrd_l H1)
      have hlp := zrd_p H1
      refine z_iload_n C d_R_read_42 rfl rfl ?_
      refine z_bipush (v := nI 32) C d_R_read_43 (by decide) ?_
      refine z_icmp_ge (tgt := 115) C d_R_read_45 (by decide) (fun c_45 => absurd c_45 (fun q => absurd ((nI_leI (a := 32) (b := j) (by omega) (by omega)).mp q) (by omega))) (fun _ => ?_)
      refine z_aload_n C d_R_read_48 rfl rfl ?_
      refine z_get C in_R h0_1 rfl 6 (by decide) fl_R_35 rfl rfl d_R_read_49 ?_
      refine z_aload_n C d_R_read_52 rfl rfl ?_
      refine z_get C in_R h0_1 rfl 4 (by decide) fl_R_22 rfl rfl d_R_read_53 ?_
      refine z_getN C in_L hlp rfl 1 (by decide) fl_R_52 rfl rfl d_R_read_56 ?_
      refine z_icmp_ge (tgt := 115) C d_R_read_59 (by decide) (fun c_59 => ?_) (fun c_59 => ?_)
      · have c_59 : cs.length ≤ ix := (nI_leI (a := cs.length) (b := ix) (by omega) (by omega)).mp c_59
        exact fin M1 j _ hfr1 H1 hi1 (by rw [e1]; exact if_neg (by omega))
      · have c_59 : ix < cs.length := Nat.not_le.mp (fun q => c_59 ((nI_leI (a := cs.length) (b := ix) (by omega) (by omega)).mpr q))
        refine z_aload_n C d_R_read_62 rfl rfl ?_
        refine z_get C in_R h0_1 rfl 7 (by decide) fl_R_39 rfl rfl d_R_read_63 ?_
        refine z_if_ne (tgt := 115) C d_R_read_66 (by decide) (fun c_66 => ?_) (fun c_66 => ?_)
        · have c_66 : ¬ kx = 0 := fun q => c_66 (congrArg nI q)
          exact fin M1 j _ hfr1 H1 hi1 (by rw [e1]; exact if_neg (by omega))
        · have c_66 : kx = 0 := (nI_eq (a := kx) (b := 0) (by omega) (by omega)).mp c_66
          refine z_aload_n C d_R_read_69 rfl rfl ?_
          refine z_get C in_R h0_1 rfl 8 (by decide) fl_R_57 rfl rfl d_R_read_70 ?_
          refine z_if_eq (tgt := 94) C d_R_read_73 (by decide) (fun c_73 => ?_) (fun c_73 => ?_)
          · have c_73 : wx = 0 := (nI_eq (a := wx) (b := 0) (by omega) (by omega)).mp c_73
            refine z_aload_n C d_R_read_94 rfl rfl ?_
            refine z_aload_n C d_R_read_95 rfl rfl ?_
            refine z_get C in_R h0_1 rfl 4 (by decide) fl_R_22 rfl rfl d_R_read_96 ?_
            refine z_aload_n C d_R_read_99 rfl rfl ?_
            refine z_get C in_R h0_1 rfl 6 (by decide) fl_R_35 rfl rfl d_R_read_100 ?_
            refine z_callV (rest := [.ref r]) (n := 1) (As := [.int (nI ix)]) C (l_at E X.2.1 sz _ (zrd_l H1) ix (by omega)) ⟨z_cb C k_L_at ml_R_60 ii_L rfl rfl (by decide +kernel) ⟨by decide, by decide⟩, C.2.2.2.2.1 _ im_L_at, C.2.2.2.2.1 _ se_L_at⟩ hlp rfl rfl rfl (Nat.le_of_ble_eq_true rfl) d_R_read_103 ⟨by decide, by decide⟩ ?_
            intro v_8 s_8 M_8 hp_8
            obtain ⟨rfl, rfl, rfl⟩ := hp_8
            show Z _ _ _ _ _ _ _ _ 106 _ [.int (nI (cs.getD ix 0)), .ref r]
            refine z_callV (rest := []) (n := 1) (As := [.int (nI (cs.getD ix 0))]) C (r_readAfterAtom E X.2.1 sz _ H1 (cs.getD ix 0) (zln_lt (zrd_l H1) ix) (by omega)) ⟨z_cb C k_R_readAfterAtom ml_R_68 ii_R rfl rfl (by decide +kernel) ⟨by decide, by decide⟩, C.2.2.2.2.1 _ im_R_readAfterAtom, C.2.2.2.2.1 _ se_R_readAfterAtom⟩ H1.1 rfl rfl rfl (Nat.le_of_ble_eq_true rfl) d_R_read_106 ⟨by decide, by decide⟩ ?_
            intro v_9 s_9 M_9 hp_9
            obtain ⟨rfl, rfl, hfr_9, H_9⟩ := hp_9
            have es : r_step cs (ox, ax, bx, nx, ix, kx, wx, yx, hx, psx, tx) = r_aft cs (cs.getD ix 0) (ox, ax, bx, nx, ix, kx, wx, yx, hx, psx, tx) := if_neg (by omega)
            show Z _ _ _ _ _ _ _ _ 109 _ []
            refine z_iinc (v := nI (j + 1)) (L' := [(0, .ref r), (1, .ref p), (2, .ref (r + 4)), (3, .int (nI (j + 1)))]) C d_R_read_109 rfl (nI_add _ 1) (by decide) rfl ?_
            refine z_goto (tgt := 42) C d_R_read_112 (by decide) ?_
            refine ih (j + 1) M_9 _ (by omega) (zoutR_tr hfr1 hfr_9) (by rw [← es] at H_9; exact H_9) ?_ (by rw [e1]; exact if_pos ⟨by omega, by omega⟩)
            exact Nat.le_trans (r_step_i cs (ox, ax, bx, nx, ix, kx, wx, yx, hx, psx, tx)) (by show ix + 10 ≤ _; omega)
          · have c_73 : ¬ wx = 0 := fun q => c_73 (congrArg nI q)
            refine z_aload_n C d_R_read_76 rfl rfl ?_
            refine z_aload_n C d_R_read_77 rfl rfl ?_
            refine z_get C in_R h0_1 rfl 4 (by decide) fl_R_22 rfl rfl d_R_read_78 ?_
            refine z_aload_n C d_R_read_81 rfl rfl ?_
            refine z_get C in_R h0_1 rfl 6 (by decide) fl_R_35 rfl rfl d_R_read_82 ?_
            refine z_callV (rest := [.ref r]) (n := 1) (As := [.int (nI ix)]) C (l_at E X.2.1 sz _ (zrd_l H1) ix (by omega)) ⟨z_cb C k_L_at ml_R_60 ii_L rfl rfl (by decide +kernel) ⟨by decide, by decide⟩, C.2.2.2.2.1 _ im_L_at, C.2.2.2.2.1 _ se_L_at⟩ hlp rfl rfl rfl (Nat.le_of_ble_eq_true rfl) d_R_read_85 ⟨by decide, by decide⟩ ?_
            intro v_8 s_8 M_8 hp_8
            obtain ⟨rfl, rfl, rfl⟩ := hp_8
            show Z _ _ _ _ _ _ _ _ 88 _ [.int (nI (cs.getD ix 0)), .ref r]
            refine z_callV (rest := []) (n := 1) (As := [.int (nI (cs.getD ix 0))]) C (r_readBeforeAtom E X.2.1 sz _ H1 (cs.getD ix 0) (zln_lt (zrd_l H1) ix) (by omega)) ⟨z_cb C k_R_readBeforeAtom ml_R_64 ii_R rfl rfl (by decide +kernel) ⟨by decide, by decide⟩, C.2.2.2.2.1 _ im_R_readBeforeAtom, C.2.2.2.2.1 _ se_R_readBeforeAtom⟩ H1.1 rfl rfl rfl (Nat.le_of_ble_eq_true rfl) d_R_read_88 ⟨by decide, by decide⟩ ?_
            intro v_9 s_9 M_9 hp_9
            obtain ⟨rfl, rfl, hfr_9, H_9⟩ := hp_9
            have es : r_step cs (ox, ax, bx, nx, ix, kx, wx, yx, hx, psx, tx) = r_bef cs (cs.getD ix 0) (ox, ax, bx, nx, ix, kx, wx, yx, hx, psx, tx) := if_pos (by omega)
            show Z _ _ _ _ _ _ _ _ 91 _ []
            refine z_goto (tgt := 109) C d_R_read_91 (by decide) ?_
            refine z_iinc (v := nI (j + 1)) (L' := [(0, .ref r), (1, .ref p), (2, .ref (r + 4)), (3, .int (nI (j + 1)))]) C d_R_read_109 rfl (nI_add _ 1) (by decide) rfl ?_
            refine z_goto (tgt := 42) C d_R_read_112 (by decide) ?_
            refine ih (j + 1) M_9 _ (by omega) (zoutR_tr hfr1 hfr_9) (by rw [← es] at H_9; exact H_9) ?_ (by rw [e1]; exact if_pos ⟨by omega, by omega⟩)
            exact Nat.le_trans (r_step_i cs (ox, ax, bx, nx, ix, kx, wx, yx, hx, psx, tx)) (by show ix + 10 ≤ _; omega)
  show Z X E 4 _ 0 0 sz M 0 [(0, .ref r), (1, .ref p), (2, .ref (r + 4))] []
  obtain ⟨_, _, hg0, _⟩ := id hg
  refine z_aload_n C d_R_read_0 rfl rfl ?_
  refine z_aload_n C d_R_read_1 rfl rfl ?_
  refine z_put C in_R ty_R tok_R nm_R h0 rfl 4 (by decide) fl_R_22 rfl rfl rfl (rfl) (rfl) (Nat.le_of_ble_eq_true rfl) d_R_read_2 ?_
  show Z _ _ _ _ _ _ _ (zU M r (.inr (5, [.ref (r + 1), .ref (r + 2), .ref (r + 3), .int (nI n), .ref p, gv, .int (nI i), .int (nI k), .int (nI w), .int (nI y), .int (nI h)]))) _ _ _
  refine z_aload_n C d_R_read_5 rfl rfl ?_
  refine z_aload_n C d_R_read_6 rfl rfl ?_
  refine z_put C in_R ty_R tok_R nm_R zU_eq rfl 5 (by decide) fl_R_26 rfl rfl rfl (rfl) (rfl) (Nat.le_of_ble_eq_true rfl) d_R_read_7 ?_
  show Z _ _ _ _ _ _ _ (zU (zU M r (.inr (5, [.ref (r + 1), .ref (r + 2), .ref (r + 3), .int (nI n), .ref p, gv, .int (nI i), .int (nI k), .int (nI w), .int (nI y), .int (nI h)]))) r (.inr (5, [.ref (r + 1), .ref (r + 2), .ref (r + 3), .int (nI n), .ref p, .ref (r + 4), .int (nI i), .int (nI k), .int (nI w), .int (nI y), .int (nI h)]))) _ _ _
  refine z_world zU_uu ?_
  refine z_aload_n C d_R_read_10 rfl rfl ?_
  refine z_get C in_R zU_eq rfl 5 (by decide) fl_R_26 rfl rfl d_R_read_11 ?_
  have ho0 : zoutR M (zU M r (.inr (5, [.ref (r + 1), .ref (r + 2), .ref (r + 3), .int (nI n), .ref p, .ref (r + 4), .int (nI i), .int (nI k), .int (nI w), .int (nI y), .int (nI h)]))) r (r + 1) := fun q hq => zU_ne (by omega)
  refine z_callV (rest := []) (n := 0) (As := []) C (g_clear E X.2.1 sz _ (zpg_oR ho0 hg (by omega))) ⟨z_cb C k_G_clear ml_R_30 ii_G rfl rfl (by decide +kernel) ⟨by decide, by decide⟩, C.2.2.2.2.1 _ im_G_clear, C.2.2.2.2.1 _ se_G_clear⟩ ((zU_ne (by omega)).trans hg0) rfl rfl rfl (Nat.le_of_ble_eq_true rfl) d_R_read_14 ⟨by decide, by decide⟩ ?_
  intro v_9 s_9 M9 hp_9
  obtain ⟨rfl, rfl, ho9, hG9⟩ := hp_9
  have hc9 : zrd E M9 r p cs (o, a, b, n, i, k, w, y, h, [], -1) := ⟨(ho9 _ (by omega)).trans zU_eq, (ho9 _ (by omega)).trans ((ho0 _ (by omega)).trans h1), (ho9 _ (by omega)).trans ((ho0 _ (by omega)).trans h2), (ho9 _ (by omega)).trans ((ho0 _ (by omega)).trans h3), hG9, zln_oR ho9 (zln_oR ho0 hz (by omega)) (by omega), hpr, bo, ba, bb, bn, hk, bw, b_y, bh⟩
  have hfr9 : zoutR M M9 r (r + 7) := zoutR_tr (zoutR_w ho0 (by omega) (by omega)) (zoutR_w ho9 (by omega) (by omega))
  obtain ⟨h0_0, h1_0, h2_0, h3_0, hg_0, hz_0, hpr_0, bo_0, ba_0, bb_0, bn_0, bk_0, bw_0, b_y_0, bh_0⟩ := id hc9
  show Z _ _ _ _ _ _ _ _ 17 _ []
  refine z_aload_n C d_R_read_17 rfl rfl ?_
  refine z_iconst (v := nI 0) C d_R_read_18 (by decide) ?_
  refine z_put C in_R ty_R tok_R nm_R h0_0 rfl 6 (by decide) fl_R_35 rfl rfl rfl (rfl) (rfl) (Nat.le_of_ble_eq_true rfl) d_R_read_19 ?_
  show Z _ _ _ _ _ _ _ (zU M9 r (.inr (5, [.ref (r + 1), .ref (r + 2), .ref (r + 3), .int (nI n), .ref p, .ref (r + 4), .int (nI 0), .int (nI k), .int (nI w), .int (nI y), .int (nI h)]))) _ _ _
  refine z_aload_n C d_R_read_22 rfl rfl ?_
  refine z_iconst (v := nI 0) C d_R_read_23 (by decide) ?_
  refine z_put C in_R ty_R tok_R nm_R zU_eq rfl 7 (by decide) fl_R_39 rfl rfl rfl (rfl) (rfl) (Nat.le_of_ble_eq_true rfl) d_R_read_24 ?_
  show Z _ _ _ _ _ _ _ (zU (zU M9 r (.inr (5, [.ref (r + 1), .ref (r + 2), .ref (r + 3), .int (nI n), .ref p, .ref (r + 4), .int (nI 0), .int (nI k), .int (nI w), .int (nI y), .int (nI h)]))) r (.inr (5, [.ref (r + 1), .ref (r + 2), .ref (r + 3), .int (nI n), .ref p, .ref (r + 4), .int (nI 0), .int (nI 0), .int (nI w), .int (nI y), .int (nI h)]))) _ _ _
  refine z_world zU_uu ?_
  refine z_aload_n C d_R_read_27 rfl rfl ?_
  refine z_iconst (v := nI 0) C d_R_read_28 (by decide) ?_
  refine z_put C in_R ty_R tok_R nm_R zU_eq rfl 3 (by decide) fl_R_43 rfl rfl rfl (rfl) (rfl) (Nat.le_of_ble_eq_true rfl) d_R_read_29 ?_
  show Z _ _ _ _ _ _ _ (zU (zU M9 r (.inr (5, [.ref (r + 1), .ref (r + 2), .ref (r + 3), .int (nI n), .ref p, .ref (r + 4), .int (nI 0), .int (nI 0), .int (nI w), .int (nI y), .int (nI h)]))) r (.inr (5, [.ref (r + 1), .ref (r + 2), .ref (r + 3), .int (nI 0), .ref p, .ref (r + 4), .int (nI 0), .int (nI 0), .int (nI w), .int (nI y), .int (nI h)]))) _ _ _
  refine z_world zU_uu ?_
  refine z_aload_n C d_R_read_32 rfl rfl ?_
  have hoG_33 : zoutR M9 (zU M9 r (.inr (5, [.ref (r + 1), .ref (r + 2), .ref (r + 3), .int (nI 0), .ref p, .ref (r + 4), .int (nI 0), .int (nI 0), .int (nI w), .int (nI y), .int (nI h)]))) r (r + 4) := (fun q hq => (zU_ne (by omega)))
  have G_33 : zrd E (zU M9 r (.inr (5, [.ref (r + 1), .ref (r + 2), .ref (r + 3), .int (nI 0), .ref p, .ref (r + 4), .int (nI 0), .int (nI 0), .int (nI w), .int (nI y), .int (nI h)]))) r p cs (o, a, b, 0, 0, 0, w, y, h, [], (-1)) := ⟨zU_eq, (zU_ne (by omega)).trans h1_0, (zU_ne (by omega)).trans h2_0, (zU_ne (by omega)).trans h3_0, zpg_oR hoG_33 hg_0 (by omega), zln_oR hoG_33 hz_0 (by omega), hpr_0, bo_0, ba_0, bb_0, by omega, by omega, by omega, by omega, by omega⟩
  refine z_callV (rest := []) (n := 0) (As := []) C (r_startSum E X.2.1 sz _ G_33) ⟨z_cb C k_R_startSum ml_R_46 ii_R rfl rfl (by decide +kernel) ⟨by decide, by decide⟩, C.2.2.2.2.1 _ im_R_startSum, C.2.2.2.2.1 _ se_R_startSum⟩ G_33.1 rfl rfl rfl (Nat.le_of_ble_eq_true rfl) d_R_read_33 ⟨by decide, by decide⟩ ?_
  intro v_33 s_33 M_33 hp_33
  obtain ⟨rfl, rfl, hfr_33, H_33⟩ := hp_33
  obtain ⟨h0_33, h1_33, h2_33, h3_33, hg_33, hz_33, hpr_33, bo_33, ba_33, bb_33, bn_33, bk_33, bw_33, b_y_33, bh_33⟩ := id H_33
  show Z _ _ _ _ _ _ _ _ 36 _ []
  refine z_aload_n C d_R_read_36 rfl rfl ?_
  refine z_callV (rest := []) (n := 0) (As := []) C (r_readTarget E X.2.1 sz _ H_33) ⟨z_cb C k_R_readTarget ml_R_49 ii_R rfl rfl (by decide +kernel) ⟨by decide, by decide⟩, C.2.2.2.2.1 _ im_R_readTarget, C.2.2.2.2.1 _ se_R_readTarget⟩ H_33.1 rfl rfl rfl (Nat.le_of_ble_eq_true rfl) d_R_read_37 ⟨by decide, by decide⟩ ?_
  intro v_37 s_37 M_37 hp_37
  obtain ⟨rfl, rfl, hfr_37, H_37⟩ := hp_37
  show Z _ _ _ _ _ _ _ _ 40 _ []
  refine z_iconst (v := nI 0) C d_R_read_40 (by decide) ?_
  refine z_istore_n (L' := [(0, .ref r), (1, .ref p), (2, .ref (r + 4)), (3, .int (nI 0))]) C d_R_read_41 rfl (by decide) rfl ?_
  refine loop 32 0 M_37 _ (by omega) (zoutR_tr (zoutR_tr (zoutR_tr (zoutR_tr hfr9 (zoutR_w (show zoutR M9 (zU M9 r (.inr (5, [.ref (r + 1), .ref (r + 2), .ref (r + 3), .int (nI 0), .ref p, .ref (r + 4), .int (nI 0), .int (nI 0), .int (nI w), .int (nI y), .int (nI h)]))) r (r + 4) from (fun q hq => (zU_ne (by omega)))) (by omega) (by omega))) hfr_33) (zoutR_w (show zoutR M_33 M_33 r (r + 4) from zoutR_rf) (by omega) (by omega))) hfr_37) H_37 ?_ rfl
  show (r_tg cs (o, updN a 0 0, updN b 0 0, 0, 0, 0, 1, 1, h, [], -1)).2.2.2.2.1 ≤ _
  simp only [r_tg]; split <;> exact Nat.le_of_ble_eq_true rfl
