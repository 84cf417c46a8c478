theorem zpg_c {E : zE} {M : zM} {g : Nat} {ps : List (Int32 × Int32)} {t : Int32} (h : zpg E M g ps t) : ∃ fs : List Value, M g = some (.inr (4, fs)) := by
  obtain ⟨_, _, h, _⟩ := h
  exact ⟨_, h⟩
theorem zrd_g {E : zE} {M : zM} {r p : Nat} {cs : List Nat} {o a b : Nat → Nat} {n i k w y h : Nat} {ps : List (Nat × Int)} {t : Int32} (H : zrd E M r p cs (o, a, b, n, i, k, w, y, h, ps, t)) : M (p + 2) = some (.inr (4, [.ref (p + 2 + 1), .ref (p + 2 + 2), .int (nI (ps.map img).length), .int t])) := by
  obtain ⟨_, _, _, _, ⟨_, _, q, _⟩, _⟩ := H
  exact q
theorem zrd_p {E : zE} {M : zM} {r p : Nat} {cs : List Nat} {o a b : Nat → Nat} {n i k w y h : Nat} {ps : List (Nat × Int)} {t : Int32} (H : zrd E M r p cs (o, a, b, n, i, k, w, y, h, ps, t)) : M p = some (.inr (2, [.ref (p + 1), .int (nI cs.length)])) := by
  obtain ⟨_, _, _, _, _, ⟨_, q, _⟩, _⟩ := H
  exact q
theorem zrd_l {E : zE} {M : zM} {r p : Nat} {cs : List Nat} {s : RS} (H : zrd E M r p cs s) : zln E M p cs := by
  obtain ⟨o, a, b, n, i, k, w, y, h, ps, t⟩ := s
  exact H.2.2.2.2.2.1
set_option maxHeartbeats 4000000 in
/-- Program.add, full -/
theorem g_addF (E : zE) (l : Launch) (sz : Nat) (M : zM) {g : Nat} {ps : List (Nat × Int)} {t : Int32} (hG : zpg E M g (ps.map img) t) (x y : Int32) (hl : ¬ ps.length < 32) : zMet E l y_G_add c_G_add 3 none { frames := 0, cells := 0, slots := 0, locals := 0 } 0 0 [.ref g, .int x, .int y] sz M (fun v s M' => none = v ∧ sz = s ∧ M = M') := by
  obtain ⟨kf, df, h0, h1, h2, hlen, hf⟩ := hG
  rw [List.length_map] at h0 hlen
  refine zMet.ofZ (by decide) (Nat.le_of_ble_eq_true rfl) ?_
  intro X hl hini C
  show Z X E 3 _ 0 0 sz M 0 [(0, .ref g), (1, .int x), (2, .int y)] []
  refine z_aload_n C d_G_add_0 rfl rfl ?_
  refine z_get C in_G h0 rfl 2 (by decide) fl_G_18 rfl rfl d_G_add_1 ?_
  refine z_bipush (v := nI 32) C d_G_add_4 (by decide) ?_
  refine z_icmp_ge (tgt := 39) C d_G_add_6 (by decide) (fun _ => ?_) (fun c_6 => absurd ((nI_leI (by decide) (by omega)).mpr (by omega)) c_6)
  exact z_vret C ⟨rfl, rfl, rfl⟩ d_G_add_39
theorem g_addP (E : zE) (l : Launch) (sz : Nat) (M : zM) {g : Nat} {ps : List (Nat × Int)} {t : Int32} (hG : zpg E M g (ps.map img) t) (x : Nat × Int) : zMet E l y_G_add c_G_add 3 none { frames := 0, cells := 0, slots := 0, locals := 0 } 0 0 [.ref g, .int (img x).1, .int (img x).2] sz M (fun v s M' => none = v ∧ sz = s ∧ zoutR M M' g (g + 3) ∧ zpg E M' g ((addp ps x).map img) t) := by
  by_cases q : ps.length < 32
  · refine (g_add E l sz M hG (img x).1 (img x).2 (by rw [List.length_map]; exact q)).mono (fun v s M' h => ?_)
    rw [addp_lt q, List.map_append]
    exact h
  · refine (g_addF E l sz M hG (img x).1 (img x).2 q).mono (fun v s M' h => ?_)
    obtain ⟨h1, h2, rfl⟩ := h
    rw [show addp ps x = ps from if_neg q]
    exact ⟨h1, h2, zoutR_rf, hG⟩
/-- Program.add as the reader sees it -/
theorem r_addG (E : zE) (l : Launch) (sz : Nat) (M : zM) {r p : Nat} {cs : List Nat} {o a b : Nat → Nat} {n i k w y h : Nat} {ps : List (Nat × Int)} {t : Int32} (H : zrd E M r p cs (o, a, b, n, i, k, w, y, h, ps, t)) (x : Nat × Int) {u v : Int32} (hu : u = nI x.1) (hv : v = Int32.ofInt x.2) : zMet E l y_G_add c_G_add 3 none { frames := 0, cells := 0, slots := 0, locals := 0 } 0 0 [.ref (p + 2), .int u, .int v] sz M (fun v s M' => none = v ∧ sz = s ∧ zoutR M M' (p + 2) (r + 4) ∧ zrd E M' r p cs (o, a, b, n, i, k, w, y, h, addp ps x, t)) := by
  obtain ⟨h0, h1, h2, h3, hg, hl, hpr, h9⟩ := H
  rw [hu, hv]
  refine (g_addP E l sz M hg x).mono (fun v s M' q => ?_)
  obtain ⟨q1, q2, ho, q⟩ := q
  exact ⟨q1, q2, zoutR_w ho (by omega) (by omega), (ho _ (by omega)).trans h0, (ho _ (by omega)).trans h1, (ho _ (by omega)).trans h2, (ho _ (by omega)).trans h3, q, zln_oR ho hl (by omega), hpr, h9⟩
set_option maxHeartbeats 4000000 in
/-- R_isDigit -/
theorem r_isDigit (E : zE) (l : Launch) (sz : Nat) (M : zM) (c : Nat) (hc : c < 128) : zMet E l y_R_isDigit c_R_isDigit 1 (some .boolean) { frames := 0, cells := 0, slots := 0, locals := 0 } 0 0 [.int (nI c)] sz M (zRet (some (.int (nI (if isD c then 1 else 0)))) sz M) := by
  refine zMet.ofZ (by decide) (Nat.le_of_ble_eq_true rfl) ?_
  intro X hl hini C
  show Z X E 1 _ 0 0 sz M 0 [(0, .int (nI c))] []
  refine z_iload_n C d_R_isDigit_0 rfl rfl ?_
  refine z_bipush (v := nI 48) C d_R_isDigit_1 (by decide) ?_
  refine z_icmp_lt (tgt := 16) C d_R_isDigit_3 (by decide) (fun c_3 => ?_) (fun c_3 => ?_)
  · have c_3 : c < 48 := (nI_ltI (a := c) (b := 48) (by omega) (by omega)).mp c_3
    refine z_iconst (v := nI 0) C d_R_isDigit_16 (by decide) ?_
    exact z_zret C rfl ⟨by rw [if_neg (by omega)], rfl, rfl⟩ d_R_isDigit_17
  · have c_3 : 48 ≤ c := Nat.not_lt.mp (fun q => c_3 ((nI_ltI (a := c) (b := 48) (by omega) (by omega)).mpr q))
    refine z_iload_n C d_R_isDigit_6 rfl rfl ?_
    refine z_bipush (v := nI 57) C d_R_isDigit_7 (by decide) ?_
    refine z_icmp_gt (tgt := 16) C d_R_isDigit_9 (by decide) (fun c_9 => ?_) (fun c_9 => ?_)
    · have c_9 : 57 < c := (nI_ltI (a := 57) (b := c) (by omega) (by omega)).mp c_9
      refine z_iconst (v := nI 0) C d_R_isDigit_16 (by decide) ?_
      exact z_zret C rfl ⟨by rw [if_neg (by omega)], rfl, rfl⟩ d_R_isDigit_17
    · have c_9 : c ≤ 57 := Nat.not_lt.mp (fun q => c_9 ((nI_ltI (a := 57) (b := c) (by omega) (by omega)).mpr q))
      refine z_iconst (v := nI 1) C d_R_isDigit_12 (by decide) ?_
      refine z_goto (tgt := 17) C d_R_isDigit_13 (by decide) ?_
      exact z_zret C rfl ⟨by rw [if_pos ⟨by omega, by omega⟩], rfl, rfl⟩ d_R_isDigit_17
set_option maxHeartbeats 4000000 in
/-- R_isName -/
theorem r_isName (E : zE) (l : Launch) (sz : Nat) (M : zM) (c : Nat) (hc : c < 128) : zMet E l y_R_isName c_R_isName 1 (some .boolean) { frames := 0, cells := 0, slots := 0, locals := 0 } 0 0 [.int (nI c)] sz M (zRet (some (.int (nI (if isNm c then 1 else 0)))) sz M) := by
  refine zMet.ofZ (by decide) (Nat.le_of_ble_eq_true rfl) ?_
  intro X hl hini C
  show Z X E 1 _ 0 0 sz M 0 [(0, .int (nI c))] []
  refine z_iload_n C d_R_isName_0 rfl rfl ?_
  refine z_bipush (v := nI 97) C d_R_isName_1 (by decide) ?_
  refine z_icmp_lt (tgt := 16) C d_R_isName_3 (by decide) (fun c_3 => ?_) (fun c_3 => ?_)
  · have c_3 : c < 97 := (nI_ltI (a := c) (b := 97) (by omega) (by omega)).mp c_3
    refine z_iconst (v := nI 0) C d_R_isName_16 (by decide) ?_
    exact z_zret C rfl ⟨by rw [if_neg (by omega)], rfl, rfl⟩ d_R_isName_17
  · have c_3 : 97 ≤ c := Nat.not_lt.mp (fun q => c_3 ((nI_ltI (a := c) (b := 97) (by omega) (by omega)).mpr q))
    refine z_iload_n C d_R_isName_6 rfl rfl ?_
    refine z_bipush (v := nI 100) C d_R_isName_7 (by decide) ?_
    refine z_icmp_ge (tgt := 16) C d_R_isName_9 (by decide) (fun c_9 => ?_) (fun c_9 => ?_)
    · have c_9 : 100 ≤ c := (nI_leI (a := 100) (b := c) (by omega) (by omega)).mp c_9
      refine z_iconst (v := nI 0) C d_R_isName_16 (by decide) ?_
      exact z_zret C rfl ⟨by rw [if_neg (by omega)], rfl, rfl⟩ d_R_isName_17
    · have c_9 : c < 100 := Nat.not_le.mp (fun q => c_9 ((nI_leI (a := 100) (b := c) (by omega) (by omega)).mpr q))
      refine z_iconst (v := nI 1) C d_R_isName_12 (by decide) ?_
      refine z_goto (tgt := 17) C d_R_isName_13 (by decide) ?_
      exact z_zret C rfl ⟨by rw [if_pos ⟨by omega, by omega⟩], rfl, rfl⟩ d_R_isName_17
set_option maxHeartbeats 4000000 in
/-- startSum -/
theorem r_startSum (E : zE) (l : Launch) (sz : Nat) (M : zM) {r p : Nat} {cs : List Nat} {o a b : Nat → Nat} {n i k w y h : Nat} {ps : List (Nat × Int)} {t : Int32} (H : zrd E M r p cs (o, a, b, n, i, k, w, y, h, ps, t)) : zMet E l y_R_startSum c_R_startSum 1 none { frames := 0, cells := 0, slots := 0, locals := 0 } 0 0 [.ref r] sz M (fun v s M' => none = v ∧ sz = s ∧ zoutR M M' (p + 2) (r + 4) ∧ zrd E M' r p cs (r_sum (o, a, b, n, i, k, w, y, h, ps, t))) := by
  obtain ⟨h0, h1, h2, h3, hg, hz, hpr, bo, ba, bb, bn, bk, bw, b_y, bh⟩ := id H
  refine zMet.ofZ (by decide) (Nat.le_of_ble_eq_true rfl) ?_
  intro X hl hini C
  show Z X E 1 _ 0 0 sz M 0 [(0, .ref r)] []
  refine z_aload_n C d_R_startSum_0 rfl rfl ?_
  refine z_get C in_R h0 rfl 1 (by decide) fl_R_15 rfl rfl d_R_startSum_1 ?_
  refine z_aload_n C d_R_startSum_4 rfl rfl ?_
  refine z_get C in_R h0 rfl 3 (by decide) fl_R_43 rfl rfl d_R_startSum_5 ?_
  refine z_iconst (v := nI 0) C d_R_startSum_8 (by decide) ?_
  refine z_iast C h2 0 rfl n (rfl) (by omega) (by omega) d_R_startSum_9 ?_
  refine z_aload_n C d_R_startSum_10 rfl rfl ?_
  refine z_get C in_R ((zU_ne (by omega)).trans h0) rfl 2 (by decide) fl_R_19 rfl rfl d_R_startSum_11 ?_
  refine z_aload_n C d_R_startSum_14 rfl rfl ?_
  refine z_get C in_R ((zU_ne (by omega)).trans h0) rfl 3 (by decide) fl_R_43 rfl rfl d_R_startSum_15 ?_
  refine z_iconst (v := nI 0) C d_R_startSum_18 (by decide) ?_
  refine z_iast C ((zU_ne (by omega)).trans h3) 0 rfl n (rfl) (by omega) (by omega) d_R_startSum_19 ?_
  refine z_aload_n C d_R_startSum_20 rfl rfl ?_
  refine z_iconst (v := nI 1) C d_R_startSum_21 (by decide) ?_
  refine z_put C in_R ty_R tok_R nm_R ((zU_ne (by omega)).trans ((zU_ne (by omega)).trans h0)) rfl 8 (by decide) fl_R_57 rfl rfl rfl (rfl) (rfl) (Nat.le_of_ble_eq_true rfl) d_R_startSum_22 ?_
  show Z _ _ _ _ _ _ _ (zU (zU (zU M (r + 2) (.inl (E.2.1 0, 9, .inl (upd (fun j => nI (a j)) n (nI 0))))) (r + 3) (.inl (E.2.1 0, 9, .inl (upd (fun j => nI (b j)) n (nI 0))))) r (.inr (5, [.ref (r + 1), .ref (r + 2), .ref (r + 3), .int (nI n), .ref p, .ref (p + 2), .int (nI i), .int (nI k), .int (nI 1), .int (nI y), .int (nI h)]))) _ _ _
  refine z_aload_n C d_R_startSum_25 rfl rfl ?_
  refine z_iconst (v := nI 1) C d_R_startSum_26 (by decide) ?_
  refine z_put C in_R ty_R tok_R nm_R zU_eq rfl 9 (by decide) fl_R_81 rfl rfl rfl (rfl) (rfl) (Nat.le_of_ble_eq_true rfl) d_R_startSum_27 ?_
  show Z _ _ _ _ _ _ _ (zU (zU (zU (zU M (r + 2) (.inl (E.2.1 0, 9, .inl (upd (fun j => nI (a j)) n (nI 0))))) (r + 3) (.inl (E.2.1 0, 9, .inl (upd (fun j => nI (b j)) n (nI 0))))) r (.inr (5, [.ref (r + 1), .ref (r + 2), .ref (r + 3), .int (nI n), .ref p, .ref (p + 2), .int (nI i), .int (nI k), .int (nI 1), .int (nI y), .int (nI h)]))) r (.inr (5, [.ref (r + 1), .ref (r + 2), .ref (r + 3), .int (nI n), .ref p, .ref (p + 2), .int (nI i), .int (nI k), .int (nI 1), .int (nI 1), .int (nI h)]))) _ _ _
  refine z_world zU_uu ?_
  have hoGend : zoutR M (zU (zU (zU M (r + 2) (.inl (E.2.1 0, 9, .inl (upd (fun j => nI (a j)) n (nI 0))))) (r + 3) (.inl (E.2.1 0, 9, .inl (upd (fun j => nI (b j)) n (nI 0))))) r (.inr (5, [.ref (r + 1), .ref (r + 2), .ref (r + 3), .int (nI n), .ref p, .ref (p + 2), .int (nI i), .int (nI k), .int (nI 1), .int (nI 1), .int (nI h)]))) r (r + 4) := (fun q hq => ((zU_ne (by omega)).trans ((zU_ne (by omega)).trans (zU_ne (by omega)))))
  have Gend : zrd E (zU (zU (zU M (r + 2) (.inl (E.2.1 0, 9, .inl (upd (fun j => nI (a j)) n (nI 0))))) (r + 3) (.inl (E.2.1 0, 9, .inl (upd (fun j => nI (b j)) n (nI 0))))) r (.inr (5, [.ref (r + 1), .ref (r + 2), .ref (r + 3), .int (nI n), .ref p, .ref (p + 2), .int (nI i), .int (nI k), .int (nI 1), .int (nI 1), .int (nI h)]))) r p cs (o, updN a n 0, updN b n 0, n, i, k, 1, 1, h, ps, t) := ⟨zU_eq, (zU_ne (by omega)).trans ((zU_ne (by omega)).trans ((zU_ne (by omega)).trans h1)), (by rw [← nI_upd]; exact (zU_ne (by omega)).trans ((zU_ne (by omega)).trans zU_eq)), (by rw [← nI_upd]; exact (zU_ne (by omega)).trans zU_eq), zpg_oR hoGend hg (by omega), zln_oR hoGend hz (by omega), hpr, bo, (updN_b ba (by first | omega | decide)), (updN_b bb (by first | omega | decide)), by omega, by omega, by omega, by omega, by omega⟩
  have eend : r_sum (o, a, b, n, i, k, w, y, h, ps, t) = (o, updN a n 0, updN b n 0, n, i, k, 1, 1, h, ps, t) := rfl
  exact z_vret C ⟨rfl, rfl, (zoutR_tr zoutR_rf (zoutR_w (show zoutR M (zU (zU (zU M (r + 2) (.inl (E.2.1 0, 9, .inl (upd (fun j => nI (a j)) n (nI 0))))) (r + 3) (.inl (E.2.1 0, 9, .inl (upd (fun j => nI (b j)) n (nI 0))))) r (.inr (5, [.ref (r + 1), .ref (r + 2), .ref (r + 3), .int (nI n), .ref p, .ref (p + 2), .int (nI i), .int (nI k), .int (nI 1), .int (nI 1), .int (nI h)]))) r (r + 4) from (fun q hq => ((zU_ne (by omega)).trans ((zU_ne (by omega)).trans (zU_ne (by omega)))))) (by omega) (by omega))), by rw [eend]; exact Gend⟩ d_R_startSum_30
set_option maxHeartbeats 4000000 in
/-- startAtom -/
theorem r_startAtom (E : zE) (l : Launch) (sz : Nat) (M : zM) {r p : Nat} {cs : List Nat} {o a b : Nat → Nat} {n i k w y h : Nat} {ps : List (Nat × Int)} {t : Int32} (H : zrd E M r p cs (o, a, b, n, i, k, w, y, h, ps, t)) : zMet E l y_R_startAtom c_R_startAtom 1 none { frames := 0, cells := 0, slots := 0, locals := 0 } 0 0 [.ref r] sz M (fun v s M' => none = v ∧ sz = s ∧ zoutR M M' (p + 2) (r + 4) ∧ zrd E M' r p cs (r_atm (o, a, b, n, i, k, w, y, h, ps, t))) := by
  obtain ⟨h0, h1, h2, h3, hg, hz, hpr, bo, ba, bb, bn, bk, bw, b_y, bh⟩ := id H
  refine zMet.ofZ (by decide) (Nat.le_of_ble_eq_true rfl) ?_
  intro X hl hini C
  show Z X E 1 _ 0 0 sz M 0 [(0, .ref r)] []
  refine z_aload_n C d_R_startAtom_0 rfl rfl ?_
  refine z_dup C d_R_startAtom_1 rfl ?_
  refine z_get C in_R h0 rfl 6 (by decide) fl_R_35 rfl rfl d_R_startAtom_2 ?_
  refine z_iconst (v := nI 1) C d_R_startAtom_5 (by decide) ?_
  refine z_iadd C d_R_startAtom_6 ?_
  refine z_top (y := nI (i + 1)) (nI_add _ _) ?_
  refine z_put C in_R ty_R tok_R nm_R h0 rfl 6 (by decide) fl_R_35 rfl rfl rfl (rfl) (rfl) (Nat.le_of_ble_eq_true rfl) d_R_startAtom_7 ?_
  show Z _ _ _ _ _ _ _ (zU M r (.inr (5, [.ref (r + 1), .ref (r + 2), .ref (r + 3), .int (nI n), .ref p, .ref (p + 2), .int (nI (i + 1)), .int (nI k), .int (nI w), .int (nI y), .int (nI h)]))) _ _ _
  refine z_aload_n C d_R_startAtom_10 rfl rfl ?_
  refine z_iconst (v := nI 1) C d_R_startAtom_11 (by decide) ?_
  refine z_put C in_R ty_R tok_R nm_R zU_eq rfl 8 (by decide) fl_R_57 rfl rfl rfl (rfl) (rfl) (Nat.le_of_ble_eq_true rfl) d_R_startAtom_12 ?_
  show Z _ _ _ _ _ _ _ (zU (zU M r (.inr (5, [.ref (r + 1), .ref (r + 2), .ref (r + 3), .int (nI n), .ref p, .ref (p + 2), .int (nI (i + 1)), .int (nI k), .int (nI w), .int (nI y), .int (nI h)]))) r (.inr (5, [.ref (r + 1), .ref (r + 2), .ref (r + 3), .int (nI n), .ref p, .ref (p + 2), .int (nI (i + 1)), .int (nI k), .int (nI 1), .int (nI y), .int (nI h)]))) _ _ _
  refine z_world zU_uu ?_
  refine z_aload_n C d_R_startAtom_15 rfl rfl ?_
  refine z_iconst (v := nI 0) C d_R_startAtom_16 (by decide) ?_
  refine z_put C in_R ty_R tok_R nm_R zU_eq rfl 9 (by decide) fl_R_81 rfl rfl rfl (rfl) (rfl) (Nat.le_of_ble_eq_true rfl) d_R_startAtom_17 ?_
  show Z _ _ _ _ _ _ _ (zU (zU M r (.inr (5, [.ref (r + 1), .ref (r + 2), .ref (r + 3), .int (nI n), .ref p, .ref (p + 2), .int (nI (i + 1)), .int (nI k), .int (nI 1), .int (nI y), .int (nI h)]))) r (.inr (5, [.ref (r + 1), .ref (r + 2), .ref (r + 3), .int (nI n), .ref p, .ref (p + 2), .int (nI (i + 1)), .int (nI k), .int (nI 1), .int (nI 0), .int (nI h)]))) _ _ _
  refine z_world zU_uu ?_
  have hoGend : zoutR M (zU M r (.inr (5, [.ref (r + 1), .ref (r + 2), .ref (r + 3), .int (nI n), .ref p, .ref (p + 2), .int (nI (i + 1)), .int (nI k), .int (nI 1), .int (nI 0), .int (nI h)]))) r (r + 4) := (fun q hq => (zU_ne (by omega)))
  have Gend : zrd E (zU M r (.inr (5, [.ref (r + 1), .ref (r + 2), .ref (r + 3), .int (nI n), .ref p, .ref (p + 2), .int (nI (i + 1)), .int (nI k), .int (nI 1), .int (nI 0), .int (nI h)]))) r p cs (o, a, b, n, (i + 1), k, 1, 0, h, ps, t) := ⟨zU_eq, (zU_ne (by omega)).trans h1, (zU_ne (by omega)).trans h2, (zU_ne (by omega)).trans h3, zpg_oR hoGend hg (by omega), zln_oR hoGend hz (by omega), hpr, bo, ba, bb, by omega, by omega, by omega, by omega, by omega⟩
  have eend : r_atm (o, a, b, n, i, k, w, y, h, ps, t) = (o, a, b, n, (i + 1), k, 1, 0, h, ps, t) := rfl
  exact z_vret C ⟨rfl, rfl, (zoutR_tr zoutR_rf (zoutR_w (show zoutR M (zU M r (.inr (5, [.ref (r + 1), .ref (r + 2), .ref (r + 3), .int (nI n), .ref p, .ref (p + 2), .int (nI (i + 1)), .int (nI k), .int (nI 1), .int (nI 0), .int (nI h)]))) r (r + 4) from (fun q hq => (zU_ne (by omega)))) (by omega) (by omega))), by rw [eend]; exact Gend⟩ d_R_startAtom_20
set_option maxHeartbeats 4000000 in
/-- endAtom -/
theorem r_endAtom (E : zE) (l : Launch) (sz : Nat) (M : zM) {r p : Nat} {cs : List Nat} {o a b : Nat → Nat} {n i k w y h : Nat} {ps : List (Nat × Int)} {t : Int32} (H : zrd E M r p cs (o, a, b, n, i, k, w, y, h, ps, t)) (x : Nat × Int) {u v : Int32} (hu : u = nI x.1) (hv : v = Int32.ofInt x.2) : zMet E l y_R_endAtom c_R_endAtom 3 none { frames := 1, cells := 0, slots := 0, locals := 22 } 0 0 [.ref r, .int u, .int v] sz M (fun v s M' => none = v ∧ sz = s ∧ zoutR M M' (p + 2) (r + 4) ∧ zrd E M' r p cs (r_end x (o, a, b, n, i, k, w, y, h, ps, t))) := by
  obtain ⟨h0, h1, h2, h3, hg, hz, hpr, bo, ba, bb, bn, bk, bw, b_y, bh⟩ := id H
  refine zMet.ofZ (by decide) (Nat.le_of_ble_eq_true rfl) ?_
  intro X hl hini C
  show Z X E 3 _ 0 0 sz M 0 [(0, .ref r), (1, .int u), (2, .int v)] []
  refine z_aload_n C d_R_endAtom_0 rfl rfl ?_
  refine z_get C in_R h0 rfl 5 (by decide) fl_R_26 rfl rfl d_R_endAtom_1 ?_
  refine z_iload_n C d_R_endAtom_4 rfl rfl ?_
  refine z_iload_n C d_R_endAtom_5 rfl rfl ?_
  have hoG_6 : zoutR M M r (r + 4) := zoutR_rf
  have G_6 : zrd E M r p cs (o, a, b, n, i, k, w, y, h, ps, t) := ⟨h0, h1, h2, h3, zpg_oR hoG_6 hg (by omega), zln_oR hoG_6 hz (by omega), hpr, bo, ba, bb, by omega, by omega, by omega, by omega, by omega⟩
  refine z_callV (rest := []) (n := 2) (As := [.int u, .int v]) C (r_addG E X.2.1 sz _ G_6 x hu hv) ⟨z_cb C k_G_add ml_R_114 ii_G rfl rfl (by decide +kernel) ⟨by decide, by decide⟩, C.2.2.2.2.1 _ im_G_add, C.2.2.2.2.1 _ se_G_add⟩ (zrd_g G_6) rfl rfl rfl (Nat.le_of_ble_eq_true rfl) d_R_endAtom_6 ⟨by decide, by decide⟩ ?_
  intro v_6 s_6 M_6 hp_6
  obtain ⟨rfl, rfl, hfr_6, H_6⟩ := hp_6
  obtain ⟨h0_6, h1_6, h2_6, h3_6, hg_6, hz_6, hpr_6, bo_6, ba_6, bb_6, bn_6, bk_6, bw_6, b_y_6, bh_6⟩ := id H_6
  show Z _ _ _ _ _ _ _ _ 9 _ []
  refine z_aload_n C d_R_endAtom_9 rfl rfl ?_
  refine z_iconst (v := nI 0) C d_R_endAtom_10 (by decide) ?_
  refine z_put C in_R ty_R tok_R nm_R h0_6 rfl 8 (by decide) fl_R_57 rfl rfl rfl (rfl) (rfl) (Nat.le_of_ble_eq_true rfl) d_R_endAtom_11 ?_
  show Z _ _ _ _ _ _ _ (zU M_6 r (.inr (5, [.ref (r + 1), .ref (r + 2), .ref (r + 3), .int (nI n), .ref p, .ref (p + 2), .int (nI i), .int (nI k), .int (nI 0), .int (nI y), .int (nI h)]))) _ _ _
  refine z_aload_n C d_R_endAtom_14 rfl rfl ?_
  refine z_iconst (v := nI 1) C d_R_endAtom_15 (by decide) ?_
  refine z_put C in_R ty_R tok_R nm_R zU_eq rfl 10 (by decide) fl_R_99 rfl rfl rfl (rfl) (rfl) (Nat.le_of_ble_eq_true rfl) d_R_endAtom_16 ?_
  show Z _ _ _ _ _ _ _ (zU (zU M_6 r (.inr (5, [.ref (r + 1), .ref (r + 2), .ref (r + 3), .int (nI n), .ref p, .ref (p + 2), .int (nI i), .int (nI k), .int (nI 0), .int (nI y), .int (nI h)]))) r (.inr (5, [.ref (r + 1), .ref (r + 2), .ref (r + 3), .int (nI n), .ref p, .ref (p + 2), .int (nI i), .int (nI k), .int (nI 0), .int (nI y), .int (nI 1)]))) _ _ _
  refine z_world zU_uu ?_
  have hoGend : zoutR M_6 (zU M_6 r (.inr (5, [.ref (r + 1), .ref (r + 2), .ref (r + 3), .int (nI n), .ref p, .ref (p + 2), .int (nI i), .int (nI k), .int (nI 0), .int (nI y), .int (nI 1)]))) r (r + 4) := (fun q hq => (zU_ne (by omega)))
  have Gend : zrd E (zU M_6 r (.inr (5, [.ref (r + 1), .ref (r + 2), .ref (r + 3), .int (nI n), .ref p, .ref (p + 2), .int (nI i), .int (nI k), .int (nI 0), .int (nI y), .int (nI 1)]))) r p cs (o, a, b, n, i, k, 0, y, 1, (addp ps x), t) := ⟨zU_eq, (zU_ne (by omega)).trans h1_6, (zU_ne (by omega)).trans h2_6, (zU_ne (by omega)).trans h3_6, zpg_oR hoGend hg_6 (by omega), zln_oR hoGend hz_6 (by omega), hpr_6, bo_6, ba_6, bb_6, by omega, by omega, by omega, by omega, by omega⟩
  have eend : r_end x (o, a, b, n, i, k, w, y, h, ps, t) = (o, a, b, n, i, k, 0, y, 1, (addp ps x), t) := rfl
  exact z_vret C ⟨rfl, rfl, (zoutR_tr (zoutR_tr (zoutR_tr zoutR_rf (zoutR_w (show zoutR M M r (r + 4) from zoutR_rf) (by omega) (by omega))) hfr_6) (zoutR_w (show zoutR M_6 (zU M_6 r (.inr (5, [.ref (r + 1), .ref (r + 2), .ref (r + 3), .int (nI n), .ref p, .ref (p + 2), .int (nI i), .int (nI k), .int (nI 0), .int (nI y), .int (nI 1)]))) r (r + 4) from (fun q hq => (zU_ne (by omega)))) (by omega) (by omega))), by rw [eend]; exact Gend⟩ d_R_endAtom_19
set_option maxHeartbeats 4000000 in
/-- finishPower -/
theorem r_finishPower (E : zE) (l : Launch) (sz : Nat) (M : zM) {r p : Nat} {cs : List Nat} {o a b : Nat → Nat} {n i k w y h : Nat} {ps : List (Nat × Int)} {t : Int32} (H : zrd E M r p cs (o, a, b, n, i, k, w, y, h, ps, t)) : zMet E l y_R_finishPower c_R_finishPower 1 none { frames := 1, cells := 0, slots := 0, locals := 22 } 0 0 [.ref r] sz M (fun v s M' => none = v ∧ sz = s ∧ zoutR M M' (p + 2) (r + 4) ∧ ∃ b' ps', r_fp (o, a, b, n, i, k, w, y, h, ps, t) = (o, a, b', n, i, k, w, y, h, ps', t) ∧ zrd E M' r p cs (o, a, b', n, i, k, w, y, h, ps', t)) := by
  obtain ⟨h0, h1, h2, h3, hg, hz, hpr, bo, ba, bb, bn, bk, bw, b_y, bh⟩ := id H
  have hb9 := bb n
  refine zMet.ofZ (by decide) (Nat.le_of_ble_eq_true rfl) ?_
  intro X hl hini C
  show Z X E 1 _ 0 0 sz M 0 [(0, .ref r)] []
  refine z_aload_n C d_R_finishPower_0 rfl rfl ?_
  refine z_get C in_R h0 rfl 2 (by decide) fl_R_19 rfl rfl d_R_finishPower_1 ?_
  refine z_aload_n C d_R_finishPower_4 rfl rfl ?_
  refine z_get C in_R h0 rfl 3 (by decide) fl_R_43 rfl rfl d_R_finishPower_5 ?_
  refine z_iald C h3 0 rfl n (rfl) (by omega) (by omega) d_R_finishPower_8 ?_
  refine z_top (y := nI (b n)) rfl ?_
  refine z_if_eq (tgt := 39) C d_R_finishPower_9 (by decide) (fun c_9 => ?_) (fun c_9 => ?_)
  · have c_9 : (b n) = 0 := (nI_eq (a := (b n)) (b := 0) (by omega) (by omega)).mp c_9
    have hoGend : zoutR M M r (r + 4) := zoutR_rf
    have Gend : zrd E M r p cs (o, a, b, n, i, k, w, y, h, ps, t) := ⟨h0, h1, h2, h3, zpg_oR hoGend hg (by omega), zln_oR hoGend hz (by omega), hpr, bo, ba, bb, by omega, by omega, by omega, by omega, by omega⟩
    exact z_vret C ⟨rfl, rfl, (zoutR_tr zoutR_rf (zoutR_w (show zoutR M M r (r + 4) from zoutR_rf) (by omega) (by omega))), _, _, if_pos c_9, Gend⟩ d_R_finishPower_39
  · have c_9 : ¬ (b n) = 0 := fun q => c_9 (congrArg nI q)
    refine z_aload_n C d_R_finishPower_12 rfl rfl ?_
    refine z_get C in_R h0 rfl 5 (by decide) fl_R_26 rfl rfl d_R_finishPower_13 ?_
    refine z_aload_n C d_R_finishPower_16 rfl rfl ?_
    refine z_get C in_R h0 rfl 2 (by decide) fl_R_19 rfl rfl d_R_finishPower_17 ?_
    refine z_aload_n C d_R_finishPower_20 rfl rfl ?_
    refine z_get C in_R h0 rfl 3 (by decide) fl_R_43 rfl rfl d_R_finishPower_21 ?_
    refine z_iald C h3 0 rfl n (rfl) (by omega) (by omega) d_R_finishPower_24 ?_
    refine z_top (y := nI (b n)) rfl ?_
    refine z_iconst (v := nI 0) C d_R_finishPower_25 (by decide) ?_
    have hoG_26 : zoutR M M r (r + 4) := zoutR_rf
    have G_26 : zrd E M r p cs (o, a, b, n, i, k, w, y, h, ps, t) := ⟨h0, h1, h2, h3, zpg_oR hoG_26 hg (by omega), zln_oR hoG_26 hz (by omega), hpr, bo, ba, bb, by omega, by omega, by omega, by omega, by omega⟩
    refine z_callV (rest := []) (n := 2) (As := [.int (nI (b n)), .int (nI 0)]) C (r_addG E X.2.1 sz _ G_26 (b n, 0) rfl rfl) ⟨z_cb C k_G_add ml_R_114 ii_G rfl rfl (by decide +kernel) ⟨by decide, by decide⟩, C.2.2.2.2.1 _ im_G_add, C.2.2.2.2.1 _ se_G_add⟩ (zrd_g G_26) rfl rfl rfl (Nat.le_of_ble_eq_true rfl) d_R_finishPower_26 ⟨by decide, by decide⟩ ?_
    intro v_26 s_26 M_26 hp_26
    obtain ⟨rfl, rfl, hfr_26, H_26⟩ := hp_26
    obtain ⟨h0_26, h1_26, h2_26, h3_26, hg_26, hz_26, hpr_26, bo_26, ba_26, bb_26, bn_26, bk_26, bw_26, b_y_26, bh_26⟩ := id H_26
    show Z _ _ _ _ _ _ _ _ 29 _ []
    refine z_aload_n C d_R_finishPower_29 rfl rfl ?_
    refine z_get C in_R h0_26 rfl 2 (by decide) fl_R_19 rfl rfl d_R_finishPower_30 ?_
    refine z_aload_n C d_R_finishPower_33 rfl rfl ?_
    refine z_get C in_R h0_26 rfl 3 (by decide) fl_R_43 rfl rfl d_R_finishPower_34 ?_
    refine z_iconst (v := nI 0) C d_R_finishPower_37 (by decide) ?_
    refine z_iast C h3_26 0 rfl n (rfl) (by omega) (by omega) d_R_finishPower_38 ?_
    have hoGend : zoutR M_26 (zU M_26 (r + 3) (.inl (E.2.1 0, 9, .inl (upd (fun j => nI (b j)) n (nI 0))))) r (r + 4) := (fun q hq => (zU_ne (by omega)))
    have Gend : zrd E (zU M_26 (r + 3) (.inl (E.2.1 0, 9, .inl (upd (fun j => nI (b j)) n (nI 0))))) r p cs (o, a, (updN b n 0), n, i, k, w, y, h, (addp ps (b n, 0)), t) := ⟨(zU_ne (by omega)).trans h0_26, (zU_ne (by omega)).trans h1_26, (zU_ne (by omega)).trans h2_26, (by rw [← nI_upd]; exact zU_eq), zpg_oR hoGend hg_26 (by omega), zln_oR hoGend hz_26 (by omega), hpr_26, bo_26, ba_26, (updN_b bb_26 (by first | omega | decide)), by omega, by omega, by omega, by omega, by omega⟩
    exact z_vret C ⟨rfl, rfl, (zoutR_tr (zoutR_tr (zoutR_tr zoutR_rf (zoutR_w (show zoutR M M r (r + 4) from zoutR_rf) (by omega) (by omega))) hfr_26) (zoutR_w (show zoutR M_26 (zU M_26 (r + 3) (.inl (E.2.1 0, 9, .inl (upd (fun j => nI (b j)) n (nI 0))))) r (r + 4) from (fun q hq => (zU_ne (by omega)))) (by omega) (by omega))), _, _, if_neg c_9, Gend⟩ d_R_finishPower_39
set_option maxHeartbeats 4000000 in
/-- finishTerm -/
theorem r_finishTerm (E : zE) (l : Launch) (sz : Nat) (M : zM) {r p : Nat} {cs : List Nat} {o a b : Nat → Nat} {n i k w y h : Nat} {ps : List (Nat × Int)} {t : Int32} (H : zrd E M r p cs (o, a, b, n, i, k, w, y, h, ps, t)) : zMet E l y_R_finishTerm c_R_finishTerm 1 none { frames := 2, cells := 0, slots := 0, locals := 42 } 0 0 [.ref r] sz M (fun v s M' => none = v ∧ sz = s ∧ zoutR M M' (p + 2) (r + 4) ∧ ∃ a' b' ps', r_ft (o, a, b, n, i, k, w, y, h, ps, t) = (o, a', b', n, i, k, w, y, h, ps', t) ∧ zrd E M' r p cs (o, a', b', n, i, k, w, y, h, ps', t)) := by
  obtain ⟨h0, h1, h2, h3, hg, hz, hpr, bo, ba, bb, bn, bk, bw, b_y, bh⟩ := id H
  have ha9 := ba n
  refine zMet.ofZ (by decide) (Nat.le_of_ble_eq_true rfl) ?_
  intro X hl hini C
  show Z X E 1 _ 0 0 sz M 0 [(0, .ref r)] []
  refine z_aload_n C d_R_finishTerm_0 rfl rfl ?_
  have hoG_1 : zoutR M M r (r + 4) := zoutR_rf
  have G_1 : zrd E M r p cs (o, a, b, n, i, k, w, y, h, ps, t) := ⟨h0, h1, h2, h3, zpg_oR hoG_1 hg (by omega), zln_oR hoG_1 hz (by omega), hpr, bo, ba, bb, by omega, by omega, by omega, by omega, by omega⟩
  refine z_callV (rest := []) (n := 0) (As := []) C (r_finishPower E X.2.1 sz _ G_1) ⟨z_cb C k_R_finishPower ml_R_105 ii_R rfl rfl (by decide +kernel) ⟨by decide, by decide⟩, C.2.2.2.2.1 _ im_R_finishPower, C.2.2.2.2.1 _ se_R_finishPower⟩ G_1.1 rfl rfl rfl (Nat.le_of_ble_eq_true rfl) d_R_finishTerm_1 ⟨by decide, by decide⟩ ?_
  intro v_1 s_1 M_1 hp_1
  obtain ⟨rfl, rfl, hfr_1, bf, pf, ef, H_1⟩ := hp_1
  obtain ⟨h0_1, h1_1, h2_1, h3_1, hg_1, hz_1, hpr_1, bo_1, ba_1, bb_1, bn_1, bk_1, bw_1, b_y_1, bh_1⟩ := id H_1
  show Z _ _ _ _ _ _ _ _ 4 _ []
  refine z_aload_n C d_R_finishTerm_4 rfl rfl ?_
  refine z_get C in_R h0_1 rfl 1 (by decide) fl_R_15 rfl rfl d_R_finishTerm_5 ?_
  refine z_aload_n C d_R_finishTerm_8 rfl rfl ?_
  refine z_get C in_R h0_1 rfl 3 (by decide) fl_R_43 rfl rfl d_R_finishTerm_9 ?_
  refine z_iald C h2_1 0 rfl n (rfl) (by omega) (by omega) d_R_finishTerm_12 ?_
  refine z_top (y := nI (a n)) rfl ?_
  refine z_if_eq (tgt := 43) C d_R_finishTerm_13 (by decide) (fun c_13 => ?_) (fun c_13 => ?_)
  · have c_13 : (a n) = 0 := (nI_eq (a := (a n)) (b := 0) (by omega) (by omega)).mp c_13
    have hoGend : zoutR M_1 M_1 r (r + 4) := zoutR_rf
    have Gend : zrd E M_1 r p cs (o, a, bf, n, i, k, w, y, h, pf, t) := ⟨h0_1, h1_1, h2_1, h3_1, zpg_oR hoGend hg_1 (by omega), zln_oR hoGend hz_1 (by omega), hpr_1, bo_1, ba_1, bb_1, by omega, by omega, by omega, by omega, by omega⟩
    exact z_vret C ⟨rfl, rfl, (zoutR_tr (zoutR_tr (zoutR_tr zoutR_rf (zoutR_w (show zoutR M M r (r + 4) from zoutR_rf) (by omega) (by omega))) hfr_1) (zoutR_w (show zoutR M_1 M_1 r (r + 4) from zoutR_rf) (by omega) (by omega))), _, _, _, by unfold r_ft; rw [ef]; exact if_pos c_13, Gend⟩ d_R_finishTerm_43
  · have c_13 : ¬ (a n) = 0 := fun q => c_13 (congrArg nI q)
    refine z_aload_n C d_R_finishTerm_16 rfl rfl ?_
    refine z_get C in_R h0_1 rfl 5 (by decide) fl_R_26 rfl rfl d_R_finishTerm_17 ?_
    refine z_aload_n C d_R_finishTerm_20 rfl rfl ?_
    refine z_get C in_R h0_1 rfl 1 (by decide) fl_R_15 rfl rfl d_R_finishTerm_21 ?_
    refine z_aload_n C d_R_finishTerm_24 rfl rfl ?_
    refine z_get C in_R h0_1 rfl 3 (by decide) fl_R_43 rfl rfl d_R_finishTerm_25 ?_
    refine z_iald C h2_1 0 rfl n (rfl) (by omega) (by omega) d_R_finishTerm_28 ?_
    refine z_top (y := nI (a n)) rfl ?_
    refine z_iconst (v := nI 0) C d_R_finishTerm_29 (by decide) ?_
    have hoG_30 : zoutR M_1 M_1 r (r + 4) := zoutR_rf
    have G_30 : zrd E M_1 r p cs (o, a, bf, n, i, k, w, y, h, pf, t) := ⟨h0_1, h1_1, h2_1, h3_1, zpg_oR hoG_30 hg_1 (by omega), zln_oR hoG_30 hz_1 (by omega), hpr_1, bo_1, ba_1, bb_1, by omega, by omega, by omega, by omega, by omega⟩
    refine z_callV (rest := []) (n := 2) (As := [.int (nI (a n)), .int (nI 0)]) C (r_addG E X.2.1 sz _ G_30 (a n, 0) rfl rfl) ⟨z_cb C k_G_add ml_R_114 ii_G rfl rfl (by decide +kernel) ⟨by decide, by decide⟩, C.2.2.2.2.1 _ im_G_add, C.2.2.2.2.1 _ se_G_add⟩ (zrd_g G_30) rfl rfl rfl (Nat.le_of_ble_eq_true rfl) d_R_finishTerm_30 ⟨by decide, by decide⟩ ?_
    intro v_30 s_30 M_30 hp_30
    obtain ⟨rfl, rfl, hfr_30, H_30⟩ := hp_30
    obtain ⟨h0_30, h1_30, h2_30, h3_30, hg_30, hz_30, hpr_30, bo_30, ba_30, bb_30, bn_30, bk_30, bw_30, b_y_30, bh_30⟩ := id H_30
    show Z _ _ _ _ _ _ _ _ 33 _ []
    refine z_aload_n C d_R_finishTerm_33 rfl rfl ?_
    refine z_get C in_R h0_30 rfl 1 (by decide) fl_R_15 rfl rfl d_R_finishTerm_34 ?_
    refine z_aload_n C d_R_finishTerm_37 rfl rfl ?_
    refine z_get C in_R h0_30 rfl 3 (by decide) fl_R_43 rfl rfl d_R_finishTerm_38 ?_
    refine z_iconst (v := nI 0) C d_R_finishTerm_41 (by decide) ?_
    refine z_iast C h2_30 0 rfl n (rfl) (by omega) (by omega) d_R_finishTerm_42 ?_
    have hoGend : zoutR M_30 (zU M_30 (r + 2) (.inl (E.2.1 0, 9, .inl (upd (fun j => nI (a j)) n (nI 0))))) r (r + 4) := (fun q hq => (zU_ne (by omega)))
    have Gend : zrd E (zU M_30 (r + 2) (.inl (E.2.1 0, 9, .inl (upd (fun j => nI (a j)) n (nI 0))))) r p cs (o, (updN a n 0), bf, n, i, k, w, y, h, (addp pf (a n, 0)), t) := ⟨(zU_ne (by omega)).trans h0_30, (zU_ne (by omega)).trans h1_30, (by rw [← nI_upd]; exact zU_eq), (zU_ne (by omega)).trans h3_30, zpg_oR hoGend hg_30 (by omega), zln_oR hoGend hz_30 (by omega), hpr_30, bo_30, (updN_b ba_30 (by first | omega | decide)), bb_30, by omega, by omega, by omega, by omega, by omega⟩
    exact z_vret C ⟨rfl, rfl, (zoutR_tr (zoutR_tr (zoutR_tr (zoutR_tr (zoutR_tr zoutR_rf (zoutR_w (show zoutR M M r (r + 4) from zoutR_rf) (by omega) (by omega))) hfr_1) (zoutR_w (show zoutR M_1 M_1 r (r + 4) from zoutR_rf) (by omega) (by omega))) hfr_30) (zoutR_w (show zoutR M_30 (zU M_30 (r + 2) (.inl (E.2.1 0, 9, .inl (upd (fun j => nI (a j)) n (nI 0))))) r (r + 4) from (fun q hq => (zU_ne (by omega)))) (by omega) (by omega))), _, _, _, by unfold r_ft; rw [ef]; exact if_neg c_13, Gend⟩ d_R_finishTerm_43
set_option maxHeartbeats 4000000 in
/-- closeOpening -/
theorem r_closeOpening (E : zE) (l : Launch) (sz : Nat) (M : zM) {r p : Nat} {cs : List Nat} {o a b : Nat → Nat} {n i k w y h : Nat} {ps : List (Nat × Int)} {t : Int32} (H : zrd E M r p cs (o, a, b, n, i, k, w, y, h, ps, t)) (hn : 1 ≤ n) : zMet E l y_R_closeOpening c_R_closeOpening 2 none { frames := 3, cells := 0, slots := 0, locals := 62 } 0 0 [.ref r] sz M (fun v s M' => none = v ∧ sz = s ∧ zoutR M M' (p + 2) (r + 4) ∧ zrd E M' r p cs (r_cl (o, a, b, n, i, k, w, y, h, ps, t))) := by
  obtain ⟨h0, h1, h2, h3, hg, hz, hpr, bo, ba, bb, bn, bk, bw, b_y, bh⟩ := id H
  have ho9 := bo n
  refine zMet.ofZ (by decide) (Nat.le_of_ble_eq_true rfl) ?_
  intro X hl hini C
  show Z X E 2 _ 0 0 sz M 0 [(0, .ref r)] []
  refine z_aload_n C d_R_closeOpening_0 rfl rfl ?_
  have hoG_1 : zoutR M M r (r + 4) := zoutR_rf
  have G_1 : zrd E M r p cs (o, a, b, n, i, k, w, y, h, ps, t) := ⟨h0, h1, h2, h3, zpg_oR hoG_1 hg (by omega), zln_oR hoG_1 hz (by omega), hpr, bo, ba, bb, by omega, by omega, by omega, by omega, by omega⟩
  refine z_callV (rest := []) (n := 0) (As := []) C (r_finishTerm E X.2.1 sz _ G_1) ⟨z_cb C k_R_finishTerm ml_R_71 ii_R rfl rfl (by decide +kernel) ⟨by decide, by decide⟩, C.2.2.2.2.1 _ im_R_finishTerm, C.2.2.2.2.1 _ se_R_finishTerm⟩ G_1.1 rfl rfl rfl (Nat.le_of_ble_eq_true rfl) d_R_closeOpening_1 ⟨by decide, by decide⟩ ?_
  intro v_1 s_1 M_1 hp_1
  obtain ⟨rfl, rfl, hfr_1, af, bf, pf, ef, H_1⟩ := hp_1
  obtain ⟨h0_1, h1_1, h2_1, h3_1, hg_1, hz_1, hpr_1, bo_1, ba_1, bb_1, bn_1, bk_1, bw_1, b_y_1, bh_1⟩ := id H_1
  show Z _ _ _ _ _ _ _ _ 4 _ []
  refine z_aload_n C d_R_closeOpening_4 rfl rfl ?_
  refine z_get C in_R h0_1 rfl 0 (by decide) fl_R_9 rfl rfl d_R_closeOpening_5 ?_
  refine z_aload_n C d_R_closeOpening_8 rfl rfl ?_
  refine z_get C in_R h0_1 rfl 3 (by decide) fl_R_43 rfl rfl d_R_closeOpening_9 ?_
  refine z_cald C h1_1 1 rfl n (rfl) (by omega) (by omega) d_R_closeOpening_12 ?_
  refine z_top (y := nI (o n)) rfl ?_
  refine z_istore_n (L' := [(0, .ref r), (1, .int (nI (o n)))]) C d_R_closeOpening_13 rfl (by decide) rfl ?_
  refine z_aload_n C d_R_closeOpening_14 rfl rfl ?_
  refine z_dup C d_R_closeOpening_15 rfl ?_
  refine z_get C in_R h0_1 rfl 3 (by decide) fl_R_43 rfl rfl d_R_closeOpening_16 ?_
  refine z_iconst (v := nI 1) C d_R_closeOpening_19 (by decide) ?_
  refine z_isub C d_R_closeOpening_20 ?_
  refine z_top (y := nI (n - 1)) (pk_sub (by omega)) ?_
  refine z_put C in_R ty_R tok_R nm_R h0_1 rfl 3 (by decide) fl_R_43 rfl rfl rfl (rfl) (rfl) (Nat.le_of_ble_eq_true rfl) d_R_closeOpening_21 ?_
  show Z _ _ _ _ _ _ _ (zU M_1 r (.inr (5, [.ref (r + 1), .ref (r + 2), .ref (r + 3), .int (nI (n - 1)), .ref p, .ref (p + 2), .int (nI i), .int (nI k), .int (nI w), .int (nI y), .int (nI h)]))) _ _ _
  refine z_iload_n C d_R_closeOpening_24 rfl rfl ?_
  refine z_bipush (v := nI 100) C d_R_closeOpening_25 (by decide) ?_
  refine z_icmp_ne (tgt := 43) C d_R_closeOpening_27 (by decide) (fun c_27 => ?_) (fun c_27 => ?_)
  · have c_27 : ¬ (o n) = 100 := fun q => c_27 (congrArg nI q)
    refine z_iload_n C d_R_closeOpening_43 rfl rfl ?_
    refine z_bipush (v := nI 44) C d_R_closeOpening_44 (by decide) ?_
    refine z_icmp_ne (tgt := 59) C d_R_closeOpening_46 (by decide) (fun c_46 => ?_) (fun c_46 => ?_)
    · have c_46 : ¬ (o n) = 44 := fun q => c_46 (congrArg nI q)
      refine z_aload_n C d_R_closeOpening_59 rfl rfl ?_
      refine z_iconst (v := nI 0) C d_R_closeOpening_60 (by decide) ?_
      refine z_put C in_R ty_R tok_R nm_R zU_eq rfl 8 (by decide) fl_R_57 rfl rfl rfl (rfl) (rfl) (Nat.le_of_ble_eq_true rfl) d_R_closeOpening_61 ?_
      show Z _ _ _ _ _ _ _ (zU (zU M_1 r (.inr (5, [.ref (r + 1), .ref (r + 2), .ref (r + 3), .int (nI (n - 1)), .ref p, .ref (p + 2), .int (nI i), .int (nI k), .int (nI w), .int (nI y), .int (nI h)]))) r (.inr (5, [.ref (r + 1), .ref (r + 2), .ref (r + 3), .int (nI (n - 1)), .ref p, .ref (p + 2), .int (nI i), .int (nI k), .int (nI 0), .int (nI y), .int (nI h)]))) _ _ _
      refine z_world zU_uu ?_
      refine z_aload_n C d_R_closeOpening_64 rfl rfl ?_
      refine z_iconst (v := nI 1) C d_R_closeOpening_65 (by decide) ?_
      refine z_put C in_R ty_R tok_R nm_R zU_eq rfl 10 (by decide) fl_R_99 rfl rfl rfl (rfl) (rfl) (Nat.le_of_ble_eq_true rfl) d_R_closeOpening_66 ?_
      show Z _ _ _ _ _ _ _ (zU (zU M_1 r (.inr (5, [.ref (r + 1), .ref (r + 2), .ref (r + 3), .int (nI (n - 1)), .ref p, .ref (p + 2), .int (nI i), .int (nI k), .int (nI 0), .int (nI y), .int (nI h)]))) r (.inr (5, [.ref (r + 1), .ref (r + 2), .ref (r + 3), .int (nI (n - 1)), .ref p, .ref (p + 2), .int (nI i), .int (nI k), .int (nI 0), .int (nI y), .int (nI 1)]))) _ _ _
      refine z_world zU_uu ?_
      have hoGend : zoutR M_1 (zU M_1 r (.inr (5, [.ref (r + 1), .ref (r + 2), .ref (r + 3), .int (nI (n - 1)), .ref p, .ref (p + 2), .int (nI i), .int (nI k), .int (nI 0), .int (nI y), .int (nI 1)]))) r (r + 4) := (fun q hq => (zU_ne (by omega)))
      have Gend : zrd E (zU M_1 r (.inr (5, [.ref (r + 1), .ref (r + 2), .ref (r + 3), .int (nI (n - 1)), .ref p, .ref (p + 2), .int (nI i), .int (nI k), .int (nI 0), .int (nI y), .int (nI 1)]))) r p cs (o, af, bf, (n - 1), i, k, 0, y, 1, pf, t) := ⟨zU_eq, (zU_ne (by omega)).trans h1_1, (zU_ne (by omega)).trans h2_1, (zU_ne (by omega)).trans h3_1, zpg_oR hoGend hg_1 (by omega), zln_oR hoGend hz_1 (by omega), hpr_1, bo_1, ba_1, bb_1, by omega, by omega, by omega, by omega, by omega⟩
      have eend : r_cl (o, a, b, n, i, k, w, y, h, ps, t) = (o, af, bf, (n - 1), i, k, 0, y, 1, pf, t) := by unfold r_cl; rw [ef]; simp only [r_cl2]; (repeat' split) <;> first | rfl | omega
      exact z_vret C ⟨rfl, rfl, (zoutR_tr (zoutR_tr (zoutR_tr zoutR_rf (zoutR_w (show zoutR M M r (r + 4) from zoutR_rf) (by omega) (by omega))) hfr_1) (zoutR_w (show zoutR M_1 (zU M_1 r (.inr (5, [.ref (r + 1), .ref (r + 2), .ref (r + 3), .int (nI (n - 1)), .ref p, .ref (p + 2), .int (nI i), .int (nI k), .int (nI 0), .int (nI y), .int (nI 1)]))) r (r + 4) from (fun q hq => (zU_ne (by omega)))) (by omega) (by omega))), by rw [eend]; exact Gend⟩ d_R_closeOpening_69
    · have c_46 : (o n) = 44 := (nI_eq (a := (o n)) (b := 44) (by omega) (by omega)).mp c_46
      refine z_aload_n C d_R_closeOpening_49 rfl rfl ?_
      refine z_get C in_R zU_eq rfl 5 (by decide) fl_R_26 rfl rfl d_R_closeOpening_50 ?_
      refine z_bipush (v := nI 12) C d_R_closeOpening_53 (by decide) ?_
      refine z_iconst (v := nI 0) C d_R_closeOpening_55 (by decide) ?_
      have hoG_56 : zoutR M_1 (zU M_1 r (.inr (5, [.ref (r + 1), .ref (r + 2), .ref (r + 3), .int (nI (n - 1)), .ref p, .ref (p + 2), .int (nI i), .int (nI k), .int (nI w), .int (nI y), .int (nI h)]))) r (r + 4) := (fun q hq => (zU_ne (by omega)))
      have G_56 : zrd E (zU M_1 r (.inr (5, [.ref (r + 1), .ref (r + 2), .ref (r + 3), .int (nI (n - 1)), .ref p, .ref (p + 2), .int (nI i), .int (nI k), .int (nI w), .int (nI y), .int (nI h)]))) r p cs (o, af, bf, (n - 1), i, k, w, y, h, pf, t) := ⟨zU_eq, (zU_ne (by omega)).trans h1_1, (zU_ne (by omega)).trans h2_1, (zU_ne (by omega)).trans h3_1, zpg_oR hoG_56 hg_1 (by omega), zln_oR hoG_56 hz_1 (by omega), hpr_1, bo_1, ba_1, bb_1, by omega, by omega, by omega, by omega, by omega⟩
      refine z_callV (rest := []) (n := 2) (As := [.int (nI 12), .int (nI 0)]) C (r_addG E X.2.1 sz _ G_56 (12, 0) rfl rfl) ⟨z_cb C k_G_add ml_R_114 ii_G rfl rfl (by decide +kernel) ⟨by decide, by decide⟩, C.2.2.2.2.1 _ im_G_add, C.2.2.2.2.1 _ se_G_add⟩ (zrd_g G_56) rfl rfl rfl (Nat.le_of_ble_eq_true rfl) d_R_closeOpening_56 ⟨by decide, by decide⟩ ?_
      intro v_56 s_56 M_56 hp_56
      obtain ⟨rfl, rfl, hfr_56, H_56⟩ := hp_56
      obtain ⟨h0_56, h1_56, h2_56, h3_56, hg_56, hz_56, hpr_56, bo_56, ba_56, bb_56, bn_56, bk_56, bw_56, b_y_56, bh_56⟩ := id H_56
      show Z _ _ _ _ _ _ _ _ 59 _ []
      refine z_aload_n C d_R_closeOpening_59 rfl rfl ?_
      refine z_iconst (v := nI 0) C d_R_closeOpening_60 (by decide) ?_
      refine z_put C in_R ty_R tok_R nm_R h0_56 rfl 8 (by decide) fl_R_57 rfl rfl rfl (rfl) (rfl) (Nat.le_of_ble_eq_true rfl) d_R_closeOpening_61 ?_
      show Z _ _ _ _ _ _ _ (zU M_56 r (.inr (5, [.ref (r + 1), .ref (r + 2), .ref (r + 3), .int (nI (n - 1)), .ref p, .ref (p + 2), .int (nI i), .int (nI k), .int (nI 0), .int (nI y), .int (nI h)]))) _ _ _
      refine z_aload_n C d_R_closeOpening_64 rfl rfl ?_
      refine z_iconst (v := nI 1) C d_R_closeOpening_65 (by decide) ?_
      refine z_put C in_R ty_R tok_R nm_R zU_eq rfl 10 (by decide) fl_R_99 rfl rfl rfl (rfl) (rfl) (Nat.le_of_ble_eq_true rfl) d_R_closeOpening_66 ?_
      show Z _ _ _ _ _ _ _ (zU (zU M_56 r (.inr (5, [.ref (r + 1), .ref (r + 2), .ref (r + 3), .int (nI (n - 1)), .ref p, .ref (p + 2), .int (nI i), .int (nI k), .int (nI 0), .int (nI y), .int (nI h)]))) r (.inr (5, [.ref (r + 1), .ref (r + 2), .ref (r + 3), .int (nI (n - 1)), .ref p, .ref (p + 2), .int (nI i), .int (nI k), .int (nI 0), .int (nI y), .int (nI 1)]))) _ _ _
      refine z_world zU_uu ?_
      have hoGend : zoutR M_56 (zU M_56 r (.inr (5, [.ref (r + 1), .ref (r + 2), .ref (r + 3), .int (nI (n - 1)), .ref p, .ref (p + 2), .int (nI i), .int (nI k), .int (nI 0), .int (nI y), .int (nI 1)]))) r (r + 4) := (fun q hq => (zU_ne (by omega)))
      have Gend : zrd E (zU M_56 r (.inr (5, [.ref (r + 1), .ref (r + 2), .ref (r + 3), .int (nI (n - 1)), .ref p, .ref (p + 2), .int (nI i), .int (nI k), .int (nI 0), .int (nI y), .int (nI 1)]))) r p cs (o, af, bf, (n - 1), i, k, 0, y, 1, (addp pf (12, 0)), t) := ⟨zU_eq, (zU_ne (by omega)).trans h1_56, (zU_ne (by omega)).trans h2_56, (zU_ne (by omega)).trans h3_56, zpg_oR hoGend hg_56 (by omega), zln_oR hoGend hz_56 (by omega), hpr_56, bo_56, ba_56, bb_56, by omega, by omega, by omega, by omega, by omega⟩
      have eend : r_cl (o, a, b, n, i, k, w, y, h, ps, t) = (o, af, bf, (n - 1), i, k, 0, y, 1, (addp pf (12, 0)), t) := by unfold r_cl; rw [ef]; simp only [r_cl2]; (repeat' split) <;> first | rfl | omega
      exact z_vret C ⟨rfl, rfl, (zoutR_tr (zoutR_tr (zoutR_tr (zoutR_tr (zoutR_tr zoutR_rf (zoutR_w (show zoutR M M r (r + 4) from zoutR_rf) (by omega) (by omega))) hfr_1) (zoutR_w (show zoutR M_1 (zU M_1 r (.inr (5, [.ref (r + 1), .ref (r + 2), .ref (r + 3), .int (nI (n - 1)), .ref p, .ref (p + 2), .int (nI i), .int (nI k), .int (nI w), .int (nI y), .int (nI h)]))) r (r + 4) from (fun q hq => (zU_ne (by omega)))) (by omega) (by omega))) hfr_56) (zoutR_w (show zoutR M_56 (zU M_56 r (.inr (5, [.ref (r + 1), .ref (r + 2), .ref (r + 3), .int (nI (n - 1)), .ref p, .ref (p + 2), .int (nI i), .int (nI k), .int (nI 0), .int (nI y), .int (nI 1)]))) r (r + 4) from (fun q hq => (zU_ne (by omega)))) (by omega) (by omega))), by rw [eend]; exact Gend⟩ d_R_closeOpening_69
  · have c_27 : (o n) = 100 := (nI_eq (a := (o n)) (b := 100) (by omega) (by omega)).mp c_27
    refine z_aload_n C d_R_closeOpening_30 rfl rfl ?_
    refine z_get C in_R zU_eq rfl 5 (by decide) fl_R_26 rfl rfl d_R_closeOpening_31 ?_
    refine z_bipush (v := nI 7) C d_R_closeOpening_34 (by decide) ?_
    refine z_iconst (v := nI 0) C d_R_closeOpening_36 (by decide) ?_
    have hoG_37 : zoutR M_1 (zU M_1 r (.inr (5, [.ref (r + 1), .ref (r + 2), .ref (r + 3), .int (nI (n - 1)), .ref p, .ref (p + 2), .int (nI i), .int (nI k), .int (nI w), .int (nI y), .int (nI h)]))) r (r + 4) := (fun q hq => (zU_ne (by omega)))
    have G_37 : zrd E (zU M_1 r (.inr (5, [.ref (r + 1), .ref (r + 2), .ref (r + 3), .int (nI (n - 1)), .ref p, .ref (p + 2), .int (nI i), .int (nI k), .int (nI w), .int (nI y), .int (nI h)]))) r p cs (o, af, bf, (n - 1), i, k, w, y, h, pf, t) := ⟨zU_eq, (zU_ne (by omega)).trans h1_1, (zU_ne (by omega)).trans h2_1, (zU_ne (by omega)).trans h3_1, zpg_oR hoG_37 hg_1 (by omega), zln_oR hoG_37 hz_1 (by omega), hpr_1, bo_1, ba_1, bb_1, by omega, by omega, by omega, by omega, by omega⟩
    refine z_callV (rest := []) (n := 2) (As := [.int (nI 7), .int (nI 0)]) C (r_addG E X.2.1 sz _ G_37 (7, 0) rfl rfl) ⟨z_cb C k_G_add ml_R_114 ii_G rfl rfl (by decide +kernel) ⟨by decide, by decide⟩, C.2.2.2.2.1 _ im_G_add, C.2.2.2.2.1 _ se_G_add⟩ (zrd_g G_37) rfl rfl rfl (Nat.le_of_ble_eq_true rfl) d_R_closeOpening_37 ⟨by decide, by decide⟩ ?_
    intro v_37 s_37 M_37 hp_37
    obtain ⟨rfl, rfl, hfr_37, H_37⟩ := hp_37
    obtain ⟨h0_37, h1_37, h2_37, h3_37, hg_37, hz_37, hpr_37, bo_37, ba_37, bb_37, bn_37, bk_37, bw_37, b_y_37, bh_37⟩ := id H_37
    show Z _ _ _ _ _ _ _ _ 40 _ []
    refine z_goto (tgt := 59) C d_R_closeOpening_40 (by decide) ?_
    refine z_aload_n C d_R_closeOpening_59 rfl rfl ?_
    refine z_iconst (v := nI 0) C d_R_closeOpening_60 (by decide) ?_
    refine z_put C in_R ty_R tok_R nm_R h0_37 rfl 8 (by decide) fl_R_57 rfl rfl rfl (rfl) (rfl) (Nat.le_of_ble_eq_true rfl) d_R_closeOpening_61 ?_
    show Z _ _ _ _ _ _ _ (zU M_37 r (.inr (5, [.ref (r + 1), .ref (r + 2), .ref (r + 3), .int (nI (n - 1)), .ref p, .ref (p + 2), .int (nI i), .int (nI k), .int (nI 0), .int (nI y), .int (nI h)]))) _ _ _
    refine z_aload_n C d_R_closeOpening_64 rfl rfl ?_
    refine z_iconst (v := nI 1) C d_R_closeOpening_65 (by decide) ?_
    refine z_put C in_R ty_R tok_R nm_R zU_eq rfl 10 (by decide) fl_R_99 rfl rfl rfl (rfl) (rfl) (Nat.le_of_ble_eq_true rfl) d_R_closeOpening_66 ?_
    show Z _ _ _ _ _ _ _ (zU (zU M_37 r (.inr (5, [.ref (r + 1), .ref (r + 2), .ref (r + 3), .int (nI (n - 1)), .ref p, .ref (p + 2), .int (nI i), .int (nI k), .int (nI 0), .int (nI y), .int (nI h)]))) r (.inr (5, [.ref (r + 1), .ref (r + 2), .ref (r + 3), .int (nI (n - 1)), .ref p, .ref (p + 2), .int (nI i), .int (nI k), .int (nI 0), .int (nI y), .int (nI 1)]))) _ _ _
    refine z_world zU_uu ?_
    have hoGend : zoutR M_37 (zU M_37 r (.inr (5, [.ref (r + 1), .ref (r + 2), .ref (r + 3), .int (nI (n - 1)), .ref p, .ref (p + 2), .int (nI i), .int (nI k), .int (nI 0), .int (nI y), .int (nI 1)]))) r (r + 4) := (fun q hq => (zU_ne (by omega)))
    have Gend : zrd E (zU M_37 r (.inr (5, [.ref (r + 1), .ref (r + 2), .ref (r + 3), .int (nI (n - 1)), .ref p, .ref (p + 2), .int (nI i), .int (nI k), .int (nI 0), .int (nI y), .int (nI 1)]))) r p cs (o, af, bf, (n - 1), i, k, 0, y, 1, (addp pf (7, 0)), t) := ⟨zU_eq, (zU_ne (by omega)).trans h1_37, (zU_ne (by omega)).trans h2_37, (zU_ne (by omega)).trans h3_37, zpg_oR hoGend hg_37 (by omega), zln_oR hoGend hz_37 (by omega), hpr_37, bo_37, ba_37, bb_37, by omega, by omega, by omega, by omega, by omega⟩
    have eend : r_cl (o, a, b, n, i, k, w, y, h, ps, t) = (o, af, bf, (n - 1), i, k, 0, y, 1, (addp pf (7, 0)), t) := by unfold r_cl; rw [ef]; simp only [r_cl2]; (repeat' split) <;> first | rfl | omega
    exact z_vret C ⟨rfl, rfl, (zoutR_tr (zoutR_tr (zoutR_tr (zoutR_tr (zoutR_tr zoutR_rf (zoutR_w (show zoutR M M r (r + 4) from zoutR_rf) (by omega) (by omega))) hfr_1) (zoutR_w (show zoutR M_1 (zU M_1 r (.inr (5, [.ref (r + 1), .ref (r + 2), .ref (r + 3), .int (nI (n - 1)), .ref p, .ref (p + 2), .int (nI i), .int (nI k), .int (nI w), .int (nI y), .int (nI h)]))) r (r + 4) from (fun q hq => (zU_ne (by omega)))) (by omega) (by omega))) hfr_37) (zoutR_w (show zoutR M_37 (zU M_37 r (.inr (5, [.ref (r + 1), .ref (r + 2), .ref (r + 3), .int (nI (n - 1)), .ref p, .ref (p + 2), .int (nI i), .int (nI k), .int (nI 0), .int (nI y), .int (nI 1)]))) r (r + 4) from (fun q hq => (zU_ne (by omega)))) (by omega) (by omega))), by rw [eend]; exact Gend⟩ d_R_closeOpening_69
