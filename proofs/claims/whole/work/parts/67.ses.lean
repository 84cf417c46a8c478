theorem zjunk_sk {E : zE} {M M' : zM} {B : Nat} (ho : zoutR M M' (B + 311) (B + 312)) (h : zjunk E M B) {w u f : Int32} (ht : M' (B + 311) = some (.inr (7, [.int w, .int u, .int f]))) : zjunk E M' B := by
  obtain ⟨⟨o, a, b, n, i, k, w, y, h, h0, h1, h2, h3, hb⟩, ⟨ps, t, hp⟩, ⟨xs, hx⟩, _⟩ := h
  exact ⟨⟨o, a, b, n, i, k, w, y, h, (ho _ (by omega)).trans h0, (ho _ (by omega)).trans h1, (ho _ (by omega)).trans h2, (ho _ (by omega)).trans h3, hb⟩, ⟨ps, t, zpg_oR ho hp (by omega)⟩, ⟨xs, zwk_oR ho hx (by omega)⟩, _, _, _, ht⟩
set_option maxHeartbeats 4000000 in
/-- badPlace -/
theorem s_badPlace (E : zE) (l : Launch) (sz : Nat) (M : zM) {B : Nat} {cs : List Nat} {fs : List (PS × PS)} {ss : List Nat} {nb : Nat → Nat} {sc : Nat} {bad : Int32} (H : zse E M B (cs, fs, ss, nb, sc, bad)) : zMet E l y_S_badPlace c_S_badPlace 1 (some .int) { frames := 0, cells := 0, slots := 0, locals := 0 } 0 0 [.ref B] sz M (zRet (some (.int (bad))) sz M) := by
  obtain ⟨h0, hL, hS, hF, hJ⟩ := id H
  obtain ⟨lf, hl0, hl1, hlen, -⟩ := id hL
  obtain ⟨sff, ssf, snf, hs0, hs1, hs2, hs3, ⟨hc40, hss, hsc⟩, -⟩ := id hS
  refine zMet.ofZ (by decide) (Nat.le_of_ble_eq_true rfl) ?_
  intro X hl hini C
  show Z X E 1 _ 0 0 sz M 0 [(0, .ref B)] []
  refine z_aload_n C d_S_badPlace_0 rfl rfl ?_
  refine z_get C in_S h0 rfl 6 (by decide) fl_S_53 rfl rfl d_S_badPlace_1 ?_
  exact z_iret C ⟨rfl, rfl, rfl⟩ d_S_badPlace_4
set_option maxHeartbeats 4000000 in
/-- shapes -/
theorem s_shapes (E : zE) (l : Launch) (sz : Nat) (M : zM) {B : Nat} {cs : List Nat} {fs : List (PS × PS)} {ss : List Nat} {nb : Nat → Nat} {sc : Nat} {bad : Int32} (H : zse E M B (cs, fs, ss, nb, sc, bad)) : zMet E l y_S_shapes c_S_shapes 1 (some .int) { frames := 0, cells := 0, slots := 0, locals := 0 } 0 0 [.ref B] sz M (zRet (some (.int (nI sc))) sz M) := by
  obtain ⟨h0, hL, hS, hF, hJ⟩ := id H
  obtain ⟨lf, hl0, hl1, hlen, -⟩ := id hL
  obtain ⟨sff, ssf, snf, hs0, hs1, hs2, hs3, ⟨hc40, hss, hsc⟩, -⟩ := id hS
  refine zMet.ofZ (by decide) (Nat.le_of_ble_eq_true rfl) ?_
  intro X hl hini C
  show Z X E 1 _ 0 0 sz M 0 [(0, .ref B)] []
  refine z_aload_n C d_S_shapes_0 rfl rfl ?_
  refine z_get C in_S h0 rfl 4 (by decide) fl_S_42 rfl rfl d_S_shapes_1 ?_
  refine z_getN C in_H hs0 rfl 4 (by decide) fl_S_126 rfl rfl d_S_shapes_4 ?_
  exact z_iret C ⟨rfl, rfl, rfl⟩ d_S_shapes_7
set_option maxHeartbeats 4000000 in
/-- labels -/
theorem s_labels (E : zE) (l : Launch) (sz : Nat) (M : zM) {B : Nat} {cs : List Nat} {fs : List (PS × PS)} {ss : List Nat} {nb : Nat → Nat} {sc : Nat} {bad : Int32} (H : zse E M B (cs, fs, ss, nb, sc, bad)) : zMet E l y_S_labels c_S_labels 1 (some .int) { frames := 0, cells := 0, slots := 0, locals := 0 } 0 0 [.ref B] sz M (zRet (some (.int (nI fs.length))) sz M) := by
  obtain ⟨h0, hL, hS, hF, hJ⟩ := id H
  obtain ⟨lf, hl0, hl1, hlen, -⟩ := id hL
  obtain ⟨sff, ssf, snf, hs0, hs1, hs2, hs3, ⟨hc40, hss, hsc⟩, -⟩ := id hS
  refine zMet.ofZ (by decide) (Nat.le_of_ble_eq_true rfl) ?_
  intro X hl hini C
  show Z X E 1 _ 0 0 sz M 0 [(0, .ref B)] []
  refine z_aload_n C d_S_labels_0 rfl rfl ?_
  refine z_get C in_S h0 rfl 4 (by decide) fl_S_42 rfl rfl d_S_labels_1 ?_
  refine z_getN C in_H hs0 rfl 3 (by decide) fl_S_129 rfl rfl d_S_labels_4 ?_
  exact z_iret C ⟨rfl, rfl, rfl⟩ d_S_labels_7
set_option maxHeartbeats 4000000 in
/-- back -/
theorem s_back (E : zE) (l : Launch) (sz : Nat) (M : zM) {B : Nat} {cs : List Nat} {fs : List (PS × PS)} {ss : List Nat} {nb : Nat → Nat} {sc : Nat} {bad : Int32} (H : zse E M B (cs, fs, ss, nb, sc, bad)) : zMet E l y_S_back c_S_back 1 (some .int) { frames := 1, cells := 0, slots := 0, locals := 20 } 0 0 [.ref B] sz M (fun v s M' => some (.int (q_back (cs, fs, ss, nb, sc, bad)).1) = v ∧ sz = s ∧ zoutR M M' B (B + 312) ∧ zse E M' B (q_back (cs, fs, ss, nb, sc, bad)).2) := by
  obtain ⟨h0, hL, hS, hF, hJ⟩ := id H
  obtain ⟨lf, hl0, hl1, hlen, -⟩ := id hL
  obtain ⟨sff, ssf, snf, hs0, hs1, hs2, hs3, ⟨hc40, hss, hsc⟩, -⟩ := id hS
  refine zMet.ofZ (by decide) (Nat.le_of_ble_eq_true rfl) ?_
  intro X hl hini C
  show Z X E 1 _ 0 0 sz M 0 [(0, .ref B)] []
  refine z_aload_n C d_S_back_0 rfl rfl ?_
  refine z_get C in_S h0 rfl 0 (by decide) fl_S_12 rfl rfl d_S_back_1 ?_
  refine z_callV (rest := []) (n := 0) (As := []) C (l_dropLast E X.2.1 sz _ hL) ⟨z_cb C k_L_dropLast ml_S_72 ii_L rfl rfl (by decide +kernel) ⟨by decide, by decide⟩, C.2.2.2.2.1 _ im_L_dropLast, C.2.2.2.2.1 _ se_L_dropLast⟩ hl0 rfl rfl rfl (Nat.le_of_ble_eq_true rfl) d_S_back_4 ⟨by decide, by decide⟩ ?_
  intro v_4 s_4 M_4 hp_4
  obtain ⟨rfl, ho, ⟨e, rfl, rfl⟩ | ⟨e, rfl, hz⟩⟩ := hp_4
  · show Z _ _ _ _ _ _ _ _ 7 _ [.int (nI 0)]
    refine z_if_eq (tgt := 20) C d_S_back_7 (by decide) (fun _ => ?_) (fun c_7 => absurd (rfl) c_7)
    refine z_iconst (v := -1) C d_S_back_20 (by decide) ?_
    have eb : q_back (cs, fs, ss, nb, sc, bad) = (-1, (cs, fs, ss, nb, sc, bad)) := if_pos (by rw [e]; rfl)
    exact z_iret C ⟨by rw [eb], rfl, zoutR_rf, by rw [eb]; exact H⟩ d_S_back_21
  · have H1 := zse_line H ho hz
    obtain ⟨_, hz0, _⟩ := id hz
    show Z _ _ _ _ _ _ _ _ 7 _ [.int (nI 1)]
    refine z_if_eq (tgt := 20) C d_S_back_7 (by decide) (fun c_7 => absurd c_7 (by decide)) (fun _ => ?_)
    refine z_aload_n C d_S_back_10 rfl rfl ?_
    refine z_get C in_S H1.1 rfl 0 (by decide) fl_S_12 rfl rfl d_S_back_11 ?_
    refine z_getN C in_L hz0 rfl 1 (by decide) fl_S_65 rfl rfl d_S_back_14 ?_
    refine z_goto (tgt := 21) C d_S_back_17 (by decide) ?_
    have eb : q_back (cs, fs, ss, nb, sc, bad) = (nI (cs.length - 1), (cs.dropLast, fs, ss, nb, sc, bad)) := if_neg (fun q => e (List.eq_nil_of_length_eq_zero q))
    exact z_iret C ⟨by rw [eb, List.length_dropLast], rfl, zoutR_w ho (by omega) (by omega), by rw [eb]; exact H1⟩ d_S_back_21
set_option maxHeartbeats 4000000 in
/-- reset -/
theorem s_reset (E : zE) (l : Launch) (sz : Nat) (M : zM) {B : Nat} {cs : List Nat} {fs : List (PS × PS)} {ss : List Nat} {nb : Nat → Nat} {sc : Nat} {bad : Int32} (H : zse E M B (cs, fs, ss, nb, sc, bad)) : zMet E l y_S_reset c_S_reset 1 none { frames := 1, cells := 0, slots := 0, locals := 21 } 0 0 [.ref B] sz M (fun v s M' => none = v ∧ sz = s ∧ zoutR M M' B (B + 312) ∧ zse E M' B ([], [], [], (fun _ => 0), 0, -1)) := by
  obtain ⟨h0, hL, hS, hF, hJ⟩ := id H
  obtain ⟨lf, hl0, hl1, hlen, -⟩ := id hL
  obtain ⟨sff, ssf, snf, hs0, hs1, hs2, hs3, ⟨hc40, hss, hsc⟩, -⟩ := id hS
  refine zMet.ofZ (by decide) (Nat.le_of_ble_eq_true rfl) ?_
  intro X hl hini C
  show Z X E 1 _ 0 0 sz M 0 [(0, .ref B)] []
  refine z_aload_n C d_S_reset_0 rfl rfl ?_
  refine z_get C in_S h0 rfl 0 (by decide) fl_S_12 rfl rfl d_S_reset_1 ?_
  refine z_callV (rest := []) (n := 0) (As := []) C (l_clear E X.2.1 sz _ hL) ⟨z_cb C k_L_clear ml_S_80 ii_L rfl rfl (by decide +kernel) ⟨by decide, by decide⟩, C.2.2.2.2.1 _ im_L_clear, C.2.2.2.2.1 _ se_L_clear⟩ hl0 rfl rfl rfl (Nat.le_of_ble_eq_true rfl) d_S_reset_4 ⟨by decide, by decide⟩ ?_
  intro v_4 s_4 M_4 hp_4
  obtain ⟨rfl, rfl, ho, hz⟩ := hp_4
  have H1 := zse_line H ho hz
  obtain ⟨_, _, hS1, _⟩ := id H1
  obtain ⟨_, _, _, hq0, _⟩ := id hS1
  show Z _ _ _ _ _ _ _ _ 7 _ []
  refine z_aload_n C d_S_reset_7 rfl rfl ?_
  refine z_get C in_S H1.1 rfl 4 (by decide) fl_S_42 rfl rfl d_S_reset_8 ?_
  refine z_callV (rest := []) (n := 0) (As := []) C (h_clear E X.2.1 sz _ hS1) ⟨z_cb C k_H_clear ml_S_162 ii_H rfl rfl (by decide +kernel) ⟨by decide, by decide⟩, C.2.2.2.2.1 _ im_H_clear, C.2.2.2.2.1 _ se_H_clear⟩ hq0 rfl rfl rfl (Nat.le_of_ble_eq_true rfl) d_S_reset_11 ⟨by decide, by decide⟩ ?_
  intro v_11 s_11 M_11 hp_11
  obtain ⟨rfl, rfl, ho2, hz2⟩ := hp_11
  have H2 := zse_shelf H1 (zoutR_w ho2 (by omega) (by omega)) hz2 (fun x hx => by cases hx)
  show Z _ _ _ _ _ _ _ _ 14 _ []
  refine z_aload_n C d_S_reset_14 rfl rfl ?_
  refine z_iconst (v := (-1)) C d_S_reset_15 (by decide) ?_
  refine z_put C in_S ty_S tok_S nm_S H2.1 rfl 6 (by decide) fl_S_53 rfl rfl rfl (rfl) (rfl) (Nat.le_of_ble_eq_true rfl) d_S_reset_16 ?_
  show Z _ _ _ _ _ _ _ (zU M_11 B (.inr (0, [.ref (B + 1), .ref (B + 1 + 2), .ref (B + 6), .ref (B + 10), .ref (B + 107), .ref (B + 311), .int (-1)]))) _ _ _
  exact z_vret C ⟨rfl, rfl, zoutR_tr (zoutR_tr (zoutR_w ho (by omega) (by omega)) (zoutR_w ho2 (by omega) (by omega))) (fun q hq => zU_ne (by omega)), zse_bad H2⟩ d_S_reset_19
theorem zsf_fm {E : zE} {M : zM} {h : Nat} {fs : List (PS × PS)} {ss : List Nat} {nb : Nat → Nat} {sc : Nat} {i : Nat} {x : PS × PS} (H : zsf E M h fs ss nb sc) (hx : fs[i]? = some x) : ∃ kn kd, zf E M (h + 4 + 5 * i) kn kd x.1 x.2 := by
  obtain ⟨_, _, _, _, _, _, _, _, _, _, _, q, _⟩ := H
  exact q i x hx
theorem zsf_nb {E : zE} {M : zM} {h : Nat} {fs : List (PS × PS)} {ss : List Nat} {nb : Nat → Nat} {sc : Nat} (H : zsf E M h fs ss nb sc) : ∀ i, i < 3 → nb i ≤ fs.length := by
  obtain ⟨_, _, _, _, _, _, _, _, _, _, q, _⟩ := H
  exact fun i hi => (q i hi).2
set_option maxHeartbeats 4000000 in
/-- degree -/
theorem s_degree (E : zE) (l : Launch) (sz : Nat) (M : zM) {B : Nat} {cs : List Nat} {fs : List (PS × PS)} {ss : List Nat} {nb : Nat → Nat} {sc : Nat} {bad : Int32} (H : zse E M B (cs, fs, ss, nb, sc, bad)) (x : Int32) (b : Bool) : zMet E l y_S_degree c_S_degree 4 (some .int) { frames := 1, cells := 0, slots := 0, locals := 21 } 0 0 [.ref B, .int x, .int (if b then 1 else 0)] sz M (zRet (some (.int (q_degree fs x b))) sz M) := by
  obtain ⟨h0, hL, hS, hF, hJ⟩ := id H
  obtain ⟨lf, hl0, hl1, hlen, -⟩ := id hL
  obtain ⟨sff, ssf, snf, hs0, hs1, hs2, hs3, ⟨hc40, hss, hsc⟩, -⟩ := id hS
  refine zMet.ofZ (by decide) (Nat.le_of_ble_eq_true rfl) ?_
  intro X hl hini C
  show Z X E 4 _ 0 0 sz M 0 [(0, .ref B), (1, .int x), (2, .int (if b then 1 else 0))] []
  refine z_aload_n C d_S_degree_0 rfl rfl ?_
  refine z_get C in_S h0 rfl 4 (by decide) fl_S_42 rfl rfl d_S_degree_1 ?_
  refine z_iload_n C d_S_degree_4 rfl rfl ?_
  refine z_callV (rest := []) (n := 1) (As := [.int x]) C (h_find E X.2.1 sz _ hS x) ⟨z_cb C k_H_find ml_S_105 ii_H rfl rfl (by decide +kernel) ⟨by decide, by decide⟩, C.2.2.2.2.1 _ im_H_find, C.2.2.2.2.1 _ se_H_find⟩ hs0 rfl rfl rfl (Nat.le_of_ble_eq_true rfl) d_S_degree_5 ⟨by decide, by decide⟩ ?_
  intro v_5 s_5 M_5 hp_5
  obtain ⟨rfl, rfl, ⟨i, hi, rfl, rfl⟩ | ⟨hno, rfl⟩⟩ := hp_5
  · obtain ⟨f, hfi⟩ : ∃ f, fs[i]? = some f := ⟨_, List.getElem?_eq_getElem hi⟩
    have hlab : lab fs (nI (i + 1)) = some f := (lab_at (by omega)).trans hfi
    obtain ⟨kn, kd, hZ⟩ := zsf_fm hS hfi
    have cn := zp_cnt hZ.2.1
    have cd := zp_cnt hZ.2.2
    show Z _ _ _ _ _ _ _ _ 8 _ [.ref (B + 107 + 4 + 5 * i)]
    refine z_astore_n (L' := [(0, .ref B), (1, .int (nI (i + 1))), (2, .int (if b then 1 else 0)), (3, .ref (B + 107 + 4 + 5 * i))]) C d_S_degree_8 rfl (by decide) rfl ?_
    refine z_aload_n C d_S_degree_9 rfl rfl ?_
    refine z_ifnonnull (tgt := 17) C d_S_degree_10 (by decide) ?_
    refine z_aload_n C d_S_degree_17 rfl rfl ?_
    refine z_iload_n C d_S_degree_18 rfl rfl ?_
    cases b
    · show Z _ _ _ _ _ _ _ _ 19 _ [.int (if false then 1 else 0), .ref (B + 107 + 4 + 5 * i)]
      refine z_callV (rest := []) (n := 1) (As := [.int (if false then 1 else 0)]) C (f_part E X.2.1 sz _ hZ false) ⟨z_cb C k_F_part ml_S_109 ii_F rfl rfl (by decide +kernel) ⟨by decide, by decide⟩, C.2.2.2.2.1 _ im_F_part, C.2.2.2.2.1 _ se_F_part⟩ hZ.1 rfl rfl rfl (Nat.le_of_ble_eq_true rfl) d_S_degree_19 ⟨by decide, by decide⟩ ?_
      intro v_9 s_9 M_9 hp_9
      obtain ⟨rfl, rfl, rfl⟩ := hp_9
      show Z _ _ _ _ _ _ _ _ 22 _ [.ref (B + 107 + 4 + 5 * i + 1)]
      refine z_getN C in_P (zp_c0 hZ.2.1) rfl 1 (by decide) fl_S_115 rfl rfl d_S_degree_22 ?_
      exact z_iret C ⟨by unfold q_degree; rw [hlab]; show some (Value.int (tI (cnt _))) = _; rw [show cnt (if false = true then f.2 else f.1) = _ from cn], rfl, rfl⟩ d_S_degree_25
    · show Z _ _ _ _ _ _ _ _ 19 _ [.int (if true then 1 else 0), .ref (B + 107 + 4 + 5 * i)]
      refine z_callV (rest := []) (n := 1) (As := [.int (if true then 1 else 0)]) C (f_part E X.2.1 sz _ hZ true) ⟨z_cb C k_F_part ml_S_109 ii_F rfl rfl (by decide +kernel) ⟨by decide, by decide⟩, C.2.2.2.2.1 _ im_F_part, C.2.2.2.2.1 _ se_F_part⟩ hZ.1 rfl rfl rfl (Nat.le_of_ble_eq_true rfl) d_S_degree_19 ⟨by decide, by decide⟩ ?_
      intro v_9 s_9 M_9 hp_9
      obtain ⟨rfl, rfl, rfl⟩ := hp_9
      show Z _ _ _ _ _ _ _ _ 22 _ [.ref (B + 107 + 4 + 5 * i + 3)]
      refine z_getN C in_P (zp_c0 hZ.2.2) rfl 1 (by decide) fl_S_115 rfl rfl d_S_degree_22 ?_
      exact z_iret C ⟨by unfold q_degree; rw [hlab]; show some (Value.int (tI (cnt _))) = _; rw [show cnt (if true = true then f.2 else f.1) = _ from cd], rfl, rfl⟩ d_S_degree_25
  · have hlab : lab fs x = none := lab_no hno
    show Z _ _ _ _ _ _ _ _ 8 _ [.null]
    refine z_astore_nN (L' := [(0, .ref B), (1, .int x), (2, .int (if b then 1 else 0)), (3, .null)]) C d_S_degree_8 rfl (by decide) rfl ?_
    refine z_aload_nN C d_S_degree_9 rfl rfl ?_
    refine z_ifnonnullN C d_S_degree_10 ?_
    refine z_iconst (v := (-1)) C d_S_degree_13 (by decide) ?_
    refine z_goto (tgt := 25) C d_S_degree_14 (by decide) ?_
    exact z_iret C ⟨by unfold q_degree; rw [hlab], rfl, rfl⟩ d_S_degree_25
set_option maxHeartbeats 4000000 in
/-- coefficient -/
theorem s_coefficient (E : zE) (l : Launch) (sz : Nat) (M : zM) {B : Nat} {cs : List Nat} {fs : List (PS × PS)} {ss : List Nat} {nb : Nat → Nat} {sc : Nat} {bad : Int32} (H : zse E M B (cs, fs, ss, nb, sc, bad)) (x : Int32) (b : Bool) (y : Int32) : zMet E l y_S_coefficient c_S_coefficient 5 (some .int) { frames := 1, cells := 0, slots := 0, locals := 21 } 0 0 [.ref B, .int x, .int (if b then 1 else 0), .int y] sz M (zRet (some (.int (q_coef fs x b y))) sz M) := by
  obtain ⟨h0, hL, hS, hF, hJ⟩ := id H
  obtain ⟨lf, hl0, hl1, hlen, -⟩ := id hL
  obtain ⟨sff, ssf, snf, hs0, hs1, hs2, hs3, ⟨hc40, hss, hsc⟩, -⟩ := id hS
  refine zMet.ofZ (by decide) (Nat.le_of_ble_eq_true rfl) ?_
  intro X hl hini C
  show Z X E 5 _ 0 0 sz M 0 [(0, .ref B), (1, .int x), (2, .int (if b then 1 else 0)), (3, .int y)] []
  refine z_aload_n C d_S_coefficient_0 rfl rfl ?_
  refine z_get C in_S h0 rfl 4 (by decide) fl_S_42 rfl rfl d_S_coefficient_1 ?_
  refine z_iload_n C d_S_coefficient_4 rfl rfl ?_
  refine z_callV (rest := []) (n := 1) (As := [.int x]) C (h_find E X.2.1 sz _ hS x) ⟨z_cb C k_H_find ml_S_105 ii_H rfl rfl (by decide +kernel) ⟨by decide, by decide⟩, C.2.2.2.2.1 _ im_H_find, C.2.2.2.2.1 _ se_H_find⟩ hs0 rfl rfl rfl (Nat.le_of_ble_eq_true rfl) d_S_coefficient_5 ⟨by decide, by decide⟩ ?_
  intro v_5 s_5 M_5 hp_5
  obtain ⟨rfl, rfl, ⟨i, hi, rfl, rfl⟩ | ⟨hno, rfl⟩⟩ := hp_5
  · obtain ⟨f, hfi⟩ : ∃ f, fs[i]? = some f := ⟨_, List.getElem?_eq_getElem hi⟩
    have hlab : lab fs (nI (i + 1)) = some f := (lab_at (by omega)).trans hfi
    obtain ⟨kn, kd, hZ⟩ := zsf_fm hS hfi
    have cn := zp_cnt hZ.2.1
    have cd := zp_cnt hZ.2.2
    show Z _ _ _ _ _ _ _ _ 8 _ [.ref (B + 107 + 4 + 5 * i)]
    refine z_astore (L' := [(0, .ref B), (1, .int (nI (i + 1))), (2, .int (if b then 1 else 0)), (3, .int y), (4, .ref (B + 107 + 4 + 5 * i))]) C d_S_coefficient_8 (by decide) rfl ?_
    refine z_aload C d_S_coefficient_10 rfl ?_
    refine z_ifnull C d_S_coefficient_12 ?_
    refine z_iload_n C d_S_coefficient_15 rfl rfl ?_
    refine z_if_lt (tgt := 25) C d_S_coefficient_16 (by decide) (fun c_16 => ?_) (fun c_16 => ?_)
    · refine z_iconst (v := (-1)) C d_S_coefficient_25 (by decide) ?_
      have eq_ : q_coef fs (nI (i + 1)) b y = -1 := by
        unfold q_coef; rw [hlab]
        all_goals first | rfl | exact if_pos (Or.inl c_16) | exact if_pos (Or.inr (Int32.not_le.mp c_22))
      exact z_iret C ⟨by rw [eq_], rfl, rfl⟩ d_S_coefficient_26
    · refine z_iload_n C d_S_coefficient_19 rfl rfl ?_
      refine z_bipush (v := 12) C d_S_coefficient_20 (by decide) ?_
      refine z_icmp_le (tgt := 27) C d_S_coefficient_22 (by decide) (fun c_22 => ?_) (fun c_22 => ?_)
      · refine z_aload C d_S_coefficient_27 rfl ?_
        refine z_iload_n C d_S_coefficient_29 rfl rfl ?_
        cases b
        · show Z _ _ _ _ _ _ _ _ 30 _ [.int (if false then 1 else 0), .ref (B + 107 + 4 + 5 * i)]
          refine z_callV (rest := []) (n := 1) (As := [.int (if false then 1 else 0)]) C (f_part E X.2.1 sz _ hZ false) ⟨z_cb C k_F_part ml_S_109 ii_F rfl rfl (by decide +kernel) ⟨by decide, by decide⟩, C.2.2.2.2.1 _ im_F_part, C.2.2.2.2.1 _ se_F_part⟩ hZ.1 rfl rfl rfl (Nat.le_of_ble_eq_true rfl) d_S_coefficient_30 ⟨by decide, by decide⟩ ?_
          intro v_9 s_9 M_9 hp_9
          obtain ⟨rfl, rfl, rfl⟩ := hp_9
          show Z _ _ _ _ _ _ _ _ 33 _ [.ref (B + 107 + 4 + 5 * i + 1)]
          refine z_iload_n C d_S_coefficient_33 rfl rfl ?_
          obtain ⟨j, hj, rfl⟩ := nI_of c_16
          have hj12 : j ≤ 12 := (nI_leI (a := j) (b := 12) (by omega) (by omega)).mp c_22
          refine z_callV (rest := []) (n := 1) (As := [.int (nI j)]) C (p_get E X.2.1 sz _ j (by omega) hZ.2.1) ⟨z_cb C k_P_get ml_S_120 ii_P rfl rfl (by decide +kernel) ⟨by decide, by decide⟩, C.2.2.2.2.1 _ im_P_get, C.2.2.2.2.1 _ se_P_get⟩ (zp_c0 hZ.2.1) rfl rfl rfl (Nat.le_of_ble_eq_true rfl) d_S_coefficient_34 ⟨by decide, by decide⟩ ?_
          intro v_9 s_9 M_9 hp_9
          obtain ⟨rfl, rfl, rfl⟩ := hp_9
          show Z _ _ _ _ _ _ _ _ 37 _ [.int (fI (f.1 j))]
          exact z_iret C ⟨by unfold q_coef; rw [hlab]; show some (Value.int (if nI j < 0 ∨ 12 < nI j then -1 else fI ((if false = true then f.2 else f.1) (nI j).toNatClampNeg))) = _; rw [if_neg (fun q => q.elim c_16 (Int32.not_lt.mpr c_22)), nI_clamp hj]; rfl, rfl, rfl⟩ d_S_coefficient_37
        · show Z _ _ _ _ _ _ _ _ 30 _ [.int (if true then 1 else 0), .ref (B + 107 + 4 + 5 * i)]
          refine z_callV (rest := []) (n := 1) (As := [.int (if true then 1 else 0)]) C (f_part E X.2.1 sz _ hZ true) ⟨z_cb C k_F_part ml_S_109 ii_F rfl rfl (by decide +kernel) ⟨by decide, by decide⟩, C.2.2.2.2.1 _ im_F_part, C.2.2.2.2.1 _ se_F_part⟩ hZ.1 rfl rfl rfl (Nat.le_of_ble_eq_true rfl) d_S_coefficient_30 ⟨by decide, by decide⟩ ?_
          intro v_9 s_9 M_9 hp_9
          obtain ⟨rfl, rfl, rfl⟩ := hp_9
          show Z _ _ _ _ _ _ _ _ 33 _ [.ref (B + 107 + 4 + 5 * i + 3)]
          refine z_iload_n C d_S_coefficient_33 rfl rfl ?_
          obtain ⟨j, hj, rfl⟩ := nI_of c_16
          have hj12 : j ≤ 12 := (nI_leI (a := j) (b := 12) (by omega) (by omega)).mp c_22
          refine z_callV (rest := []) (n := 1) (As := [.int (nI j)]) C (p_get E X.2.1 sz _ j (by omega) hZ.2.2) ⟨z_cb C k_P_get ml_S_120 ii_P rfl rfl (by decide +kernel) ⟨by decide, by decide⟩, C.2.2.2.2.1 _ im_P_get, C.2.2.2.2.1 _ se_P_get⟩ (zp_c0 hZ.2.2) rfl rfl rfl (Nat.le_of_ble_eq_true rfl) d_S_coefficient_34 ⟨by decide, by decide⟩ ?_
          intro v_9 s_9 M_9 hp_9
          obtain ⟨rfl, rfl, rfl⟩ := hp_9
          show Z _ _ _ _ _ _ _ _ 37 _ [.int (fI (f.2 j))]
          exact z_iret C ⟨by unfold q_coef; rw [hlab]; show some (Value.int (if nI j < 0 ∨ 12 < nI j then -1 else fI ((if true = true then f.2 else f.1) (nI j).toNatClampNeg))) = _; rw [if_neg (fun q => q.elim c_16 (Int32.not_lt.mpr c_22)), nI_clamp hj]; rfl, rfl, rfl⟩ d_S_coefficient_37
      · refine z_iconst (v := (-1)) C d_S_coefficient_25 (by decide) ?_
        have eq_ : q_coef fs (nI (i + 1)) b y = -1 := by
          unfold q_coef; rw [hlab]
          all_goals first | rfl | exact if_pos (Or.inl c_16) | exact if_pos (Or.inr (Int32.not_le.mp c_22))
        exact z_iret C ⟨by rw [eq_], rfl, rfl⟩ d_S_coefficient_26
  · have hlab : lab fs x = none := lab_no hno
    show Z _ _ _ _ _ _ _ _ 8 _ [.null]
    refine z_astoreN (L' := [(0, .ref B), (1, .int x), (2, .int (if b then 1 else 0)), (3, .int y), (4, .null)]) C d_S_coefficient_8 (by decide) rfl ?_
    refine z_aloadN C d_S_coefficient_10 rfl ?_
    refine z_ifnullN (tgt := 25) C d_S_coefficient_12 (by decide) ?_
    refine z_iconst (v := (-1)) C d_S_coefficient_25 (by decide) ?_
    have eq_ : q_coef fs x b y = -1 := by
      unfold q_coef; rw [hlab]
      all_goals first | rfl | exact if_pos (Or.inl c_16) | exact if_pos (Or.inr (Int32.not_le.mp c_22))
    exact z_iret C ⟨by rw [eq_], rfl, rfl⟩ d_S_coefficient_26
set_option maxHeartbeats 4000000 in
/-- shape -/
theorem s_shape (E : zE) (l : Launch) (sz : Nat) (M : zM) {B : Nat} {cs : List Nat} {fs : List (PS × PS)} {ss : List Nat} {nb : Nat → Nat} {sc : Nat} {bad : Int32} (H : zse E M B (cs, fs, ss, nb, sc, bad)) (x : Int32) : zMet E l y_S_shape c_S_shape 2 (some .int) { frames := 1, cells := 0, slots := 0, locals := 21 } 0 0 [.ref B, .int x] sz M (zRet (some (.int (q_shape fs ss x))) sz M) := by
  obtain ⟨h0, hL, hS, hF, hJ⟩ := id H
  obtain ⟨lf, hl0, hl1, hlen, -⟩ := id hL
  obtain ⟨sff, ssf, snf, hs0, hs1, hs2, hs3, ⟨hc40, hss, hsc⟩, -⟩ := id hS
  refine zMet.ofZ (by decide) (Nat.le_of_ble_eq_true rfl) ?_
  intro X hl hini C
  show Z X E 2 _ 0 0 sz M 0 [(0, .ref B), (1, .int x)] []
  refine z_aload_n C d_S_shape_0 rfl rfl ?_
  refine z_get C in_S h0 rfl 4 (by decide) fl_S_42 rfl rfl d_S_shape_1 ?_
  refine z_iload_n C d_S_shape_4 rfl rfl ?_
  refine z_callV (rest := []) (n := 1) (As := [.int x]) C (h_find E X.2.1 sz _ hS x) ⟨z_cb C k_H_find ml_S_105 ii_H rfl rfl (by decide +kernel) ⟨by decide, by decide⟩, C.2.2.2.2.1 _ im_H_find, C.2.2.2.2.1 _ se_H_find⟩ hs0 rfl rfl rfl (Nat.le_of_ble_eq_true rfl) d_S_shape_5 ⟨by decide, by decide⟩ ?_
  intro v_5 s_5 M_5 hp_5
  obtain ⟨rfl, rfl, ⟨i, hi, rfl, rfl⟩ | ⟨hno, rfl⟩⟩ := hp_5
  · obtain ⟨f, hfi⟩ : ∃ f, fs[i]? = some f := ⟨_, List.getElem?_eq_getElem hi⟩
    have hlab : lab fs (nI (i + 1)) = some f := (lab_at (by omega)).trans hfi
    obtain ⟨kn, kd, hZ⟩ := zsf_fm hS hfi
    have cn := zp_cnt hZ.2.1
    have cd := zp_cnt hZ.2.2
    show Z _ _ _ _ _ _ _ _ 8 _ [.ref (B + 107 + 4 + 5 * i)]
    refine z_ifnonnull (tgt := 15) C d_S_shape_8 (by decide) ?_
    refine z_aload_n C d_S_shape_15 rfl rfl ?_
    refine z_get C in_S h0 rfl 4 (by decide) fl_S_42 rfl rfl d_S_shape_16 ?_
    refine z_iload_n C d_S_shape_19 rfl rfl ?_
    refine z_callV (rest := []) (n := 1) (As := [.int (nI (i + 1))]) C (h_shapeOf E X.2.1 sz _ hS _) ⟨z_cb C k_H_shapeOf ml_S_123 ii_H rfl rfl (by decide +kernel) ⟨by decide, by decide⟩, C.2.2.2.2.1 _ im_H_shapeOf, C.2.2.2.2.1 _ se_H_shapeOf⟩ hs0 rfl rfl rfl (Nat.le_of_ble_eq_true rfl) d_S_shape_20 ⟨by decide, by decide⟩ ?_
    intro v_9 s_9 M_9 hp_9
    obtain ⟨rfl, rfl, ⟨i2, hi2, e2, rfl⟩ | ⟨hno2, rfl⟩⟩ := hp_9
    · have e2 := (nI_eq (by omega) (by omega)).mp e2
      show Z _ _ _ _ _ _ _ _ 23 _ [.int (nI (ss.getD i2 0))]
      exact z_iret C ⟨by unfold q_shape; rw [hlab]; show some (Value.int (nI (ss.getD ((nI (i + 1)).toNatClampNeg - 1) 0))) = _; rw [nI_clamp (by omega), show i + 1 - 1 = i2 by omega], rfl, rfl⟩ d_S_shape_23
    · exact absurd ⟨i, hi, rfl⟩ hno2
  · have hlab : lab fs x = none := lab_no hno
    show Z _ _ _ _ _ _ _ _ 8 _ [.null]
    refine z_ifnonnullN C d_S_shape_8 ?_
    refine z_iconst (v := (-1)) C d_S_shape_11 (by decide) ?_
    refine z_goto (tgt := 23) C d_S_shape_12 (by decide) ?_
    exact z_iret C ⟨by unfold q_shape; rw [hlab], rfl, rfl⟩ d_S_shape_23
set_option maxHeartbeats 4000000 in
/-- bound -/
theorem s_bound (E : zE) (l : Launch) (sz : Nat) (M : zM) {B : Nat} {cs : List Nat} {fs : List (PS × PS)} {ss : List Nat} {nb : Nat → Nat} {sc : Nat} {bad : Int32} (H : zse E M B (cs, fs, ss, nb, sc, bad)) (x : Int32) : zMet E l y_S_bound c_S_bound 2 (some .int) { frames := 1, cells := 0, slots := 0, locals := 21 } 0 0 [.ref B, .int x] sz M (zRet (some (.int (q_bound ss nb x))) sz M) := by
  obtain ⟨h0, hL, hS, hF, hJ⟩ := id H
  obtain ⟨lf, hl0, hl1, hlen, -⟩ := id hL
  obtain ⟨sff, ssf, snf, hs0, hs1, hs2, hs3, ⟨hc40, hss, hsc⟩, -⟩ := id hS
  refine zMet.ofZ (by decide) (Nat.le_of_ble_eq_true rfl) ?_
  intro X hl hini C
  show Z X E 2 _ 0 0 sz M 0 [(0, .ref B), (1, .int x)] []
  refine z_iload_n C d_S_bound_0 rfl rfl ?_
  refine z_if_lt (tgt := 9) C d_S_bound_1 (by decide) (fun c_1 => ?_) (fun c_1 => ?_)
  · refine z_iconst (v := (-1)) C d_S_bound_9 (by decide) ?_
    have eq_ : q_bound ss nb x = -1 := by
      unfold q_bound
      first | exact if_pos (Or.inl c_1) | exact if_pos (Or.inr (Int32.not_lt.mp c_6))
    exact z_iret C ⟨by rw [eq_], rfl, rfl⟩ d_S_bound_10
  · refine z_iload_n C d_S_bound_4 rfl rfl ?_
    refine z_iconst (v := 3) C d_S_bound_5 (by decide) ?_
    refine z_icmp_lt (tgt := 11) C d_S_bound_6 (by decide) (fun c_6 => ?_) (fun c_6 => ?_)
    · refine z_aload_n C d_S_bound_11 rfl rfl ?_
      refine z_get C in_S h0 rfl 4 (by decide) fl_S_42 rfl rfl d_S_bound_12 ?_
      refine z_aload_n C d_S_bound_15 rfl rfl ?_
      refine z_get C in_S h0 rfl 4 (by decide) fl_S_42 rfl rfl d_S_bound_16 ?_
      refine z_iload_n C d_S_bound_19 rfl rfl ?_
      obtain ⟨j, hj, rfl⟩ := nI_of c_1
      have hj3 : j < 3 := (nI_ltI (a := j) (b := 3) (by omega) (by omega)).mp c_6
      have hnb := zsf_nb hS j hj3
      have eb : q_bound ss nb (nI j) = if nb j = 0 then 0 else nI (ss.getD (nb j - 1) 0) := by
        unfold q_bound; rw [if_neg (fun q => q.elim c_1 (fun e => absurd c_6 (Int32.not_lt.mpr e))), nI_clamp hj]
      refine z_callV (rest := [.ref (B + 107)]) (n := 1) (As := [.int (nI j)]) C (h_boundTo E X.2.1 sz _ hS j hj3) ⟨z_cb C k_H_labelBoundTo ml_S_132 ii_H rfl rfl (by decide +kernel) ⟨by decide, by decide⟩, C.2.2.2.2.1 _ im_H_labelBoundTo, C.2.2.2.2.1 _ se_H_labelBoundTo⟩ hs0 rfl rfl rfl (Nat.le_of_ble_eq_true rfl) d_S_bound_20 ⟨by decide, by decide⟩ ?_
      intro v_9 s_9 M_9 hp_9
      obtain ⟨rfl, rfl, rfl⟩ := hp_9
      show Z _ _ _ _ _ _ _ _ 23 _ [.int (nI (nb j)), .ref (B + 107)]
      refine z_callV (rest := []) (n := 1) (As := [.int (nI (nb j))]) C (h_shapeOf E X.2.1 sz _ hS _) ⟨z_cb C k_H_shapeOf ml_S_123 ii_H rfl rfl (by decide +kernel) ⟨by decide, by decide⟩, C.2.2.2.2.1 _ im_H_shapeOf, C.2.2.2.2.1 _ se_H_shapeOf⟩ hs0 rfl rfl rfl (Nat.le_of_ble_eq_true rfl) d_S_bound_23 ⟨by decide, by decide⟩ ?_
      intro v_8 s_8 M_8 hp_8
      obtain ⟨rfl, rfl, ⟨i2, hi2, e2, rfl⟩ | ⟨hno2, rfl⟩⟩ := hp_8
      · have e2 := (nI_eq (by omega) (by omega)).mp e2
        show Z _ _ _ _ _ _ _ _ 26 _ [.int (nI (ss.getD i2 0))]
        exact z_iret C ⟨by rw [eb, if_neg (by omega), e2]; rfl, rfl, rfl⟩ d_S_bound_26
      · show Z _ _ _ _ _ _ _ _ 26 _ [.int 0]
        exact z_iret C ⟨by rw [eb, if_pos (by rcases Nat.eq_zero_or_pos (nb j) with q | q; exact q; exact absurd ⟨nb j - 1, by omega, by rw [show nb j - 1 + 1 = nb j by omega]⟩ hno2)], rfl, rfl⟩ d_S_bound_26
    · refine z_iconst (v := (-1)) C d_S_bound_9 (by decide) ?_
      have eq_ : q_bound ss nb x = -1 := by
        unfold q_bound
        first | exact if_pos (Or.inl c_1) | exact if_pos (Or.inr (Int32.not_lt.mp c_6))
      exact z_iret C ⟨by rw [eq_], rfl, rfl⟩ d_S_bound_10
set_option maxHeartbeats 4000000 in
/-- line -/
theorem s_line (E : zE) (l : Launch) (sz : Nat) (M : zM) {B : Nat} {cs : List Nat} {fs : List (PS × PS)} {ss : List Nat} {nb : Nat → Nat} {sc : Nat} {bad : Int32} (H : zse E M B (cs, fs, ss, nb, sc, bad)) (x : Int32) : zMet E l y_S_line c_S_line 2 (some .int) { frames := 1, cells := 0, slots := 0, locals := 21 } 0 0 [.ref B, .int x] sz M (zRet (some (.int (q_line cs x))) sz M) := by
  obtain ⟨h0, hL, hS, hF, hJ⟩ := id H
  obtain ⟨lf, hl0, hl1, hlen, -⟩ := id hL
  obtain ⟨sff, ssf, snf, hs0, hs1, hs2, hs3, ⟨hc40, hss, hsc⟩, -⟩ := id hS
  refine zMet.ofZ (by decide) (Nat.le_of_ble_eq_true rfl) ?_
  intro X hl hini C
  show Z X E 2 _ 0 0 sz M 0 [(0, .ref B), (1, .int x)] []
  refine z_iload_n C d_S_line_0 rfl rfl ?_
  refine z_if_ge (tgt := 12) C d_S_line_1 (by decide) (fun c_1 => ?_) (fun c_1 => ?_)
  · refine z_iload_n C d_S_line_12 rfl rfl ?_
    refine z_aload_n C d_S_line_13 rfl rfl ?_
    refine z_get C in_S h0 rfl 0 (by decide) fl_S_12 rfl rfl d_S_line_14 ?_
    refine z_getN C in_L hl0 rfl 1 (by decide) fl_S_65 rfl rfl d_S_line_17 ?_
    refine z_icmp_ge (tgt := 34) C d_S_line_20 (by decide) (fun c_20 => ?_) (fun c_20 => ?_)
    · refine z_iconst (v := (-1)) C d_S_line_34 (by decide) ?_
      exact z_iret C ⟨by unfold q_line; rw [if_neg (Int32.not_lt.mpr c_1), if_neg (Int32.not_lt.mpr c_20)], rfl, rfl⟩ d_S_line_35
    · refine z_aload_n C d_S_line_23 rfl rfl ?_
      refine z_get C in_S h0 rfl 0 (by decide) fl_S_12 rfl rfl d_S_line_24 ?_
      refine z_iload_n C d_S_line_27 rfl rfl ?_
      obtain ⟨j, hj, rfl⟩ := nI_of (Int32.not_lt.mpr c_1)
      have hj3 : j < cs.length := Nat.not_le.mp (fun q => c_20 ((nI_leI (by omega) (by omega)).mpr q))
      refine z_callV (rest := []) (n := 1) (As := [.int (nI j)]) C (l_at E X.2.1 sz _ hL j (by omega)) ⟨z_cb C k_L_at ml_S_158 ii_L rfl rfl (by decide +kernel) ⟨by decide, by decide⟩, C.2.2.2.2.1 _ im_L_at, C.2.2.2.2.1 _ se_L_at⟩ hl0 rfl rfl rfl (Nat.le_of_ble_eq_true rfl) d_S_line_28 ⟨by decide, by decide⟩ ?_
      intro v_9 s_9 M_9 hp_9
      obtain ⟨rfl, rfl, rfl⟩ := hp_9
      show Z _ _ _ _ _ _ _ _ 31 _ [.int (nI (cs.getD j 0))]
      refine z_goto (tgt := 35) C d_S_line_31 (by decide) ?_
      exact z_iret C ⟨by unfold q_line; rw [if_neg (Int32.not_lt.mpr c_1), if_pos ((nI_ltI (by omega) (by omega)).mpr hj3), nI_clamp hj], rfl, rfl⟩ d_S_line_35
  · refine z_aload_n C d_S_line_4 rfl rfl ?_
    refine z_get C in_S h0 rfl 0 (by decide) fl_S_12 rfl rfl d_S_line_5 ?_
    refine z_getN C in_L hl0 rfl 1 (by decide) fl_S_65 rfl rfl d_S_line_8 ?_
    exact z_iret C ⟨by unfold q_line; rw [if_pos (Int32.not_le.mp c_1)], rfl, rfl⟩ d_S_line_11
set_option maxHeartbeats 4000000 in
/-- text -/
theorem s_text (E : zE) (l : Launch) (sz : Nat) (M : zM) {B : Nat} {cs : List Nat} {fs : List (PS × PS)} {ss : List Nat} {nb : Nat → Nat} {sc : Nat} {bad : Int32} (H : zse E M B (cs, fs, ss, nb, sc, bad)) (x y : Int32) : zMet E l y_S_text c_S_text 4 (some .int) { frames := 5, cells := 0, slots := 0, locals := 110 } 0 0 [.ref B, .int x, .int y] sz M (fun v s M' => some (.int (q_text fs x y)) = v ∧ sz = s ∧ zoutR M M' B (B + 312) ∧ zse E M' B (cs, fs, ss, nb, sc, bad)) := by
  obtain ⟨h0, hL, hS, hF, hJ⟩ := id H
  obtain ⟨lf, hl0, hl1, hlen, -⟩ := id hL
  obtain ⟨sff, ssf, snf, hs0, hs1, hs2, hs3, ⟨hc40, hss, hsc⟩, -⟩ := id hS
  obtain ⟨j1, j2, j3, tw, tu, tf, ht0⟩ := id hJ
  refine zMet.ofZ (by decide) (Nat.le_of_ble_eq_true rfl) ?_
  intro X hl hini C
  show Z X E 4 _ 0 0 sz M 0 [(0, .ref B), (1, .int x), (2, .int y)] []
  refine z_aload_n C d_S_text_0 rfl rfl ?_
  refine z_get C in_S h0 rfl 4 (by decide) fl_S_42 rfl rfl d_S_text_1 ?_
  refine z_iload_n C d_S_text_4 rfl rfl ?_
  refine z_callV (rest := []) (n := 1) (As := [.int x]) C (h_find E X.2.1 sz _ hS x) ⟨z_cb C k_H_find ml_S_105 ii_H rfl rfl (by decide +kernel) ⟨by decide, by decide⟩, C.2.2.2.2.1 _ im_H_find, C.2.2.2.2.1 _ se_H_find⟩ hs0 rfl rfl rfl (Nat.le_of_ble_eq_true rfl) d_S_text_5 ⟨by decide, by decide⟩ ?_
  intro v_5 s_5 M_5 hp_5
  obtain ⟨rfl, rfl, ⟨i, hi, rfl, rfl⟩ | ⟨hno, rfl⟩⟩ := hp_5
  · obtain ⟨f, hfi⟩ : ∃ f, fs[i]? = some f := ⟨_, List.getElem?_eq_getElem hi⟩
    have hlab : lab fs (nI (i + 1)) = some f := (lab_at (by omega)).trans hfi
    obtain ⟨kn, kd, hZ⟩ := zsf_fm hS hfi
    have cn := zp_cnt hZ.2.1
    have cd := zp_cnt hZ.2.2
    show Z _ _ _ _ _ _ _ _ 8 _ [.ref (B + 107 + 4 + 5 * i)]
    refine z_astore_n (L' := [(0, .ref B), (1, .int (nI (i + 1))), (2, .int y), (3, .ref (B + 107 + 4 + 5 * i))]) C d_S_text_8 rfl (by decide) rfl ?_
    refine z_aload_n C d_S_text_9 rfl rfl ?_
    refine z_ifnull C d_S_text_10 ?_
    refine z_iload_n C d_S_text_13 rfl rfl ?_
    refine z_if_ge (tgt := 19) C d_S_text_14 (by decide) (fun c_14 => ?_) (fun c_14 => ?_)
    · refine z_aload_n C d_S_text_19 rfl rfl ?_
      refine z_get C in_S h0 rfl 5 (by decide) fl_S_49 rfl rfl d_S_text_20 ?_
      refine z_aload_n C d_S_text_23 rfl rfl ?_
      refine z_iload_n C d_S_text_24 rfl rfl ?_
      obtain ⟨j, hj, rfl⟩ := nI_of (Int32.not_lt.mpr c_14)
      refine z_callV (rest := []) (n := 2) (As := [.ref (B + 107 + 4 + 5 * i), .int (nI j)]) C (t_seek E X.2.1 sz _ ht0 hj hZ (by omega)) ⟨z_cb C k_T_seek ml_S_154 ii_T rfl rfl (by decide +kernel) ⟨by decide, by decide⟩, C.2.2.2.2.1 _ im_T_seek, C.2.2.2.2.1 _ se_T_seek⟩ ht0 rfl rfl rfl (Nat.le_of_ble_eq_true rfl) d_S_text_25 ⟨by decide, by decide⟩ ?_
      intro v_9 s_9 M_9 hp_9
      obtain ⟨rfl, rfl, ho, w9, u9, f9, h9⟩ := hp_9
      have hoR : zoutR M M_9 (B + 311) (B + 312) := fun q hq => ho q (by omega)
      have H9 : zse E M_9 B (cs, fs, ss, nb, sc, bad) := ⟨(ho _ (by omega)).trans h0, zln_oR hoR hL (by omega), zsf_oR hoR hS (by omega), hF, zjunk_sk hoR hJ h9⟩
      show Z _ _ _ _ _ _ _ _ 28 _ [.int (nI ((txtF f.1 f.2 kn kd).getD j 0))]
      exact z_iret C ⟨by unfold q_text; rw [hlab]; show some (Value.int (if nI j < 0 then -1 else nI ((txt f).getD (nI j).toNatClampNeg 0))) = _; rw [if_neg (Int32.not_lt.mpr c_14), nI_clamp hj]; unfold txt; rw [cn, cd], rfl, zoutR_w hoR (by omega) (by omega), H9⟩ d_S_text_28
    · refine z_iconst (v := (-1)) C d_S_text_17 (by decide) ?_
      have eq_ : q_text fs (nI (i + 1)) y = -1 := by
        unfold q_text; rw [hlab]
        all_goals first | rfl | exact if_pos (Int32.not_le.mp c_14)
      exact z_iret C ⟨by rw [eq_], rfl, zoutR_rf, H⟩ d_S_text_18
  · have hlab : lab fs x = none := lab_no hno
    show Z _ _ _ _ _ _ _ _ 8 _ [.null]
    refine z_astore_nN (L' := [(0, .ref B), (1, .int x), (2, .int y), (3, .null)]) C d_S_text_8 rfl (by decide) rfl ?_
    refine z_aload_nN C d_S_text_9 rfl rfl ?_
    refine z_ifnullN (tgt := 17) C d_S_text_10 (by decide) ?_
    refine z_iconst (v := (-1)) C d_S_text_17 (by decide) ?_
    have eq_ : q_text fs x y = -1 := by
      unfold q_text; rw [hlab]
      all_goals first | rfl | exact if_pos (Int32.not_le.mp c_14)
    exact z_iret C ⟨by rw [eq_], rfl, zoutR_rf, H⟩ d_S_text_18
