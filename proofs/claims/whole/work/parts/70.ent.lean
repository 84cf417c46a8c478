theorem z_st {X : zX} {E : zE} {nL : Nat} {Q : State → Prop} {kc ks sz : Nat} {M : zM} {pc : Nat} {L : List (Nat × Value)} {st0 st : List Value} (h : st0 = st) (kk : Z X E nL Q kc ks sz M pc L st) : Z X E nL Q kc ks sz M pc L st0 := h ▸ kk
theorem zrd_junk {E : zE} {M : zM} {r p : Nat} {cs : List Nat} {s : RS} (H : zrd E M r p cs s) : ∃ (o a b : Nat → Nat) (n i k w y h : Nat), M r = some (.inr (5, [.ref (r + 1), .ref (r + 2), .ref (r + 3), .int (nI n), .ref p, .ref (p + 2), .int (nI i), .int (nI k), .int (nI w), .int (nI y), .int (nI h)])) ∧ M (r + 1) = some (.inl (E.2.1 1, 9, .inl (fun j => nI (o j)))) ∧ M (r + 2) = some (.inl (E.2.1 0, 9, .inl (fun j => nI (a j)))) ∧ M (r + 3) = some (.inl (E.2.1 0, 9, .inl (fun j => nI (b j)))) ∧ (∀ j, o j < 128) ∧ (∀ j, a j < 100) ∧ (∀ j, b j < 100) ∧ n ≤ 8 ∧ k ≤ 1 ∧ w ≤ 1 ∧ y ≤ 1 ∧ h ≤ 1 := by
  obtain ⟨o, a, b, n, i, k, w, y, h, ps, t⟩ := s
  obtain ⟨h0, h1, h2, h3, -, -, -, hb⟩ := H
  exact ⟨o, a, b, n, i, k, w, y, h, h0, h1, h2, h3, hb⟩
theorem zrd_pl {E : zE} {M : zM} {r p : Nat} {cs : List Nat} {s : RS} (H : zrd E M r p cs s) : zpg E M (p + 2) ((rdP s).map img) (rdT s) ∧ zln E M p cs := by
  obtain ⟨o, a, b, n, i, k, w, y, h, ps, t⟩ := s
  exact ⟨H.2.2.2.2.1, H.2.2.2.2.2.1⟩
theorem zse_work {E : zE} {M M' : zM} {B : Nat} {cs : List Nat} {fs : List (PS × PS)} {ss : List Nat} {nb : Nat → Nat} {sc : Nat} {bad : Int32} (H : zse E M B (cs, fs, ss, nb, sc, bad)) (ho : zoutR M M' (B + 10) (B + 10 + 97)) {xs : List (PS × PS)} (hx : zwk E M' (B + 10) xs) : zse E M' B (cs, fs, ss, nb, sc, bad) := by
  obtain ⟨h0, h1, h2, h3, ⟨o, a, b, n, i, k, w, y, h, j0, j1, j2, j3, hb⟩, ⟨ps, t, hp⟩, -, u, v, f, ht⟩ := H
  exact ⟨(ho _ (by omega)).trans h0, zln_oR ho h1 (by omega), zsf_oR ho h2 (by omega), h3, ⟨o, a, b, n, i, k, w, y, h, (ho _ (by omega)).trans j0, (ho _ (by omega)).trans j1, (ho _ (by omega)).trans j2, (ho _ (by omega)).trans j3, hb⟩, ⟨ps, t, zpg_oR ho hp (by omega)⟩, ⟨xs, hx⟩, u, v, f, (ho _ (by omega)).trans ht⟩
set_option maxHeartbeats 4000000 in
/-- enter -/
theorem s_enter (E : zE) (l : Launch) (sz : Nat) (M : zM) {B : Nat} {cs : List Nat} {fs : List (PS × PS)} {ss : List Nat} {nb : Nat → Nat} {sc : Nat} {bad : Int32} (H : zse E M B (cs, fs, ss, nb, sc, bad)) (hgood : goodL fs nb cs) : zMet E l y_S_enter c_S_enter 4 (some .int) { frames := 6, cells := 0, slots := 0, locals := 146 } 0 0 [.ref B] sz M (fun v s M' => sz = s ∧ zoutR M M' B (B + 312) ∧ ∃ g x s', some (.int x) = v ∧ entC g (cs, fs, ss, nb, sc, bad) x s' ∧ zse E M' B s') := by
  obtain ⟨h0, hL, hS, hF, hJ⟩ := id H
  obtain ⟨lf, hl0, hl1, hlen, -⟩ := id hL
  obtain ⟨sff, ssf, snf, hs0, hs1, hs2, hs3, ⟨hc40, hss, hsc⟩, -⟩ := id hS
  obtain ⟨⟨o, a, b, n, i, k, w, y, h, j0, j1, j2, j3, bo, ba, bb, bn, bk, bw, b_y, bh⟩, ⟨ps, t, hp⟩, ⟨xs, hx⟩, u, v, f, ht⟩ := id hJ
  have hRd : zrd E M (B + 6) (B + 1) cs (o, a, b, n, i, k, w, y, h, ps, t) := ⟨j0, j1, j2, j3, hp, hL, by omega, bo, ba, bb, bn, bk, bw, b_y, bh⟩
  refine zMet.ofZ (by decide) (Nat.le_of_ble_eq_true rfl) ?_
  intro X hl hini C
  show Z X E 4 _ 0 0 sz M 0 [(0, .ref B)] []
  refine z_aload_n C d_S_enter_0 rfl rfl ?_
  refine z_get C in_S h0 rfl 2 (by decide) fl_S_28 rfl rfl d_S_enter_1 ?_
  refine z_callV (rest := []) (n := 0) (As := []) C (r_read E X.2.1 sz _ hRd) ⟨z_cb C k_R_read ml_S_76 ii_R rfl rfl (by decide +kernel) ⟨by decide, by decide⟩, C.2.2.2.2.1 _ im_R_read, C.2.2.2.2.1 _ se_R_read⟩ j0 rfl rfl rfl (Nat.le_of_ble_eq_true rfl) d_S_enter_4 ⟨by decide, by decide⟩ ?_
  intro v_4 s_4 M_4 hp_4
  obtain ⟨rfl, rfl, ho1, hR1⟩ := hp_4
  have eR : r_fin (r_loop cs 32 (r_start cs o a b y w h)) = (rdR cs (o, a, b, y, w, h)) := rfl
  rw [eR] at hR1
  have hJ1 := zrd_junk (s := (rdR cs (o, a, b, y, w, h)).2) hR1
  obtain ⟨hp1, hL1⟩ := zrd_pl hR1
  have hS1 := zsf_oR ho1 hS (by omega)
  have h01 := (ho1 B (by omega)).trans h0
  obtain ⟨_, hl1, -⟩ := id hL1
  have H1 : zse E M_4 B (cs, fs, ss, nb, sc, bad) := ⟨h01, hL1, hS1, hF, hJ1, ⟨_, _, hp1⟩, ⟨xs, zwk_oR ho1 hx (by omega)⟩, u, v, f, (ho1 _ (by omega)).trans ht⟩
  show Z _ _ _ _ _ _ _ _ 7 _ [.int ((rdR cs (o, a, b, y, w, h)).1)]
  refine z_istore_n (L' := [(0, .ref B), (1, .int ((rdR cs (o, a, b, y, w, h)).1))]) C d_S_enter_7 rfl (by decide) rfl ?_
  refine z_aload_n C d_S_enter_8 rfl rfl ?_
  refine z_get C in_S h01 rfl 0 (by decide) fl_S_12 rfl rfl d_S_enter_9 ?_
  refine z_callV (rest := []) (n := 0) (As := []) C (l_clear E X.2.1 sz _ hL1) ⟨z_cb C k_L_clear ml_S_80 ii_L rfl rfl (by decide +kernel) ⟨by decide, by decide⟩, C.2.2.2.2.1 _ im_L_clear, C.2.2.2.2.1 _ se_L_clear⟩ hl1 rfl rfl rfl (Nat.le_of_ble_eq_true rfl) d_S_enter_12 ⟨by decide, by decide⟩ ?_
  intro v_12 s_12 M_12 hp_12
  obtain ⟨rfl, rfl, ho2, hL2⟩ := hp_12
  have H2 := zse_line H1 ho2 hL2
  have hp2 := zpg_oR ho2 hp1 (by omega)
  obtain ⟨h02, _, hS2, _, _, _, ⟨xs2, hx2⟩, _⟩ := id H2
  obtain ⟨_, _, _, hq2, _⟩ := id hS2
  obtain ⟨_, _, hg2, _⟩ := id hp2
  obtain ⟨_, hk2, _⟩ := id hx2
  have ho12 : zoutR M M_12 B (B + 312) := zoutR_tr (zoutR_w ho1 (by omega) (by omega)) (zoutR_w ho2 (by omega) (by omega))
  show Z _ _ _ _ _ _ _ _ 15 _ []
  refine z_aload_n C d_S_enter_15 rfl rfl ?_
  refine z_get C in_S h02 rfl 4 (by decide) fl_S_42 rfl rfl d_S_enter_16 ?_
  refine z_callV (rest := []) (n := 0) (As := []) C (h_isFull E X.2.1 sz _ hS2) ⟨z_cb C k_H_isFull ml_S_83 ii_H rfl rfl (by decide +kernel) ⟨by decide, by decide⟩, C.2.2.2.2.1 _ im_H_isFull, C.2.2.2.2.1 _ se_H_isFull⟩ hq2 rfl rfl rfl (Nat.le_of_ble_eq_true rfl) d_S_enter_19 ⟨by decide, by decide⟩ ?_
  intro v_19 s_19 M_19 hp_19
  obtain ⟨rfl, rfl, rfl⟩ := hp_19
  show Z _ _ _ _ _ _ _ _ 22 _ [.int (if fs.length = 40 then 1 else 0)]
  refine z_if_eq (tgt := 28) C d_S_enter_22 (by decide) (fun c_22 => ?_) (fun c_22 => ?_)
  · have c_22 : ¬ fs.length = 40 := fun q => by rw [if_pos q] at c_22; exact absurd c_22 (by decide)
    refine z_iload_n C d_S_enter_28 rfl rfl ?_
    refine z_iconst (v := (-1)) C d_S_enter_29 (by decide) ?_
    refine z_icmp_eq (tgt := 41) C d_S_enter_30 (by decide) (fun c_30 => ?_) (fun c_30 => ?_)
    · refine z_aload_n C d_S_enter_41 rfl rfl ?_
      refine z_get C in_S h02 rfl 3 (by decide) fl_S_35 rfl rfl d_S_enter_42 ?_
      refine z_aload_n C d_S_enter_45 rfl rfl ?_
      refine z_get C in_S h02 rfl 1 (by decide) fl_S_19 rfl rfl d_S_enter_46 ?_
      refine z_aload_n C d_S_enter_49 rfl rfl ?_
      refine z_get C in_S h02 rfl 4 (by decide) fl_S_42 rfl rfl d_S_enter_50 ?_
      obtain ⟨hw, hone, htg⟩ := hgood (o, a, b, y, w, h) c_30
      refine z_callV (rest := []) (n := 2) (As := [.ref (B + 1 + 2), .ref (B + 107)]) C (k_run E X.2.1 sz _ hx2 hS2 (by omega) hF hp2 (by omega) hw) ⟨z_cb C k_K_run ml_S_86 ii_K rfl rfl (by decide +kernel) ⟨by decide, by decide⟩, C.2.2.2.2.1 _ im_K_run, C.2.2.2.2.1 _ se_K_run⟩ hk2 rfl rfl rfl (Nat.le_of_ble_eq_true rfl) d_S_enter_53 ⟨by decide, by decide⟩ ?_
      intro v_53 s_53 M_53 hp_53
      obtain ⟨rfl, ho3, hr⟩ := hp_53
      have h03 := (ho3 B (by omega)).trans h02
      have hS3 := zsf_oR ho3 hS2 (by omega)
      have hp3 := zpg_oR ho3 hp2 (by omega)
      have ho13 : zoutR M M_53 B (B + 312) := zoutR_tr ho12 (zoutR_w ho3 (by omega) (by omega))
      cases he : evp fs nb (rdP (rdR cs (o, a, b, y, w, h)).2) [] with
      | inl t =>
        rw [he] at hr
        obtain ⟨rfl, ht0, xs3, hx3⟩ := hr
        have H3 := zse_work H2 ho3 hx3
        show Z _ _ _ _ _ _ _ _ 56 _ [.int t]
        refine z_istore_n (L' := [(0, .ref B), (1, .int ((rdR cs (o, a, b, y, w, h)).1)), (2, .int t)]) C d_S_enter_56 rfl (by decide) rfl ?_
        refine z_iload_n C d_S_enter_57 rfl rfl ?_
        refine z_if_eq (tgt := 63) C d_S_enter_58 (by decide) (fun c_58 => ?_) (fun c_58 => ?_)
        · exact absurd c_58 ht0
        · refine z_iload_n C d_S_enter_61 rfl rfl ?_
          exact z_iret C ⟨rfl, ho13, (o, a, b, y, w, h), t, _, rfl, Or.inr ⟨by omega, Or.inr ⟨c_30, Or.inl ⟨t, he, rfl, rfl⟩⟩⟩, H3⟩ d_S_enter_62
      | inr rs =>
        rw [he] at hr
        obtain ⟨rfl, hfr, hx3⟩ := hr
        have h1 := hone rs he
        obtain ⟨x, rfl⟩ := List.length_eq_one_iff.mp h1
        have hfx : isform x.1 x.2 := hfr x List.mem_cons_self
        have H3 := zse_work H2 ho3 hx3
        have hxz : ∃ kn kd, zf E M_53 (B + 10 + 17) kn kd x.1 x.2 := by
          obtain ⟨_, _, _, _, _, _, q, _⟩ := id hx3
          exact q 0 x rfl
        obtain ⟨kn, kd, hxz⟩ := hxz
        obtain ⟨_, hk3, _⟩ := id hx3
        obtain ⟨_, _, _, hq3, _⟩ := id hS3
        show Z _ _ _ _ _ _ _ _ 56 _ [.int 0]
        refine z_istore_n (L' := [(0, .ref B), (1, .int ((rdR cs (o, a, b, y, w, h)).1)), (2, .int 0)]) C d_S_enter_56 rfl (by decide) rfl ?_
        refine z_iload_n C d_S_enter_57 rfl rfl ?_
        refine z_if_eq (tgt := 63) C d_S_enter_58 (by decide) (fun _ => ?_) (fun c_58 => absurd (rfl) c_58)
        refine z_aload_n C d_S_enter_63 rfl rfl ?_
        refine z_get C in_S h03 rfl 4 (by decide) fl_S_42 rfl rfl d_S_enter_64 ?_
        refine z_aload_n C d_S_enter_67 rfl rfl ?_
        refine z_get C in_S h03 rfl 3 (by decide) fl_S_35 rfl rfl d_S_enter_68 ?_
        refine z_callV (rest := [.ref (B + 107)]) (n := 0) (As := []) C (k_result E X.2.1 sz _ hx3) ⟨z_cb C k_K_result ml_S_90 ii_K rfl rfl (by decide +kernel) ⟨by decide, by decide⟩, C.2.2.2.2.1 _ im_K_result, C.2.2.2.2.1 _ se_K_result⟩ hk3 rfl rfl rfl (Nat.le_of_ble_eq_true rfl) d_S_enter_71 ⟨by decide, by decide⟩ ?_
        intro v_71 s_71 M_71 hp_71
        obtain ⟨rfl, rfl, rfl⟩ := hp_71
        show Z _ _ _ _ _ _ _ _ 74 _ [.ref (B + 10 + 17), .ref (B + 107)]
        refine z_callV (rest := []) (n := 1) (As := [.ref (B + 10 + 17)]) C (h_keep E X.2.1 sz _ hS3 hxz (by omega) (by omega)) ⟨z_cb C k_H_keep ml_S_94 ii_H rfl rfl (by decide +kernel) ⟨by decide, by decide⟩, C.2.2.2.2.1 _ im_H_keep, C.2.2.2.2.1 _ se_H_keep⟩ hq3 rfl rfl rfl (Nat.le_of_ble_eq_true rfl) d_S_enter_74 ⟨by decide, by decide⟩ ?_
        intro v_74 s_74 M_74 hp_74
        obtain ⟨rfl, rfl, ho4, r, sc', hsh, hS4⟩ := hp_74
        have H4 := zse_shelf H3 (zoutR_w ho4 (by omega) (by omega)) hS4 (fun x1 hx1 => by rcases List.mem_append.mp hx1 with q | q; exact hF x1 q; rw [List.mem_singleton.mp q]; exact hfx)
        have h04 := (ho4 B (by omega)).trans h03
        have hp4 := zpg_oR ho4 hp3 (by omega)
        obtain ⟨_, _, hg4, _⟩ := id hp4
        obtain ⟨_, _, _, hq4, _⟩ := id hS4
        have ho14 : zoutR M M_74 B (B + 312) := zoutR_tr ho13 (zoutR_w ho4 (by omega) (by omega))
        show Z _ _ _ _ _ _ _ _ 77 _ [.int (nI (fs.length + 1))]
        refine z_istore_n (L' := [(0, .ref B), (1, .int ((rdR cs (o, a, b, y, w, h)).1)), (2, .int 0), (3, .int (nI (fs.length + 1)))]) C d_S_enter_77 rfl (by decide) rfl ?_
        refine z_aload_n C d_S_enter_78 rfl rfl ?_
        refine z_get C in_S h04 rfl 4 (by decide) fl_S_42 rfl rfl d_S_enter_79 ?_
        refine z_aload_n C d_S_enter_82 rfl rfl ?_
        refine z_get C in_S h04 rfl 1 (by decide) fl_S_19 rfl rfl d_S_enter_83 ?_
        refine z_getN C in_G hg4 rfl 3 (by decide) fl_S_98 rfl rfl d_S_enter_86 ?_
        refine z_iload_n C d_S_enter_89 rfl rfl ?_
        rcases htg with htg | ⟨j, hj, htg⟩
        · have eb : bindN nb (rdT (rdR cs (o, a, b, y, w, h)).2) (fs.length + 1) = nb := by rw [htg]; rfl
          refine z_callV (rest := []) (n := 2) (As := [.int (rdT (rdR cs (o, a, b, y, w, h)).2), .int (nI (fs.length + 1))]) C (h_bindNo E X.2.1 sz _ hS4 (rdT (rdR cs (o, a, b, y, w, h)).2) (nI (fs.length + 1)) (by rw [htg]; decide)) ⟨z_cb C k_H_bind ml_S_101 ii_H rfl rfl (by decide +kernel) ⟨by decide, by decide⟩, C.2.2.2.2.1 _ im_H_bind, C.2.2.2.2.1 _ se_H_bind⟩ hq4 rfl rfl rfl (Nat.le_of_ble_eq_true rfl) d_S_enter_90 ⟨by decide, by decide⟩ ?_
          intro v_90 s_90 M_90 hp_90
          obtain ⟨rfl, rfl, rfl⟩ := hp_90
          show Z _ _ _ _ _ _ _ _ 93 _ []
          refine z_iload_n C d_S_enter_93 rfl rfl ?_
          exact z_iret C ⟨rfl, ho14, (o, a, b, y, w, h), _, _, rfl, Or.inr ⟨by omega, Or.inr ⟨c_30, Or.inr ⟨x, r, sc', he, hfx, rfl, hsh, rfl⟩⟩⟩, by rw [eb]; exact H4⟩ d_S_enter_94
        · have eb : bindN nb (rdT (rdR cs (o, a, b, y, w, h)).2) (fs.length + 1) = fun j1 => if j1 = j then fs.length + 1 else nb j1 := by
            rw [htg]; unfold bindN; rw [if_neg (nI_pos (by omega)), nI_clamp (by omega)]
          refine z_st (st := [.int (nI (fs.length + 1)), .int (nI j), .ref (B + 107)]) (by rw [htg]) ?_
          refine z_callV (rest := []) (n := 2) (As := [.int (nI j), .int (nI (fs.length + 1))]) C (h_bind E X.2.1 sz _ hS4 j (fs.length + 1) hj (by rw [List.length_append]; exact Nat.le_refl _)) ⟨z_cb C k_H_bind ml_S_101 ii_H rfl rfl (by decide +kernel) ⟨by decide, by decide⟩, C.2.2.2.2.1 _ im_H_bind, C.2.2.2.2.1 _ se_H_bind⟩ hq4 rfl rfl rfl (Nat.le_of_ble_eq_true rfl) d_S_enter_90 ⟨by decide, by decide⟩ ?_
          intro v_90 s_90 M_90 hp_90
          obtain ⟨rfl, rfl, ho5, hS5⟩ := hp_90
          have H5 := zse_shelf H4 (zoutR_w ho5 (by omega) (by omega)) hS5 (fun x1 hx1 => by rcases List.mem_append.mp hx1 with q | q; exact hF x1 q; rw [List.mem_singleton.mp q]; exact hfx)
          show Z _ _ _ _ _ _ _ _ 93 _ []
          refine z_iload_n C d_S_enter_93 rfl rfl ?_
          exact z_iret C ⟨rfl, zoutR_tr ho14 (zoutR_w ho5 (by omega) (by omega)), (o, a, b, y, w, h), _, _, rfl, Or.inr ⟨by omega, Or.inr ⟨c_30, Or.inr ⟨x, r, sc', he, hfx, rfl, hsh, rfl⟩⟩⟩, by rw [eb]; exact H5⟩ d_S_enter_94
    · refine z_aload_n C d_S_enter_33 rfl rfl ?_
      refine z_iload_n C d_S_enter_34 rfl rfl ?_
      refine z_put C in_S ty_S tok_S nm_S h02 rfl 6 (by decide) fl_S_53 rfl rfl rfl (rfl) (rfl) (Nat.le_of_ble_eq_true rfl) d_S_enter_35 ?_
      show Z _ _ _ _ _ _ _ (zU M_12 B (.inr (0, [.ref (B + 1), .ref (B + 1 + 2), .ref (B + 6), .ref (B + 10), .ref (B + 107), .ref (B + 311), .int ((rdR cs (o, a, b, y, w, h)).1)]))) _ _ _
      refine z_bipush (v := (-3)) C d_S_enter_38 (by decide) ?_
      exact z_iret C ⟨rfl, zoutR_tr ho12 (fun q hq => zU_ne (by omega)), (o, a, b, y, w, h), -3, _, rfl, Or.inr ⟨by omega, Or.inl ⟨c_30, rfl, rfl⟩⟩, zse_bad H2⟩ d_S_enter_40
  · have c_22 : fs.length = 40 := by
      by_cases q : fs.length = 40
      · exact q
      · exact absurd (if_neg q) c_22
    refine z_bipush (v := (-2)) C d_S_enter_25 (by decide) ?_
    exact z_iret C ⟨rfl, ho12, (o, a, b, y, w, h), -2, _, rfl, Or.inl ⟨c_22, rfl, rfl⟩, H2⟩ d_S_enter_27
