theorem hts_C {N D : PS} {k1 k2 : Nat} (h1 : isC N k1) (h2 : isC D k2) (hk : 1 ≤ k2) : hts (N, D) (max k1 k2 - 1) := by
  refine ⟨fun i hi => h1.1 i (by omega), fun i hi => h2.1 i (by omega), ?_⟩
  rcases Nat.lt_or_ge k2 k1 with q | q
  · exact Or.inl (h1.2 _ (by omega))
  · exact Or.inr (h2.2 _ (by omega))
theorem isC_pos {F G : Nat → FF} {q k : Nat} (h : okR F G q) (hk : isC (pg G q) k) : 1 ≤ k := by
  obtain ⟨i, hi⟩ := okR_ne h
  rcases Nat.eq_zero_or_pos k with z | z
  · exact absurd (hk.1 i (by omega)) hi
  · exact z
theorem putv_ok {P : PS} {K : Nat} {g : PS × PS} (hP : isC P K) (hg : isform g.1 g.2) : isform (putv P K g).1 (putv P K g).2 := by
  rw [← hst_end]
  exact hst_ok hP hg (Nat.zero_le _)
set_option maxHeartbeats 4000000 in
/-- substitute -/
theorem m_subst (E : zE) (l : Launch) (sz : Nat) (M : zM) {m : Nat} {xln : Nat → Nat} {xlen : Nat} {xlab : Nat} {xbad : Int32} {xlev : Nat} {xtr : Int32} {xwa : Nat} {xpl : Nat} {xfo : Nat} {xsf : Nat → Nat} {xbf : Nat → Nat} {xF : Nat → FF} {xG : Nat → FF} {xP : Nat → FF} {xQ : Nat → FF} {xmm : Nat → FF} {xsl : Nat → Nat} {xkd : Nat → Nat} {xhs : Nat → Nat} {xht : Nat → Nat} {xsg : Nat → Nat} {xdv : Nat → Nat} (H : mw E M m xln xlen xlab xbad xlev xtr xwa xpl xfo xsf xbf xF xG xP xQ xmm xsl xkd xhs xht xsg xdv) (f g t : Nat) (hf : f < 72) (hg : g < 72) (ht : t < 72) (htr : xtr = 0) (okf : okR xF xG f) (okg : okR xF xG g) : zMet E l y_M_substitute c_M_substitute 6 none { frames := 6, cells := 0, slots := 0, locals := 152 } 0 0 [.ref m, .int (nI f), .int (nI g), .int (nI t)] sz M (oP E M sz m xln xlen xlab xbad xlev xtr xwa xpl xfo xsf xbf xF xG xP xQ xmm xsl xkd xhs xht xsg xdv (fun q => q < 72 ∧ q ≠ t) t (oComp (pg xF f, pg xG f) (pg xF g, pg xG g))) := by
  refine zMet.ofZ (by decide) (Nat.le_of_ble_eq_true rfl) ?_
  intro X hl hini C
  show Z X E 6 _ 0 0 sz M 0 [(0, .ref m), (1, .int (nI f)), (2, .int (nI g)), (3, .int (nI t))] []
  refine z_aload_n C d_M_substitute_0 rfl rfl ?_
  refine z_get C in_M H.1 rfl 5 (by decide) fl_M_119 rfl rfl d_M_substitute_1 ?_
  refine z_if_eq (tgt := 8) C d_M_substitute_4 (by decide) (fun _ => ?_) (fun c_4 => absurd (htr) c_4)
  refine z_aload_n C d_M_substitute_8 rfl rfl ?_
  refine z_iload_n C d_M_substitute_9 rfl rfl ?_
  refine z_iconst (v := nI 0) C d_M_substitute_10 (by decide) ?_
  refine z_callV (rest := []) (n := 2) (As := [.int (nI f), .int (nI 0)]) C (m_top E X.2.1 sz _ H f 0 (by omega) (by decide)) ⟨z_cb C k_M_top ml_M_133 ii_M rfl rfl (by decide +kernel) ⟨by decide, by decide⟩, C.2.2.2.2.1 _ im_M_top, C.2.2.2.2.1 _ se_M_top⟩ H.1 rfl rfl rfl (Nat.le_of_ble_eq_true rfl) d_M_substitute_11 ⟨by decide, by decide⟩ ?_
  intro v_11 s_11 M_11 hp_11
  obtain ⟨k1, rfl, rfl, rfl, hk1⟩ := hp_11
  have hc_11 : isC (pg xF f) k1 := hk1
  have hlk1 := isC_pg hc_11
  have hck1 := hc_11
  show Z _ _ _ _ _ _ _ _ 14 _ [.int (tI k1)]
  refine z_aload_n C d_M_substitute_14 rfl rfl ?_
  refine z_iload_n C d_M_substitute_15 rfl rfl ?_
  refine z_iconst (v := nI 1) C d_M_substitute_16 (by decide) ?_
  refine z_callV (rest := [.int (tI k1)]) (n := 2) (As := [.int (nI f), .int (nI 1)]) C (m_top E X.2.1 sz _ H f 1 (by omega) (by decide)) ⟨z_cb C k_M_top ml_M_133 ii_M rfl rfl (by decide +kernel) ⟨by decide, by decide⟩, C.2.2.2.2.1 _ im_M_top, C.2.2.2.2.1 _ se_M_top⟩ H.1 rfl rfl rfl (Nat.le_of_ble_eq_true rfl) d_M_substitute_17 ⟨by decide, by decide⟩ ?_
  intro v_17 s_17 M_17 hp_17
  obtain ⟨k2, rfl, rfl, rfl, hk2⟩ := hp_17
  have hc_17 : isC (pg xG f) k2 := hk2
  have hlk2 := isC_pg hc_17
  have hck2 := hc_17
  have hpk2 := isC_pos okf hc_17
  show Z _ _ _ _ _ _ _ _ 20 _ [.int (tI k2), .int (tI k1)]
  refine z_icmp_le (tgt := 32) C d_M_substitute_20 (by decide) (fun c_20 => ?_) (fun c_20 => ?_)
  · have c_20 : k1 ≤ k2 := (tI_lel (by omega) (by omega)).mp c_20
    refine z_aload_n C d_M_substitute_32 rfl rfl ?_
    refine z_iload_n C d_M_substitute_33 rfl rfl ?_
    refine z_iconst (v := nI 1) C d_M_substitute_34 (by decide) ?_
    refine z_callV (rest := []) (n := 2) (As := [.int (nI f), .int (nI 1)]) C (m_top E X.2.1 sz _ H f 1 (by omega) (by decide)) ⟨z_cb C k_M_top ml_M_133 ii_M rfl rfl (by decide +kernel) ⟨by decide, by decide⟩, C.2.2.2.2.1 _ im_M_top, C.2.2.2.2.1 _ se_M_top⟩ H.1 rfl rfl rfl (Nat.le_of_ble_eq_true rfl) d_M_substitute_35 ⟨by decide, by decide⟩ ?_
    intro v_35 s_35 M_35 hp_35
    obtain ⟨kk_35, rfl, rfl, rfl, hkk_35⟩ := hp_35
    have hc_35 : isC (pg xG f) kk_35 := hkk_35
    have ek_35 : k2 = kk_35 := isC_un hck2 hc_35
    subst ek_35
    show Z _ _ _ _ _ _ _ _ 38 _ [.int (tI k2)]
    refine z_top (y := nI (max k1 k2 - 1)) (by rw [tI_nI (by omega), show k2 - 1 = max k1 k2 - 1 by omega]) ?_
    refine z_istore (L' := [(0, .ref m), (1, .int (nI f)), (2, .int (nI g)), (3, .int (nI t)), (4, .int (nI (max k1 k2 - 1)))]) C d_M_substitute_38 (by decide) rfl ?_
    refine z_aload_n C d_M_substitute_40 rfl rfl ?_
    refine z_iload_n C d_M_substitute_41 rfl rfl ?_
    refine z_iconst (v := nI 0) C d_M_substitute_42 (by decide) ?_
    refine z_callV (rest := []) (n := 2) (As := [.int (nI g), .int (nI 0)]) C (m_top E X.2.1 sz _ H g 0 (by omega) (by decide)) ⟨z_cb C k_M_top ml_M_133 ii_M rfl rfl (by decide +kernel) ⟨by decide, by decide⟩, C.2.2.2.2.1 _ im_M_top, C.2.2.2.2.1 _ se_M_top⟩ H.1 rfl rfl rfl (Nat.le_of_ble_eq_true rfl) d_M_substitute_43 ⟨by decide, by decide⟩ ?_
    intro v_43 s_43 M_43 hp_43
    obtain ⟨k3, rfl, rfl, rfl, hk3⟩ := hp_43
    have hc_43 : isC (pg xF g) k3 := hk3
    have hlk3 := isC_pg hc_43
    have hck3 := hc_43
    show Z _ _ _ _ _ _ _ _ 46 _ [.int (tI k3)]
    refine z_aload_n C d_M_substitute_46 rfl rfl ?_
    refine z_iload_n C d_M_substitute_47 rfl rfl ?_
    refine z_iconst (v := nI 1) C d_M_substitute_48 (by decide) ?_
    refine z_callV (rest := [.int (tI k3)]) (n := 2) (As := [.int (nI g), .int (nI 1)]) C (m_top E X.2.1 sz _ H g 1 (by omega) (by decide)) ⟨z_cb C k_M_top ml_M_133 ii_M rfl rfl (by decide +kernel) ⟨by decide, by decide⟩, C.2.2.2.2.1 _ im_M_top, C.2.2.2.2.1 _ se_M_top⟩ H.1 rfl rfl rfl (Nat.le_of_ble_eq_true rfl) d_M_substitute_49 ⟨by decide, by decide⟩ ?_
    intro v_49 s_49 M_49 hp_49
    obtain ⟨k4, rfl, rfl, rfl, hk4⟩ := hp_49
    have hc_49 : isC (pg xG g) k4 := hk4
    have hlk4 := isC_pg hc_49
    have hck4 := hc_49
    have hpk4 := isC_pos okg hc_49
    show Z _ _ _ _ _ _ _ _ 52 _ [.int (tI k4), .int (tI k3)]
    refine z_icmp_le (tgt := 64) C d_M_substitute_52 (by decide) (fun c_52 => ?_) (fun c_52 => ?_)
    · have c_52 : k3 ≤ k4 := (tI_lel (by omega) (by omega)).mp c_52
      refine z_aload_n C d_M_substitute_64 rfl rfl ?_
      refine z_iload_n C d_M_substitute_65 rfl rfl ?_
      refine z_iconst (v := nI 1) C d_M_substitute_66 (by decide) ?_
      refine z_callV (rest := []) (n := 2) (As := [.int (nI g), .int (nI 1)]) C (m_top E X.2.1 sz _ H g 1 (by omega) (by decide)) ⟨z_cb C k_M_top ml_M_133 ii_M rfl rfl (by decide +kernel) ⟨by decide, by decide⟩, C.2.2.2.2.1 _ im_M_top, C.2.2.2.2.1 _ se_M_top⟩ H.1 rfl rfl rfl (Nat.le_of_ble_eq_true rfl) d_M_substitute_67 ⟨by decide, by decide⟩ ?_
      intro v_67 s_67 M_67 hp_67
      obtain ⟨kk_67, rfl, rfl, rfl, hkk_67⟩ := hp_67
      have hc_67 : isC (pg xG g) kk_67 := hkk_67
      have ek_67 : k4 = kk_67 := isC_un hck4 hc_67
      subst ek_67
      show Z _ _ _ _ _ _ _ _ 70 _ [.int (tI k4)]
      refine z_top (y := nI (max k3 k4 - 1)) (by rw [tI_nI (by omega), show k4 - 1 = max k3 k4 - 1 by omega]) ?_
      refine z_istore (L' := [(0, .ref m), (1, .int (nI f)), (2, .int (nI g)), (3, .int (nI t)), (4, .int (nI (max k1 k2 - 1))), (5, .int (nI (max k3 k4 - 1)))]) C d_M_substitute_70 (by decide) rfl ?_
      have hab : (max k1 k2 - 1) * (max k3 k4 - 1) ≤ 12 * 12 := Nat.mul_le_mul (by omega) (by omega)
      refine z_iload C d_M_substitute_72 rfl ?_
      refine z_iload C d_M_substitute_74 rfl ?_
      refine z_imul C d_M_substitute_76 ?_
      refine z_top (y := nI ((max k1 k2 - 1) * (max k3 k4 - 1))) (pk_mul _ _) ?_
      refine z_bipush (v := nI 12) C d_M_substitute_77 (by decide) ?_
      refine z_icmp_le (tgt := 89) C d_M_substitute_79 (by decide) (fun c_79 => ?_) (fun c_79 => ?_)
      · have c_79 : ((max k1 k2 - 1) * (max k3 k4 - 1)) ≤ 12 := (nI_leI (a := ((max k1 k2 - 1) * (max k3 k4 - 1))) (b := 12) (by omega) (by omega)).mp c_79
        refine z_aload_n C d_M_substitute_89 rfl rfl ?_
        refine z_iload_n C d_M_substitute_90 rfl rfl ?_
        refine z_iconst (v := nI 0) C d_M_substitute_91 (by decide) ?_
        refine z_iload_n C d_M_substitute_92 rfl rfl ?_
        refine z_bipush (v := nI 73) C d_M_substitute_93 (by decide) ?_
        refine z_callV (rest := []) (n := 4) (As := [.int (nI f), .int (nI 0), .int (nI g), .int (nI 73)]) C (m_put0 E X.2.1 sz _ H f g 73 k1 (max k3 k4 - 1) (by omega) (by omega) (by decide) htr okg hck1 (hts_C hck3 hck4 hpk4).1 (hts_C hck3 hck4 hpk4).2.1 (Nat.le_trans (Nat.mul_le_mul_right _ (show k1 - 1 ≤ max k1 k2 - 1 by omega)) c_79)) ⟨z_cb C k_M_put ml_M_148 ii_M rfl rfl (by decide +kernel) ⟨by decide, by decide⟩, C.2.2.2.2.1 _ im_M_put, C.2.2.2.2.1 _ se_M_put⟩ H.1 rfl rfl rfl (Nat.le_of_ble_eq_true rfl) d_M_substitute_95 ⟨by decide, by decide⟩ ?_
        intro v_95 s_95 M_95 hp_95
        obtain ⟨rfl, rfl, ho_95, tr_95, F_95, G_95, P_95, Q_95, mm_95, sl_95, H_95, hR_95⟩ := hp_95
        have hz_95 : zoutR M M_95 m (m + 15) := zoutR_tr zoutR_rf ho_95
        obtain ⟨hk95, hr95⟩ := hR_95
        obtain ⟨rfl, f95, g95⟩ := hr95
        have kf := hk95 f ⟨by omega, by omega⟩
        have kg := hk95 g ⟨by omega, by omega⟩
        show Z _ _ _ _ _ _ _ _ 98 _ []
        refine z_aload_n C d_M_substitute_98 rfl rfl ?_
        refine z_iload_n C d_M_substitute_99 rfl rfl ?_
        refine z_iconst (v := nI 1) C d_M_substitute_100 (by decide) ?_
        refine z_iload_n C d_M_substitute_101 rfl rfl ?_
        refine z_bipush (v := nI 74) C d_M_substitute_102 (by decide) ?_
        refine z_callV (rest := []) (n := 4) (As := [.int (nI f), .int (nI 1), .int (nI g), .int (nI 74)]) C (m_put1 E X.2.1 sz _ H_95 f g 74 k2 (max k3 k4 - 1) (by omega) (by omega) (by decide) rfl (by unfold okR; rw [kg.1, kg.2]; exact okg) (by rw [kf.2]; exact hck2) (by rw [kg.1]; exact (hts_C hck3 hck4 hpk4).1) (by rw [kg.2]; exact (hts_C hck3 hck4 hpk4).2.1) (Nat.le_trans (Nat.mul_le_mul_right _ (show k2 - 1 ≤ max k1 k2 - 1 by omega)) c_79)) ⟨z_cb C k_M_put ml_M_148 ii_M rfl rfl (by decide +kernel) ⟨by decide, by decide⟩, C.2.2.2.2.1 _ im_M_put, C.2.2.2.2.1 _ se_M_put⟩ H_95.1 rfl rfl rfl (Nat.le_of_ble_eq_true rfl) d_M_substitute_104 ⟨by decide, by decide⟩ ?_
        intro v_104 s_104 M_104 hp_104
        obtain ⟨rfl, rfl, ho_104, tr_104, F_104, G_104, P_104, Q_104, mm_104, sl_104, H_104, hR_104⟩ := hp_104
        have hz_104 : zoutR M M_104 m (m + 15) := zoutR_tr hz_95 ho_104
        obtain ⟨hk104, hr104⟩ := hR_104
        obtain ⟨rfl, f104, g104⟩ := hr104
        rw [kf.2, kg.1, kg.2] at f104 g104
        have k73 := hk104 73 ⟨by decide, by decide⟩
        show Z _ _ _ _ _ _ _ _ 107 _ []
        refine z_aload_n C d_M_substitute_107 rfl rfl ?_
        refine z_bipush (v := nI 73) C d_M_substitute_108 (by decide) ?_
        refine z_bipush (v := nI 74) C d_M_substitute_110 (by decide) ?_
        refine z_iconst (v := nI 1) C d_M_substitute_112 (by decide) ?_
        refine z_iload_n C d_M_substitute_113 rfl rfl ?_
        refine z_callV (rest := []) (n := 4) (As := [.int (nI 73), .int (nI 74), .int (nI 1), .int (nI t)]) C (m_timesD E X.2.1 sz _ H_104 73 74 t (by decide) (by decide) (by omega) rfl (by unfold okR; rw [k73.1, k73.2, f95, g95]; exact putv_ok (g := (pg xF g, pg xG g)) hck1 okg) (by unfold okR; rw [f104, g104]; exact putv_ok (g := (pg xF g, pg xG g)) hck2 okg)) ⟨z_cb C k_M_times ml_M_140 ii_M rfl rfl (by decide +kernel) ⟨by decide, by decide⟩, C.2.2.2.2.1 _ im_M_times, C.2.2.2.2.1 _ se_M_times⟩ H_104.1 rfl rfl rfl (Nat.le_of_ble_eq_true rfl) d_M_substitute_114 ⟨by decide, by decide⟩ ?_
        intro v_114 s_114 M_114 hp_114
        obtain ⟨rfl, rfl, ho_114, tr_114, F_114, G_114, P_114, Q_114, mm_114, sl_114, H_114, hR_114⟩ := hp_114
        have hz_114 : zoutR M M_114 m (m + 15) := zoutR_tr hz_104 ho_114
        have hR2 : oR (fun q => q ≠ t) F_104 G_104 F_114 G_114 tr_114 t (oDiv (pg F_104 73, pg G_104 73) (pg F_104 74, pg G_104 74)) := hR_114
        rw [k73.1, k73.2, f95, g95, f104, g104] at hR2
        have ec : oComp (pg xF f, pg xG f) (pg xF g, pg xG g) = oDiv ((putv (pg xF f) k1 (pg xF g, pg xG g)).1, (putv (pg xF f) k1 (pg xF g, pg xG g)).2) ((putv (pg xG f) k2 (pg xF g, pg xG g)).1, (putv (pg xG f) k2 (pg xF g, pg xG g)).2) := comp_put (l := (pg xF f, pg xG f)) (g := (pg xF g, pg xG g)) okf okg (hts_C hck1 hck2 hpk2) (hts_C hck3 hck4 hpk4) c_79 hck1 hck2
        show Z _ _ _ _ _ _ _ _ 117 _ []
        refine z_vret C ⟨rfl, rfl, hz_114, tr_114, F_114, G_114, P_114, Q_114, mm_114, sl_114, H_114, ?_⟩ d_M_substitute_117
        rw [ec]
        refine ⟨fun q hq => ?_, hR2.2⟩
        rw [(hR2.1 q hq.2).1, (hR2.1 q hq.2).2, (hk104 q ⟨by omega, by omega⟩).1, (hk104 q ⟨by omega, by omega⟩).2]
        exact hk95 q ⟨by omega, by omega⟩
      · have c_79 : 12 < ((max k1 k2 - 1) * (max k3 k4 - 1)) := Nat.not_le.mp (fun q => c_79 ((nI_leI (a := ((max k1 k2 - 1) * (max k3 k4 - 1))) (b := 12) (by omega) (by omega)).mpr q))
        refine z_aload_n C d_M_substitute_82 rfl rfl ?_
        refine z_bipush (v := -6) C d_M_substitute_83 (by decide) ?_
        refine z_put C in_M ty_M tok_M nm_M H.1 rfl 5 (by decide) fl_M_119 rfl rfl rfl (rfl) (rfl) (Nat.le_of_ble_eq_true rfl) d_M_substitute_85 ?_
        show Z _ _ _ _ _ _ _ (zU M m (.inr (10, [.ref (m + 1), .int (nI xlen), .int (nI xlab), .int xbad, .int (nI xlev), .int (-6), .int (nI xwa), .int (nI xpl), .int (nI xfo), .ref (m + 2), .ref (m + 3), .ref (m + 4), .ref (m + 5), .ref (m + 6), .ref (m + 7), .ref (m + 8), .ref (m + 9), .ref (m + 10), .ref (m + 11), .ref (m + 12), .ref (m + 13), .ref (m + 14)]))) _ _ _
        refine z_vret C ⟨rfl, rfl, (zoutR_tr zoutR_rf (zo_u (by omega) (by omega))), -6, xF, xG, xP, xQ, xmm, xsl, (mw_o H xlen xlab xbad xlev (-6) xwa xpl xfo), ?_⟩ d_M_substitute_88
        have e9 : oComp (pg xF f, pg xG f) (pg xF g, pg xG g) = .inl (-6) := pif_t (by rw [hgt_eq (hts_C hck1 hck2 hpk2), hgt_eq (hts_C hck3 hck4 hpk4)]; omega)
        rw [e9]
        exact ⟨fun q _ => ⟨rfl, rfl⟩, rfl⟩
    · have c_52 : k4 < k3 := Nat.not_le.mp (fun q => c_52 ((tI_lel (by omega) (by omega)).mpr q))
      refine z_aload_n C d_M_substitute_55 rfl rfl ?_
      refine z_iload_n C d_M_substitute_56 rfl rfl ?_
      refine z_iconst (v := nI 0) C d_M_substitute_57 (by decide) ?_
      refine z_callV (rest := []) (n := 2) (As := [.int (nI g), .int (nI 0)]) C (m_top E X.2.1 sz _ H g 0 (by omega) (by decide)) ⟨z_cb C k_M_top ml_M_133 ii_M rfl rfl (by decide +kernel) ⟨by decide, by decide⟩, C.2.2.2.2.1 _ im_M_top, C.2.2.2.2.1 _ se_M_top⟩ H.1 rfl rfl rfl (Nat.le_of_ble_eq_true rfl) d_M_substitute_58 ⟨by decide, by decide⟩ ?_
      intro v_58 s_58 M_58 hp_58
      obtain ⟨kk_58, rfl, rfl, rfl, hkk_58⟩ := hp_58
      have hc_58 : isC (pg xF g) kk_58 := hkk_58
      have ek_58 : k3 = kk_58 := isC_un hck3 hc_58
      subst ek_58
      show Z _ _ _ _ _ _ _ _ 61 _ [.int (tI k3)]
      refine z_top (y := nI (max k3 k4 - 1)) (by rw [tI_nI (by omega), show k3 - 1 = max k3 k4 - 1 by omega]) ?_
      refine z_goto (tgt := 70) C d_M_substitute_61 (by decide) ?_
      refine z_istore (L' := [(0, .ref m), (1, .int (nI f)), (2, .int (nI g)), (3, .int (nI t)), (4, .int (nI (max k1 k2 - 1))), (5, .int (nI (max k3 k4 - 1)))]) C d_M_substitute_70 (by decide) rfl ?_
      have hab : (max k1 k2 - 1) * (max k3 k4 - 1) ≤ 12 * 12 := Nat.mul_le_mul (by omega) (by omega)
      refine z_iload C d_M_substitute_72 rfl ?_
      refine z_iload C d_M_substitute_74 rfl ?_
      refine z_imul C d_M_substitute_76 ?_
      refine z_top (y := nI ((max k1 k2 - 1) * (max k3 k4 - 1))) (pk_mul _ _) ?_
      refine z_bipush (v := nI 12) C d_M_substitute_77 (by decide) ?_
      refine z_icmp_le (tgt := 89) C d_M_substitute_79 (by decide) (fun c_79 => ?_) (fun c_79 => ?_)
      · have c_79 : ((max k1 k2 - 1) * (max k3 k4 - 1)) ≤ 12 := (nI_leI (a := ((max k1 k2 - 1) * (max k3 k4 - 1))) (b := 12) (by omega) (by omega)).mp c_79
        refine z_aload_n C d_M_substitute_89 rfl rfl ?_
        refine z_iload_n C d_M_substitute_90 rfl rfl ?_
        refine z_iconst (v := nI 0) C d_M_substitute_91 (by decide) ?_
        refine z_iload_n C d_M_substitute_92 rfl rfl ?_
        refine z_bipush (v := nI 73) C d_M_substitute_93 (by decide) ?_
        refine z_callV (rest := []) (n := 4) (As := [.int (nI f), .int (nI 0), .int (nI g), .int (nI 73)]) C (m_put0 E X.2.1 sz _ H f g 73 k1 (max k3 k4 - 1) (by omega) (by omega) (by decide) htr okg hck1 (hts_C hck3 hck4 hpk4).1 (hts_C hck3 hck4 hpk4).2.1 (Nat.le_trans (Nat.mul_le_mul_right _ (show k1 - 1 ≤ max k1 k2 - 1 by omega)) c_79)) ⟨z_cb C k_M_put ml_M_148 ii_M rfl rfl (by decide +kernel) ⟨by decide, by decide⟩, C.2.2.2.2.1 _ im_M_put, C.2.2.2.2.1 _ se_M_put⟩ H.1 rfl rfl rfl (Nat.le_of_ble_eq_true rfl) d_M_substitute_95 ⟨by decide, by decide⟩ ?_
        intro v_95 s_95 M_95 hp_95
        obtain ⟨rfl, rfl, ho_95, tr_95, F_95, G_95, P_95, Q_95, mm_95, sl_95, H_95, hR_95⟩ := hp_95
        have hz_95 : zoutR M M_95 m (m + 15) := zoutR_tr zoutR_rf ho_95
        obtain ⟨hk95, hr95⟩ := hR_95
        obtain ⟨rfl, f95, g95⟩ := hr95
        have kf := hk95 f ⟨by omega, by omega⟩
        have kg := hk95 g ⟨by omega, by omega⟩
        show Z _ _ _ _ _ _ _ _ 98 _ []
        refine z_aload_n C d_M_substitute_98 rfl rfl ?_
        refine z_iload_n C d_M_substitute_99 rfl rfl ?_
        refine z_iconst (v := nI 1) C d_M_substitute_100 (by decide) ?_
        refine z_iload_n C d_M_substitute_101 rfl rfl ?_
        refine z_bipush (v := nI 74) C d_M_substitute_102 (by decide) ?_
        refine z_callV (rest := []) (n := 4) (As := [.int (nI f), .int (nI 1), .int (nI g), .int (nI 74)]) C (m_put1 E X.2.1 sz _ H_95 f g 74 k2 (max k3 k4 - 1) (by omega) (by omega) (by decide) rfl (by unfold okR; rw [kg.1, kg.2]; exact okg) (by rw [kf.2]; exact hck2) (by rw [kg.1]; exact (hts_C hck3 hck4 hpk4).1) (by rw [kg.2]; exact (hts_C hck3 hck4 hpk4).2.1) (Nat.le_trans (Nat.mul_le_mul_right _ (show k2 - 1 ≤ max k1 k2 - 1 by omega)) c_79)) ⟨z_cb C k_M_put ml_M_148 ii_M rfl rfl (by decide +kernel) ⟨by decide, by decide⟩, C.2.2.2.2.1 _ im_M_put, C.2.2.2.2.1 _ se_M_put⟩ H_95.1 rfl rfl rfl (Nat.le_of_ble_eq_true rfl) d_M_substitute_104 ⟨by decide, by decide⟩ ?_
        intro v_104 s_104 M_104 hp_104
        obtain ⟨rfl, rfl, ho_104, tr_104, F_104, G_104, P_104, Q_104, mm_104, sl_104, H_104, hR_104⟩ := hp_104
        have hz_104 : zoutR M M_104 m (m + 15) := zoutR_tr hz_95 ho_104
        obtain ⟨hk104, hr104⟩ := hR_104
        obtain ⟨rfl, f104, g104⟩ := hr104
        rw [kf.2, kg.1, kg.2] at f104 g104
        have k73 := hk104 73 ⟨by decide, by decide⟩
        show Z _ _ _ _ _ _ _ _ 107 _ []
        refine z_aload_n C d_M_substitute_107 rfl rfl ?_
        refine z_bipush (v := nI 73) C d_M_substitute_108 (by decide) ?_
        refine z_bipush (v := nI 74) C d_M_substitute_110 (by decide) ?_
        refine z_iconst (v := nI 1) C d_M_substitute_112 (by decide) ?_
        refine z_iload_n C d_M_substitute_113 rfl rfl ?_
        refine z_callV (rest := []) (n := 4) (As := [.int (nI 73), .int (nI 74), .int (nI 1), .int (nI t)]) C (m_timesD E X.2.1 sz _ H_104 73 74 t (by decide) (by decide) (by omega) rfl (by unfold okR; rw [k73.1, k73.2, f95, g95]; exact putv_ok (g := (pg xF g, pg xG g)) hck1 okg) (by unfold okR; rw [f104, g104]; exact putv_ok (g := (pg xF g, pg xG g)) hck2 okg)) ⟨z_cb C k_M_times ml_M_140 ii_M rfl rfl (by decide +kernel) ⟨by decide, by decide⟩, C.2.2.2.2.1 _ im_M_times, C.2.2.2.2.1 _ se_M_times⟩ H_104.1 rfl rfl rfl (Nat.le_of_ble_eq_true rfl) d_M_substitute_114 ⟨by decide, by decide⟩ ?_
        intro v_114 s_114 M_114 hp_114
        obtain ⟨rfl, rfl, ho_114, tr_114, F_114, G_114, P_114, Q_114, mm_114, sl_114, H_114, hR_114⟩ := hp_114
        have hz_114 : zoutR M M_114 m (m + 15) := zoutR_tr hz_104 ho_114
        have hR2 : oR (fun q => q ≠ t) F_104 G_104 F_114 G_114 tr_114 t (oDiv (pg F_104 73, pg G_104 73) (pg F_104 74, pg G_104 74)) := hR_114
        rw [k73.1, k73.2, f95, g95, f104, g104] at hR2
        have ec : oComp (pg xF f, pg xG f) (pg xF g, pg xG g) = oDiv ((putv (pg xF f) k1 (pg xF g, pg xG g)).1, (putv (pg xF f) k1 (pg xF g, pg xG g)).2) ((putv (pg xG f) k2 (pg xF g, pg xG g)).1, (putv (pg xG f) k2 (pg xF g, pg xG g)).2) := comp_put (l := (pg xF f, pg xG f)) (g := (pg xF g, pg xG g)) okf okg (hts_C hck1 hck2 hpk2) (hts_C hck3 hck4 hpk4) c_79 hck1 hck2
        show Z _ _ _ _ _ _ _ _ 117 _ []
        refine z_vret C ⟨rfl, rfl, hz_114, tr_114, F_114, G_114, P_114, Q_114, mm_114, sl_114, H_114, ?_⟩ d_M_substitute_117
        rw [ec]
        refine ⟨fun q hq => ?_, hR2.2⟩
        rw [(hR2.1 q hq.2).1, (hR2.1 q hq.2).2, (hk104 q ⟨by omega, by omega⟩).1, (hk104 q ⟨by omega, by omega⟩).2]
        exact hk95 q ⟨by omega, by omega⟩
      · have c_79 : 12 < ((max k1 k2 - 1) * (max k3 k4 - 1)) := Nat.not_le.mp (fun q => c_79 ((nI_leI (a := ((max k1 k2 - 1) * (max k3 k4 - 1))) (b := 12) (by omega) (by omega)).mpr q))
        refine z_aload_n C d_M_substitute_82 rfl rfl ?_
        refine z_bipush (v := -6) C d_M_substitute_83 (by decide) ?_
        refine z_put C in_M ty_M tok_M nm_M H.1 rfl 5 (by decide) fl_M_119 rfl rfl rfl (rfl) (rfl) (Nat.le_of_ble_eq_true rfl) d_M_substitute_85 ?_
        show Z _ _ _ _ _ _ _ (zU M m (.inr (10, [.ref (m + 1), .int (nI xlen), .int (nI xlab), .int xbad, .int (nI xlev), .int (-6), .int (nI xwa), .int (nI xpl), .int (nI xfo), .ref (m + 2), .ref (m + 3), .ref (m + 4), .ref (m + 5), .ref (m + 6), .ref (m + 7), .ref (m + 8), .ref (m + 9), .ref (m + 10), .ref (m + 11), .ref (m + 12), .ref (m + 13), .ref (m + 14)]))) _ _ _
        refine z_vret C ⟨rfl, rfl, (zoutR_tr zoutR_rf (zo_u (by omega) (by omega))), -6, xF, xG, xP, xQ, xmm, xsl, (mw_o H xlen xlab xbad xlev (-6) xwa xpl xfo), ?_⟩ d_M_substitute_88
        have e9 : oComp (pg xF f, pg xG f) (pg xF g, pg xG g) = .inl (-6) := pif_t (by rw [hgt_eq (hts_C hck1 hck2 hpk2), hgt_eq (hts_C hck3 hck4 hpk4)]; omega)
        rw [e9]
        exact ⟨fun q _ => ⟨rfl, rfl⟩, rfl⟩
  · have c_20 : k2 < k1 := Nat.not_le.mp (fun q => c_20 ((tI_lel (by omega) (by omega)).mpr q))
    refine z_aload_n C d_M_substitute_23 rfl rfl ?_
    refine z_iload_n C d_M_substitute_24 rfl rfl ?_
    refine z_iconst (v := nI 0) C d_M_substitute_25 (by decide) ?_
    refine z_callV (rest := []) (n := 2) (As := [.int (nI f), .int (nI 0)]) C (m_top E X.2.1 sz _ H f 0 (by omega) (by decide)) ⟨z_cb C k_M_top ml_M_133 ii_M rfl rfl (by decide +kernel) ⟨by decide, by decide⟩, C.2.2.2.2.1 _ im_M_top, C.2.2.2.2.1 _ se_M_top⟩ H.1 rfl rfl rfl (Nat.le_of_ble_eq_true rfl) d_M_substitute_26 ⟨by decide, by decide⟩ ?_
    intro v_26 s_26 M_26 hp_26
    obtain ⟨kk_26, rfl, rfl, rfl, hkk_26⟩ := hp_26
    have hc_26 : isC (pg xF f) kk_26 := hkk_26
    have ek_26 : k1 = kk_26 := isC_un hck1 hc_26
    subst ek_26
    show Z _ _ _ _ _ _ _ _ 29 _ [.int (tI k1)]
    refine z_top (y := nI (max k1 k2 - 1)) (by rw [tI_nI (by omega), show k1 - 1 = max k1 k2 - 1 by omega]) ?_
    refine z_goto (tgt := 38) C d_M_substitute_29 (by decide) ?_
    refine z_istore (L' := [(0, .ref m), (1, .int (nI f)), (2, .int (nI g)), (3, .int (nI t)), (4, .int (nI (max k1 k2 - 1)))]) C d_M_substitute_38 (by decide) rfl ?_
    refine z_aload_n C d_M_substitute_40 rfl rfl ?_
    refine z_iload_n C d_M_substitute_41 rfl rfl ?_
    refine z_iconst (v := nI 0) C d_M_substitute_42 (by decide) ?_
    refine z_callV (rest := []) (n := 2) (As := [.int (nI g), .int (nI 0)]) C (m_top E X.2.1 sz _ H g 0 (by omega) (by decide)) ⟨z_cb C k_M_top ml_M_133 ii_M rfl rfl (by decide +kernel) ⟨by decide, by decide⟩, C.2.2.2.2.1 _ im_M_top, C.2.2.2.2.1 _ se_M_top⟩ H.1 rfl rfl rfl (Nat.le_of_ble_eq_true rfl) d_M_substitute_43 ⟨by decide, by decide⟩ ?_
    intro v_43 s_43 M_43 hp_43
    obtain ⟨k3, rfl, rfl, rfl, hk3⟩ := hp_43
    have hc_43 : isC (pg xF g) k3 := hk3
    have hlk3 := isC_pg hc_43
    have hck3 := hc_43
    show Z _ _ _ _ _ _ _ _ 46 _ [.int (tI k3)]
    refine z_aload_n C d_M_substitute_46 rfl rfl ?_
    refine z_iload_n C d_M_substitute_47 rfl rfl ?_
    refine z_iconst (v := nI 1) C d_M_substitute_48 (by decide) ?_
    refine z_callV (rest := [.int (tI k3)]) (n := 2) (As := [.int (nI g), .int (nI 1)]) C (m_top E X.2.1 sz _ H g 1 (by omega) (by decide)) ⟨z_cb C k_M_top ml_M_133 ii_M rfl rfl (by decide +kernel) ⟨by decide, by decide⟩, C.2.2.2.2.1 _ im_M_top, C.2.2.2.2.1 _ se_M_top⟩ H.1 rfl rfl rfl (Nat.le_of_ble_eq_true rfl) d_M_substitute_49 ⟨by decide, by decide⟩ ?_
    intro v_49 s_49 M_49 hp_49
    obtain ⟨k4, rfl, rfl, rfl, hk4⟩ := hp_49
    have hc_49 : isC (pg xG g) k4 := hk4
    have hlk4 := isC_pg hc_49
    have hck4 := hc_49
    have hpk4 := isC_pos okg hc_49
    show Z _ _ _ _ _ _ _ _ 52 _ [.int (tI k4), .int (tI k3)]
    refine z_icmp_le (tgt := 64) C d_M_substitute_52 (by decide) (fun c_52 => ?_) (fun c_52 => ?_)
    · have c_52 : k3 ≤ k4 := (tI_lel (by omega) (by omega)).mp c_52
      refine z_aload_n C d_M_substitute_64 rfl rfl ?_
      refine z_iload_n C d_M_substitute_65 rfl rfl ?_
      refine z_iconst (v := nI 1) C d_M_substitute_66 (by decide) ?_
      refine z_callV (rest := []) (n := 2) (As := [.int (nI g), .int (nI 1)]) C (m_top E X.2.1 sz _ H g 1 (by omega) (by decide)) ⟨z_cb C k_M_top ml_M_133 ii_M rfl rfl (by decide +kernel) ⟨by decide, by decide⟩, C.2.2.2.2.1 _ im_M_top, C.2.2.2.2.1 _ se_M_top⟩ H.1 rfl rfl rfl (Nat.le_of_ble_eq_true rfl) d_M_substitute_67 ⟨by decide, by decide⟩ ?_
      intro v_67 s_67 M_67 hp_67
      obtain ⟨kk_67, rfl, rfl, rfl, hkk_67⟩ := hp_67
      have hc_67 : isC (pg xG g) kk_67 := hkk_67
      have ek_67 : k4 = kk_67 := isC_un hck4 hc_67
      subst ek_67
      show Z _ _ _ _ _ _ _ _ 70 _ [.int (tI k4)]
      refine z_top (y := nI (max k3 k4 - 1)) (by rw [tI_nI (by omega), show k4 - 1 = max k3 k4 - 1 by omega]) ?_
      refine z_istore (L' := [(0, .ref m), (1, .int (nI f)), (2, .int (nI g)), (3, .int (nI t)), (4, .int (nI (max k1 k2 - 1))), (5, .int (nI (max k3 k4 - 1)))]) C d_M_substitute_70 (by decide) rfl ?_
      have hab : (max k1 k2 - 1) * (max k3 k4 - 1) ≤ 12 * 12 := Nat.mul_le_mul (by omega) (by omega)
      refine z_iload C d_M_substitute_72 rfl ?_
      refine z_iload C d_M_substitute_74 rfl ?_
      refine z_imul C d_M_substitute_76 ?_
      refine z_top (y := nI ((max k1 k2 - 1) * (max k3 k4 - 1))) (pk_mul _ _) ?_
      refine z_bipush (v := nI 12) C d_M_substitute_77 (by decide) ?_
      refine z_icmp_le (tgt := 89) C d_M_substitute_79 (by decide) (fun c_79 => ?_) (fun c_79 => ?_)
      · have c_79 : ((max k1 k2 - 1) * (max k3 k4 - 1)) ≤ 12 := (nI_leI (a := ((max k1 k2 - 1) * (max k3 k4 - 1))) (b := 12) (by omega) (by omega)).mp c_79
        refine z_aload_n C d_M_substitute_89 rfl rfl ?_
        refine z_iload_n C d_M_substitute_90 rfl rfl ?_
        refine z_iconst (v := nI 0) C d_M_substitute_91 (by decide) ?_
        refine z_iload_n C d_M_substitute_92 rfl rfl ?_
        refine z_bipush (v := nI 73) C d_M_substitute_93 (by decide) ?_
        refine z_callV (rest := []) (n := 4) (As := [.int (nI f), .int (nI 0), .int (nI g), .int (nI 73)]) C (m_put0 E X.2.1 sz _ H f g 73 k1 (max k3 k4 - 1) (by omega) (by omega) (by decide) htr okg hck1 (hts_C hck3 hck4 hpk4).1 (hts_C hck3 hck4 hpk4).2.1 (Nat.le_trans (Nat.mul_le_mul_right _ (show k1 - 1 ≤ max k1 k2 - 1 by omega)) c_79)) ⟨z_cb C k_M_put ml_M_148 ii_M rfl rfl (by decide +kernel) ⟨by decide, by decide⟩, C.2.2.2.2.1 _ im_M_put, C.2.2.2.2.1 _ se_M_put⟩ H.1 rfl rfl rfl (Nat.le_of_ble_eq_true rfl) d_M_substitute_95 ⟨by decide, by decide⟩ ?_
        intro v_95 s_95 M_95 hp_95
        obtain ⟨rfl, rfl, ho_95, tr_95, F_95, G_95, P_95, Q_95, mm_95, sl_95, H_95, hR_95⟩ := hp_95
        have hz_95 : zoutR M M_95 m (m + 15) := zoutR_tr zoutR_rf ho_95
        obtain ⟨hk95, hr95⟩ := hR_95
        obtain ⟨rfl, f95, g95⟩ := hr95
        have kf := hk95 f ⟨by omega, by omega⟩
        have kg := hk95 g ⟨by omega, by omega⟩
        show Z _ _ _ _ _ _ _ _ 98 _ []
        refine z_aload_n C d_M_substitute_98 rfl rfl ?_
        refine z_iload_n C d_M_substitute_99 rfl rfl ?_
        refine z_iconst (v := nI 1) C d_M_substitute_100 (by decide) ?_
        refine z_iload_n C d_M_substitute_101 rfl rfl ?_
        refine z_bipush (v := nI 74) C d_M_substitute_102 (by decide) ?_
        refine z_callV (rest := []) (n := 4) (As := [.int (nI f), .int (nI 1), .int (nI g), .int (nI 74)]) C (m_put1 E X.2.1 sz _ H_95 f g 74 k2 (max k3 k4 - 1) (by omega) (by omega) (by decide) rfl (by unfold okR; rw [kg.1, kg.2]; exact okg) (by rw [kf.2]; exact hck2) (by rw [kg.1]; exact (hts_C hck3 hck4 hpk4).1) (by rw [kg.2]; exact (hts_C hck3 hck4 hpk4).2.1) (Nat.le_trans (Nat.mul_le_mul_right _ (show k2 - 1 ≤ max k1 k2 - 1 by omega)) c_79)) ⟨z_cb C k_M_put ml_M_148 ii_M rfl rfl (by decide +kernel) ⟨by decide, by decide⟩, C.2.2.2.2.1 _ im_M_put, C.2.2.2.2.1 _ se_M_put⟩ H_95.1 rfl rfl rfl (Nat.le_of_ble_eq_true rfl) d_M_substitute_104 ⟨by decide, by decide⟩ ?_
        intro v_104 s_104 M_104 hp_104
        obtain ⟨rfl, rfl, ho_104, tr_104, F_104, G_104, P_104, Q_104, mm_104, sl_104, H_104, hR_104⟩ := hp_104
        have hz_104 : zoutR M M_104 m (m + 15) := zoutR_tr hz_95 ho_104
        obtain ⟨hk104, hr104⟩ := hR_104
        obtain ⟨rfl, f104, g104⟩ := hr104
        rw [kf.2, kg.1, kg.2] at f104 g104
        have k73 := hk104 73 ⟨by decide, by decide⟩
        show Z _ _ _ _ _ _ _ _ 107 _ []
        refine z_aload_n C d_M_substitute_107 rfl rfl ?_
        refine z_bipush (v := nI 73) C d_M_substitute_108 (by decide) ?_
        refine z_bipush (v := nI 74) C d_M_substitute_110 (by decide) ?_
        refine z_iconst (v := nI 1) C d_M_substitute_112 (by decide) ?_
        refine z_iload_n C d_M_substitute_113 rfl rfl ?_
        refine z_callV (rest := []) (n := 4) (As := [.int (nI 73), .int (nI 74), .int (nI 1), .int (nI t)]) C (m_timesD E X.2.1 sz _ H_104 73 74 t (by decide) (by decide) (by omega) rfl (by unfold okR; rw [k73.1, k73.2, f95, g95]; exact putv_ok (g := (pg xF g, pg xG g)) hck1 okg) (by unfold okR; rw [f104, g104]; exact putv_ok (g := (pg xF g, pg xG g)) hck2 okg)) ⟨z_cb C k_M_times ml_M_140 ii_M rfl rfl (by decide +kernel) ⟨by decide, by decide⟩, C.2.2.2.2.1 _ im_M_times, C.2.2.2.2.1 _ se_M_times⟩ H_104.1 rfl rfl rfl (Nat.le_of_ble_eq_true rfl) d_M_substitute_114 ⟨by decide, by decide⟩ ?_
        intro v_114 s_114 M_114 hp_114
        obtain ⟨rfl, rfl, ho_114, tr_114, F_114, G_114, P_114, Q_114, mm_114, sl_114, H_114, hR_114⟩ := hp_114
        have hz_114 : zoutR M M_114 m (m + 15) := zoutR_tr hz_104 ho_114
        have hR2 : oR (fun q => q ≠ t) F_104 G_104 F_114 G_114 tr_114 t (oDiv (pg F_104 73, pg G_104 73) (pg F_104 74, pg G_104 74)) := hR_114
        rw [k73.1, k73.2, f95, g95, f104, g104] at hR2
        have ec : oComp (pg xF f, pg xG f) (pg xF g, pg xG g) = oDiv ((putv (pg xF f) k1 (pg xF g, pg xG g)).1, (putv (pg xF f) k1 (pg xF g, pg xG g)).2) ((putv (pg xG f) k2 (pg xF g, pg xG g)).1, (putv (pg xG f) k2 (pg xF g, pg xG g)).2) := comp_put (l := (pg xF f, pg xG f)) (g := (pg xF g, pg xG g)) okf okg (hts_C hck1 hck2 hpk2) (hts_C hck3 hck4 hpk4) c_79 hck1 hck2
        show Z _ _ _ _ _ _ _ _ 117 _ []
        refine z_vret C ⟨rfl, rfl, hz_114, tr_114, F_114, G_114, P_114, Q_114, mm_114, sl_114, H_114, ?_⟩ d_M_substitute_117
        rw [ec]
        refine ⟨fun q hq => ?_, hR2.2⟩
        rw [(hR2.1 q hq.2).1, (hR2.1 q hq.2).2, (hk104 q ⟨by omega, by omega⟩).1, (hk104 q ⟨by omega, by omega⟩).2]
        exact hk95 q ⟨by omega, by omega⟩
      · have c_79 : 12 < ((max k1 k2 - 1) * (max k3 k4 - 1)) := Nat.not_le.mp (fun q => c_79 ((nI_leI (a := ((max k1 k2 - 1) * (max k3 k4 - 1))) (b := 12) (by omega) (by omega)).mpr q))
        refine z_aload_n C d_M_substitute_82 rfl rfl ?_
        refine z_bipush (v := -6) C d_M_substitute_83 (by decide) ?_
        refine z_put C in_M ty_M tok_M nm_M H.1 rfl 5 (by decide) fl_M_119 rfl rfl rfl (rfl) (rfl) (Nat.le_of_ble_eq_true rfl) d_M_substitute_85 ?_
        show Z _ _ _ _ _ _ _ (zU M m (.inr (10, [.ref (m + 1), .int (nI xlen), .int (nI xlab), .int xbad, .int (nI xlev), .int (-6), .int (nI xwa), .int (nI xpl), .int (nI xfo), .ref (m + 2), .ref (m + 3), .ref (m + 4), .ref (m + 5), .ref (m + 6), .ref (m + 7), .ref (m + 8), .ref (m + 9), .ref (m + 10), .ref (m + 11), .ref (m + 12), .ref (m + 13), .ref (m + 14)]))) _ _ _
        refine z_vret C ⟨rfl, rfl, (zoutR_tr zoutR_rf (zo_u (by omega) (by omega))), -6, xF, xG, xP, xQ, xmm, xsl, (mw_o H xlen xlab xbad xlev (-6) xwa xpl xfo), ?_⟩ d_M_substitute_88
        have e9 : oComp (pg xF f, pg xG f) (pg xF g, pg xG g) = .inl (-6) := pif_t (by rw [hgt_eq (hts_C hck1 hck2 hpk2), hgt_eq (hts_C hck3 hck4 hpk4)]; omega)
        rw [e9]
        exact ⟨fun q _ => ⟨rfl, rfl⟩, rfl⟩
    · have c_52 : k4 < k3 := Nat.not_le.mp (fun q => c_52 ((tI_lel (by omega) (by omega)).mpr q))
      refine z_aload_n C d_M_substitute_55 rfl rfl ?_
      refine z_iload_n C d_M_substitute_56 rfl rfl ?_
      refine z_iconst (v := nI 0) C d_M_substitute_57 (by decide) ?_
      refine z_callV (rest := []) (n := 2) (As := [.int (nI g), .int (nI 0)]) C (m_top E X.2.1 sz _ H g 0 (by omega) (by decide)) ⟨z_cb C k_M_top ml_M_133 ii_M rfl rfl (by decide +kernel) ⟨by decide, by decide⟩, C.2.2.2.2.1 _ im_M_top, C.2.2.2.2.1 _ se_M_top⟩ H.1 rfl rfl rfl (Nat.le_of_ble_eq_true rfl) d_M_substitute_58 ⟨by decide, by decide⟩ ?_
      intro v_58 s_58 M_58 hp_58
      obtain ⟨kk_58, rfl, rfl, rfl, hkk_58⟩ := hp_58
      have hc_58 : isC (pg xF g) kk_58 := hkk_58
      have ek_58 : k3 = kk_58 := isC_un hck3 hc_58
      subst ek_58
      show Z _ _ _ _ _ _ _ _ 61 _ [.int (tI k3)]
      refine z_top (y := nI (max k3 k4 - 1)) (by rw [tI_nI (by omega), show k3 - 1 = max k3 k4 - 1 by omega]) ?_
      refine z_goto (tgt := 70) C d_M_substitute_61 (by decide) ?_
      refine z_istore (L' := [(0, .ref m), (1, .int (nI f)), (2, .int (nI g)), (3, .int (nI t)), (4, .int (nI (max k1 k2 - 1))), (5, .int (nI (max k3 k4 - 1)))]) C d_M_substitute_70 (by decide) rfl ?_
      have hab : (max k1 k2 - 1) * (max k3 k4 - 1) ≤ 12 * 12 := Nat.mul_le_mul (by omega) (by omega)
      refine z_iload C d_M_substitute_72 rfl ?_
      refine z_iload C d_M_substitute_74 rfl ?_
      refine z_imul C d_M_substitute_76 ?_
      refine z_top (y := nI ((max k1 k2 - 1) * (max k3 k4 - 1))) (pk_mul _ _) ?_
      refine z_bipush (v := nI 12) C d_M_substitute_77 (by decide) ?_
      refine z_icmp_le (tgt := 89) C d_M_substitute_79 (by decide) (fun c_79 => ?_) (fun c_79 => ?_)
      · have c_79 : ((max k1 k2 - 1) * (max k3 k4 - 1)) ≤ 12 := (nI_leI (a := ((max k1 k2 - 1) * (max k3 k4 - 1))) (b := 12) (by omega) (by omega)).mp c_79
        refine z_aload_n C d_M_substitute_89 rfl rfl ?_
        refine z_iload_n C d_M_substitute_90 rfl rfl ?_
        refine z_iconst (v := nI 0) C d_M_substitute_91 (by decide) ?_
        refine z_iload_n C d_M_substitute_92 rfl rfl ?_
        refine z_bipush (v := nI 73) C d_M_substitute_93 (by decide) ?_
        refine z_callV (rest := []) (n := 4) (As := [.int (nI f), .int (nI 0), .int (nI g), .int (nI 73)]) C (m_put0 E X.2.1 sz _ H f g 73 k1 (max k3 k4 - 1) (by omega) (by omega) (by decide) htr okg hck1 (hts_C hck3 hck4 hpk4).1 (hts_C hck3 hck4 hpk4).2.1 (Nat.le_trans (Nat.mul_le_mul_right _ (show k1 - 1 ≤ max k1 k2 - 1 by omega)) c_79)) ⟨z_cb C k_M_put ml_M_148 ii_M rfl rfl (by decide +kernel) ⟨by decide, by decide⟩, C.2.2.2.2.1 _ im_M_put, C.2.2.2.2.1 _ se_M_put⟩ H.1 rfl rfl rfl (Nat.le_of_ble_eq_true rfl) d_M_substitute_95 ⟨by decide, by decide⟩ ?_
        intro v_95 s_95 M_95 hp_95
        obtain ⟨rfl, rfl, ho_95, tr_95, F_95, G_95, P_95, Q_95, mm_95, sl_95, H_95, hR_95⟩ := hp_95
        have hz_95 : zoutR M M_95 m (m + 15) := zoutR_tr zoutR_rf ho_95
        obtain ⟨hk95, hr95⟩ := hR_95
        obtain ⟨rfl, f95, g95⟩ := hr95
        have kf := hk95 f ⟨by omega, by omega⟩
        have kg := hk95 g ⟨by omega, by omega⟩
        show Z _ _ _ _ _ _ _ _ 98 _ []
        refine z_aload_n C d_M_substitute_98 rfl rfl ?_
        refine z_iload_n C d_M_substitute_99 rfl rfl ?_
        refine z_iconst (v := nI 1) C d_M_substitute_100 (by decide) ?_
        refine z_iload_n C d_M_substitute_101 rfl rfl ?_
        refine z_bipush (v := nI 74) C d_M_substitute_102 (by decide) ?_
        refine z_callV (rest := []) (n := 4) (As := [.int (nI f), .int (nI 1), .int (nI g), .int (nI 74)]) C (m_put1 E X.2.1 sz _ H_95 f g 74 k2 (max k3 k4 - 1) (by omega) (by omega) (by decide) rfl (by unfold okR; rw [kg.1, kg.2]; exact okg) (by rw [kf.2]; exact hck2) (by rw [kg.1]; exact (hts_C hck3 hck4 hpk4).1) (by rw [kg.2]; exact (hts_C hck3 hck4 hpk4).2.1) (Nat.le_trans (Nat.mul_le_mul_right _ (show k2 - 1 ≤ max k1 k2 - 1 by omega)) c_79)) ⟨z_cb C k_M_put ml_M_148 ii_M rfl rfl (by decide +kernel) ⟨by decide, by decide⟩, C.2.2.2.2.1 _ im_M_put, C.2.2.2.2.1 _ se_M_put⟩ H_95.1 rfl rfl rfl (Nat.le_of_ble_eq_true rfl) d_M_substitute_104 ⟨by decide, by decide⟩ ?_
        intro v_104 s_104 M_104 hp_104
        obtain ⟨rfl, rfl, ho_104, tr_104, F_104, G_104, P_104, Q_104, mm_104, sl_104, H_104, hR_104⟩ := hp_104
        have hz_104 : zoutR M M_104 m (m + 15) := zoutR_tr hz_95 ho_104
        obtain ⟨hk104, hr104⟩ := hR_104
        obtain ⟨rfl, f104, g104⟩ := hr104
        rw [kf.2, kg.1, kg.2] at f104 g104
        have k73 := hk104 73 ⟨by decide, by decide⟩
        show Z _ _ _ _ _ _ _ _ 107 _ []
        refine z_aload_n C d_M_substitute_107 rfl rfl ?_
        refine z_bipush (v := nI 73) C d_M_substitute_108 (by decide) ?_
        refine z_bipush (v := nI 74) C d_M_substitute_110 (by decide) ?_
        refine z_iconst (v := nI 1) C d_M_substitute_112 (by decide) ?_
        refine z_iload_n C d_M_substitute_113 rfl rfl ?_
        refine z_callV (rest := []) (n := 4) (As := [.int (nI 73), .int (nI 74), .int (nI 1), .int (nI t)]) C (m_timesD E X.2.1 sz _ H_104 73 74 t (by decide) (by decide) (by omega) rfl (by unfold okR; rw [k73.1, k73.2, f95, g95]; exact putv_ok (g := (pg xF g, pg xG g)) hck1 okg) (by unfold okR; rw [f104, g104]; exact putv_ok (g := (pg xF g, pg xG g)) hck2 okg)) ⟨z_cb C k_M_times ml_M_140 ii_M rfl rfl (by decide +kernel) ⟨by decide, by decide⟩, C.2.2.2.2.1 _ im_M_times, C.2.2.2.2.1 _ se_M_times⟩ H_104.1 rfl rfl rfl (Nat.le_of_ble_eq_true rfl) d_M_substitute_114 ⟨by decide, by decide⟩ ?_
        intro v_114 s_114 M_114 hp_114
        obtain ⟨rfl, rfl, ho_114, tr_114, F_114, G_114, P_114, Q_114, mm_114, sl_114, H_114, hR_114⟩ := hp_114
        have hz_114 : zoutR M M_114 m (m + 15) := zoutR_tr hz_104 ho_114
        have hR2 : oR (fun q => q ≠ t) F_104 G_104 F_114 G_114 tr_114 t (oDiv (pg F_104 73, pg G_104 73) (pg F_104 74, pg G_104 74)) := hR_114
        rw [k73.1, k73.2, f95, g95, f104, g104] at hR2
        have ec : oComp (pg xF f, pg xG f) (pg xF g, pg xG g) = oDiv ((putv (pg xF f) k1 (pg xF g, pg xG g)).1, (putv (pg xF f) k1 (pg xF g, pg xG g)).2) ((putv (pg xG f) k2 (pg xF g, pg xG g)).1, (putv (pg xG f) k2 (pg xF g, pg xG g)).2) := comp_put (l := (pg xF f, pg xG f)) (g := (pg xF g, pg xG g)) okf okg (hts_C hck1 hck2 hpk2) (hts_C hck3 hck4 hpk4) c_79 hck1 hck2
        show Z _ _ _ _ _ _ _ _ 117 _ []
        refine z_vret C ⟨rfl, rfl, hz_114, tr_114, F_114, G_114, P_114, Q_114, mm_114, sl_114, H_114, ?_⟩ d_M_substitute_117
        rw [ec]
        refine ⟨fun q hq => ?_, hR2.2⟩
        rw [(hR2.1 q hq.2).1, (hR2.1 q hq.2).2, (hk104 q ⟨by omega, by omega⟩).1, (hk104 q ⟨by omega, by omega⟩).2]
        exact hk95 q ⟨by omega, by omega⟩
      · have c_79 : 12 < ((max k1 k2 - 1) * (max k3 k4 - 1)) := Nat.not_le.mp (fun q => c_79 ((nI_leI (a := ((max k1 k2 - 1) * (max k3 k4 - 1))) (b := 12) (by omega) (by omega)).mpr q))
        refine z_aload_n C d_M_substitute_82 rfl rfl ?_
        refine z_bipush (v := -6) C d_M_substitute_83 (by decide) ?_
        refine z_put C in_M ty_M tok_M nm_M H.1 rfl 5 (by decide) fl_M_119 rfl rfl rfl (rfl) (rfl) (Nat.le_of_ble_eq_true rfl) d_M_substitute_85 ?_
        show Z _ _ _ _ _ _ _ (zU M m (.inr (10, [.ref (m + 1), .int (nI xlen), .int (nI xlab), .int xbad, .int (nI xlev), .int (-6), .int (nI xwa), .int (nI xpl), .int (nI xfo), .ref (m + 2), .ref (m + 3), .ref (m + 4), .ref (m + 5), .ref (m + 6), .ref (m + 7), .ref (m + 8), .ref (m + 9), .ref (m + 10), .ref (m + 11), .ref (m + 12), .ref (m + 13), .ref (m + 14)]))) _ _ _
        refine z_vret C ⟨rfl, rfl, (zoutR_tr zoutR_rf (zo_u (by omega) (by omega))), -6, xF, xG, xP, xQ, xmm, xsl, (mw_o H xlen xlab xbad xlev (-6) xwa xpl xfo), ?_⟩ d_M_substitute_88
        have e9 : oComp (pg xF f, pg xG f) (pg xF g, pg xG g) = .inl (-6) := pif_t (by rw [hgt_eq (hts_C hck1 hck2 hpk2), hgt_eq (hts_C hck3 hck4 hpk4)]; omega)
        rw [e9]
        exact ⟨fun q _ => ⟨rfl, rfl⟩, rfl⟩
/-- what the working out leaves: the labels' registers, and the trouble or the state -/
def eR (F G F' G' : Nat → FF) (tr' : Int32) (lev' : Nat) (kd' hs' ht' sg' dv' : Nat → Nat) (r : MR) : Prop := (∀ q, q < 44 → pg F' q = pg F q ∧ pg G' q = pg G q) ∧ (∀ j, kd' j < 100) ∧ lev' ≤ 9 ∧ match r with
  | .inl t => tr' = t ∧ ¬ t = 0
  | .inr y => tr' = 0 ∧ y.2 = (lev', kd', hs', ht', sg', dv') ∧ ∀ q, q < 72 → y.1 q = (pg F' q, pg G' q)
def eP (E : zE) (M : zM) (sz m : Nat) (xln : Nat → Nat) (xlen : Nat) (xlab : Nat) (xbad : Int32) (xlev : Nat) (xtr : Int32) (xwa : Nat) (xpl : Nat) (xfo : Nat) (xsf : Nat → Nat) (xbf : Nat → Nat) (xF : Nat → FF) (xG : Nat → FF) (xP : Nat → FF) (xQ : Nat → FF) (xmm : Nat → FF) (xsl : Nat → Nat) (xkd : Nat → Nat) (xhs : Nat → Nat) (xht : Nat → Nat) (xsg : Nat → Nat) (xdv : Nat → Nat) (rv : Option Value) (r : MR) : Option Value → Nat → zM → Prop := fun v s M' => rv = v ∧ sz = s ∧ zoutR M M' m (m + 15) ∧ ∃ (lev' : Nat) (tr' : Int32) (F' G' P' Q' mm' : Nat → FF) (sl' kd' hs' ht' sg' dv' : Nat → Nat), mw E M' m xln xlen xlab xbad lev' tr' xwa xpl xfo xsf xbf F' G' P' Q' mm' sl' kd' hs' ht' sg' dv' ∧ eR xF xG F' G' tr' lev' kd' hs' ht' sg' dv' r
theorem m_fac_eq (R : Nat → PS × PS) (l : Nat) (kd hs ht sg dv : Nat → Nat) : m_fac (R, l, kd, hs, ht, sg, dv) = m_fac1 (if ht l = 1 then (if dv l = 1 then oDiv (R (53 + l)) (R 71) else oMul (R (53 + l)) (R 71)) else .inr (R 71)) (R, l, kd, hs, ht, sg, dv) := rfl
theorem m_trm_eq (R : Nat → PS × PS) (l : Nat) (kd hs ht sg dv : Nat → Nat) : m_trm (R, l, kd, hs, ht, sg, dv) = m_trm1 (if hs l = 1 then oAdd (Fin.ofNat 10007 (sg l)) (R (44 + l)) (R (53 + l)) else .inr (ps_mul (ps_C (Fin.ofNat 10007 (sg l))) (R (53 + l)).1, (R (53 + l)).2)) (R, l, kd, hs, ht, sg, dv) := rfl
theorem m_clo2_eq (R : Nat → PS × PS) (l : Nat) (kd hs ht sg dv : Nat → Nat) : m_clo2 (R, l, kd, hs, ht, sg, dv) = m_put (if kd l = 2 then oDer (R (44 + l)) else if kd l = 4 then oComp (R (62 + l)) (R (44 + l)) else .inr (R (44 + l))) (R, l - 1, kd, hs, ht, sg, dv) := rfl
def relR (R : Nat → PS × PS) (F G : Nat → FF) : Prop := ∀ q, q < 72 → R q = (pg F q, pg G q)
theorem relR_u {R : Nat → PS × PS} {F G F' G' : Nat → FF} {t : Nat} {f : PS × PS} (h : relR R F G) (hk : ∀ q, q < 72 ∧ q ≠ t → pg F' q = pg F q ∧ pg G' q = pg G q) (h1 : pg F' t = f.1) (h2 : pg G' t = f.2) : relR (updR R t f) F' G' := by
  intro q hq
  by_cases e : q = t
  · rw [e, updR_eq, h1, h2]
  · rw [updR_ne e, h q hq, (hk q ⟨hq, e⟩).1, (hk q ⟨hq, e⟩).2]
set_option maxHeartbeats 4000000 in
/-- M_start -/
theorem m_start (E : zE) (l : Launch) (sz : Nat) (M : zM) {m : Nat} {xln : Nat → Nat} {xlen : Nat} {xlab : Nat} {xbad : Int32} {xlev : Nat} {xtr : Int32} {xwa : Nat} {xpl : Nat} {xfo : Nat} {xsf : Nat → Nat} {xbf : Nat → Nat} {xF : Nat → FF} {xG : Nat → FF} {xP : Nat → FF} {xQ : Nat → FF} {xmm : Nat → FF} {xsl : Nat → Nat} {xkd : Nat → Nat} {xhs : Nat → Nat} {xht : Nat → Nat} {xsg : Nat → Nat} {xdv : Nat → Nat} (H : mw E M m xln xlen xlab xbad xlev xtr xwa xpl xfo xsf xbf xF xG xP xQ xmm xsl xkd xhs xht xsg xdv) (v0 : Nat) (hlev : xlev ≤ 9) : zMet E l y_M_start c_M_start 2 none { frames := 0, cells := 0, slots := 0, locals := 0 } 0 0 [.ref m, .int (nI v0)] sz M (fun v s M' => none = v ∧ sz = s ∧ zoutR M M' m (m + 15) ∧ mw E M' m xln xlen xlab xbad xlev xtr xwa xpl xfo xsf xbf xF xG xP xQ xmm xsl (updN xkd xlev v0) (updN xhs xlev 0) (updN xht xlev 0) (updN xsg xlev 1) (updN xdv xlev 0)) := by
  refine zMet.ofZ (by decide) (Nat.le_of_ble_eq_true rfl) ?_
  intro X hl hini C
  show Z X E 2 _ 0 0 sz M 0 [(0, .ref m), (1, .int (nI v0))] []
  refine z_aload_n C d_M_start_0 rfl rfl ?_
  refine z_get C in_M H.1 rfl 17 (by decide) fl_M_41 rfl rfl d_M_start_1 ?_
  refine z_aload_n C d_M_start_4 rfl rfl ?_
  refine z_get C in_M H.1 rfl 4 (by decide) fl_M_85 rfl rfl d_M_start_5 ?_
  refine z_iload_n C d_M_start_8 rfl rfl ?_
  refine z_iast C H.2.2.2.2.2.2.2.2.2.2.1 0 rfl xlev (rfl) (by omega) (by omega) d_M_start_9 ?_
  refine z_world (M' := zU M (m + 10) (.inl (E.2.1 0, 10, .inl (fun z_ => nI ((updN xkd xlev v0) z_))))) (congrArg (fun e => zU M (m + 10) (.inl (E.2.1 0, 10, .inl e))) nI_upd) ?_
  refine z_aload_n C d_M_start_10 rfl rfl ?_
  refine z_get C in_M ((zU_ne (by omega)).trans H.1) rfl 18 (by decide) fl_M_44 rfl rfl d_M_start_11 ?_
  refine z_aload_n C d_M_start_14 rfl rfl ?_
  refine z_get C in_M ((zU_ne (by omega)).trans H.1) rfl 4 (by decide) fl_M_85 rfl rfl d_M_start_15 ?_
  refine z_iconst (v := nI 0) C d_M_start_18 (by decide) ?_
  refine z_zast C ((zU_ne (by omega)).trans H.2.2.2.2.2.2.2.2.2.2.2.1) 2 rfl xlev (rfl) (by omega) (by omega) (nar_01 (by first | decide | omega)) d_M_start_19 ?_
  refine z_world (M' := zU (zU M (m + 10) (.inl (E.2.1 0, 10, .inl (fun z_ => nI ((updN xkd xlev v0) z_))))) (m + 11) (.inl (E.2.1 2, 10, .inl (fun z_ => nI ((updN xhs xlev 0) z_))))) (congrArg (fun e => zU (zU M (m + 10) (.inl (E.2.1 0, 10, .inl (fun z_ => nI ((updN xkd xlev v0) z_))))) (m + 11) (.inl (E.2.1 2, 10, .inl e))) nI_upd) ?_
  refine z_aload_n C d_M_start_20 rfl rfl ?_
  refine z_get C in_M ((zU_ne (by omega)).trans ((zU_ne (by omega)).trans H.1)) rfl 19 (by decide) fl_M_48 rfl rfl d_M_start_21 ?_
  refine z_aload_n C d_M_start_24 rfl rfl ?_
  refine z_get C in_M ((zU_ne (by omega)).trans ((zU_ne (by omega)).trans H.1)) rfl 4 (by decide) fl_M_85 rfl rfl d_M_start_25 ?_
  refine z_iconst (v := nI 0) C d_M_start_28 (by decide) ?_
  refine z_zast C ((zU_ne (by omega)).trans ((zU_ne (by omega)).trans H.2.2.2.2.2.2.2.2.2.2.2.2.1)) 2 rfl xlev (rfl) (by omega) (by omega) (nar_01 (by first | decide | omega)) d_M_start_29 ?_
  refine z_world (M' := zU (zU (zU M (m + 10) (.inl (E.2.1 0, 10, .inl (fun z_ => nI ((updN xkd xlev v0) z_))))) (m + 11) (.inl (E.2.1 2, 10, .inl (fun z_ => nI ((updN xhs xlev 0) z_))))) (m + 12) (.inl (E.2.1 2, 10, .inl (fun z_ => nI ((updN xht xlev 0) z_))))) (congrArg (fun e => zU (zU (zU M (m + 10) (.inl (E.2.1 0, 10, .inl (fun z_ => nI ((updN xkd xlev v0) z_))))) (m + 11) (.inl (E.2.1 2, 10, .inl (fun z_ => nI ((updN xhs xlev 0) z_))))) (m + 12) (.inl (E.2.1 2, 10, .inl e))) nI_upd) ?_
  refine z_aload_n C d_M_start_30 rfl rfl ?_
  refine z_get C in_M ((zU_ne (by omega)).trans ((zU_ne (by omega)).trans ((zU_ne (by omega)).trans H.1))) rfl 20 (by decide) fl_M_51 rfl rfl d_M_start_31 ?_
  refine z_aload_n C d_M_start_34 rfl rfl ?_
  refine z_get C in_M ((zU_ne (by omega)).trans ((zU_ne (by omega)).trans ((zU_ne (by omega)).trans H.1))) rfl 4 (by decide) fl_M_85 rfl rfl d_M_start_35 ?_
  refine z_iconst (v := nI 1) C d_M_start_38 (by decide) ?_
  refine z_iast C ((zU_ne (by omega)).trans ((zU_ne (by omega)).trans ((zU_ne (by omega)).trans H.2.2.2.2.2.2.2.2.2.2.2.2.2.1))) 0 rfl xlev (rfl) (by omega) (by omega) d_M_start_39 ?_
  refine z_world (M' := zU (zU (zU (zU M (m + 10) (.inl (E.2.1 0, 10, .inl (fun z_ => nI ((updN xkd xlev v0) z_))))) (m + 11) (.inl (E.2.1 2, 10, .inl (fun z_ => nI ((updN xhs xlev 0) z_))))) (m + 12) (.inl (E.2.1 2, 10, .inl (fun z_ => nI ((updN xht xlev 0) z_))))) (m + 13) (.inl (E.2.1 0, 10, .inl (fun z_ => nI ((updN xsg xlev 1) z_))))) (congrArg (fun e => zU (zU (zU (zU M (m + 10) (.inl (E.2.1 0, 10, .inl (fun z_ => nI ((updN xkd xlev v0) z_))))) (m + 11) (.inl (E.2.1 2, 10, .inl (fun z_ => nI ((updN xhs xlev 0) z_))))) (m + 12) (.inl (E.2.1 2, 10, .inl (fun z_ => nI ((updN xht xlev 0) z_))))) (m + 13) (.inl (E.2.1 0, 10, .inl e))) nI_upd) ?_
  refine z_aload_n C d_M_start_40 rfl rfl ?_
  refine z_get C in_M ((zU_ne (by omega)).trans ((zU_ne (by omega)).trans ((zU_ne (by omega)).trans ((zU_ne (by omega)).trans H.1)))) rfl 21 (by decide) fl_M_54 rfl rfl d_M_start_41 ?_
  refine z_aload_n C d_M_start_44 rfl rfl ?_
  refine z_get C in_M ((zU_ne (by omega)).trans ((zU_ne (by omega)).trans ((zU_ne (by omega)).trans ((zU_ne (by omega)).trans H.1)))) rfl 4 (by decide) fl_M_85 rfl rfl d_M_start_45 ?_
  refine z_iconst (v := nI 0) C d_M_start_48 (by decide) ?_
  refine z_zast C ((zU_ne (by omega)).trans ((zU_ne (by omega)).trans ((zU_ne (by omega)).trans ((zU_ne (by omega)).trans H.2.2.2.2.2.2.2.2.2.2.2.2.2.2)))) 2 rfl xlev (rfl) (by omega) (by omega) (nar_01 (by first | decide | omega)) d_M_start_49 ?_
  refine z_world (M' := zU (zU (zU (zU (zU M (m + 10) (.inl (E.2.1 0, 10, .inl (fun z_ => nI ((updN xkd xlev v0) z_))))) (m + 11) (.inl (E.2.1 2, 10, .inl (fun z_ => nI ((updN xhs xlev 0) z_))))) (m + 12) (.inl (E.2.1 2, 10, .inl (fun z_ => nI ((updN xht xlev 0) z_))))) (m + 13) (.inl (E.2.1 0, 10, .inl (fun z_ => nI ((updN xsg xlev 1) z_))))) (m + 14) (.inl (E.2.1 2, 10, .inl (fun z_ => nI ((updN xdv xlev 0) z_))))) (congrArg (fun e => zU (zU (zU (zU (zU M (m + 10) (.inl (E.2.1 0, 10, .inl (fun z_ => nI ((updN xkd xlev v0) z_))))) (m + 11) (.inl (E.2.1 2, 10, .inl (fun z_ => nI ((updN xhs xlev 0) z_))))) (m + 12) (.inl (E.2.1 2, 10, .inl (fun z_ => nI ((updN xht xlev 0) z_))))) (m + 13) (.inl (E.2.1 0, 10, .inl (fun z_ => nI ((updN xsg xlev 1) z_))))) (m + 14) (.inl (E.2.1 2, 10, .inl e))) nI_upd) ?_
  exact z_vret C ⟨rfl, rfl, (zoutR_tr (zoutR_tr (zoutR_tr (zoutR_tr (zoutR_tr zoutR_rf (zo_u (by omega) (by omega))) (zo_u (by omega) (by omega))) (zo_u (by omega) (by omega))) (zo_u (by omega) (by omega))) (zo_u (by omega) (by omega))), (mw_a14 (mw_a13 (mw_a12 (mw_a11 (mw_a10 H (updN xkd xlev v0)) (updN xhs xlev 0)) (updN xht xlev 0)) (updN xsg xlev 1)) (updN xdv xlev 0))⟩ d_M_start_50
set_option maxHeartbeats 4000000 in
/-- factor -/
theorem m_factor (E : zE) (l : Launch) (sz : Nat) (M : zM) {m : Nat} {xln : Nat → Nat} {xlen : Nat} {xlab : Nat} {xbad : Int32} {xlev : Nat} {xtr : Int32} {xwa : Nat} {xpl : Nat} {xfo : Nat} {xsf : Nat → Nat} {xbf : Nat → Nat} {xF : Nat → FF} {xG : Nat → FF} {xP : Nat → FF} {xQ : Nat → FF} {xmm : Nat → FF} {xsl : Nat → Nat} {xkd : Nat → Nat} {xhs : Nat → Nat} {xht : Nat → Nat} {xsg : Nat → Nat} {xdv : Nat → Nat} (H : mw E M m xln xlen xlab xbad xlev xtr xwa xpl xfo xsf xbf xF xG xP xQ xmm xsl xkd xhs xht xsg xdv) (R : Nat → PS × PS) (hR : relR R xF xG) (htr : xtr = 0) (hlev : xlev ≤ 8) (hkd : ∀ j, xkd j < 100) (hht : xht xlev ≤ 1) (hdv : xht xlev = 1 → xdv xlev ≤ 1) (ok71 : okR xF xG 71) (ok53 : xht xlev = 1 → okR xF xG (53 + xlev)) : zMet E l y_M_factor c_M_factor 1 none { frames := 5, cells := 0, slots := 0, locals := 127 } 0 0 [.ref m] sz M (eP E M sz m xln xlen xlab xbad xlev xtr xwa xpl xfo xsf xbf xF xG xP xQ xmm xsl xkd xhs xht xsg xdv none (m_fac (R, xlev, xkd, xhs, xht, xsg, xdv))) := by
  refine zMet.ofZ (by decide) (Nat.le_of_ble_eq_true rfl) ?_
  intro X hl hini C
  show Z X E 1 _ 0 0 sz M 0 [(0, .ref m)] []
  refine z_aload_n C d_M_factor_0 rfl rfl ?_
  refine z_get C in_M H.1 rfl 5 (by decide) fl_M_119 rfl rfl d_M_factor_1 ?_
  refine z_if_eq (tgt := 8) C d_M_factor_4 (by decide) (fun _ => ?_) (fun c_4 => absurd (htr) c_4)
  refine z_aload_n C d_M_factor_8 rfl rfl ?_
  refine z_get C in_M H.1 rfl 19 (by decide) fl_M_48 rfl rfl d_M_factor_9 ?_
  refine z_aload_n C d_M_factor_12 rfl rfl ?_
  refine z_get C in_M H.1 rfl 4 (by decide) fl_M_85 rfl rfl d_M_factor_13 ?_
  refine z_zald C H.2.2.2.2.2.2.2.2.2.2.2.2.1 2 rfl xlev (rfl) (by omega) (by omega) d_M_factor_16 ?_
  refine z_top (y := nI (xht xlev)) rfl ?_
  refine z_if_eq (tgt := 52) C d_M_factor_17 (by decide) (fun c_17 => ?_) (fun c_17 => ?_)
  · have c_17 : (xht xlev) = 0 := (nI_eq (a := (xht xlev)) (b := 0) (by omega) (by omega)).mp c_17
    refine z_aload_n C d_M_factor_52 rfl rfl ?_
    refine z_bipush (v := nI 71) C d_M_factor_53 (by decide) ?_
    refine z_bipush (v := nI 53) C d_M_factor_55 (by decide) ?_
    refine z_aload_n C d_M_factor_57 rfl rfl ?_
    refine z_get C in_M H.1 rfl 4 (by decide) fl_M_85 rfl rfl d_M_factor_58 ?_
    refine z_iadd C d_M_factor_61 ?_
    refine z_top (y := nI (53 + xlev)) (nI_add _ _) ?_
    refine z_callV (rest := []) (n := 2) (As := [.int (nI 71), .int (nI (53 + xlev))]) C (m_copy E X.2.1 sz _ H 71 (53 + xlev) (by decide) (by omega) (by omega)) ⟨z_cb C k_M_copy ml_M_137 ii_M rfl rfl (by decide +kernel) ⟨by decide, by decide⟩, C.2.2.2.2.1 _ im_M_copy, C.2.2.2.2.1 _ se_M_copy⟩ H.1 rfl rfl rfl (Nat.le_of_ble_eq_true rfl) d_M_factor_62 ⟨by decide, by decide⟩ ?_
    intro v_62 s_62 M_62 hp_62
    obtain ⟨rfl, rfl, ho_62, H_62⟩ := hp_62
    have hz_62 : zoutR M M_62 m (m + 15) := zoutR_tr zoutR_rf ho_62
    show Z _ _ _ _ _ _ _ _ 65 _ []
    refine z_aload_n C d_M_factor_65 rfl rfl ?_
    refine z_get C in_M H_62.1 rfl 19 (by decide) fl_M_48 rfl rfl d_M_factor_66 ?_
    refine z_aload_n C d_M_factor_69 rfl rfl ?_
    refine z_get C in_M H_62.1 rfl 4 (by decide) fl_M_85 rfl rfl d_M_factor_70 ?_
    refine z_iconst (v := nI 1) C d_M_factor_73 (by decide) ?_
    refine z_zast C H_62.2.2.2.2.2.2.2.2.2.2.2.2.1 2 rfl xlev (rfl) (by omega) (by omega) (nar_01 (by first | decide | omega)) d_M_factor_74 ?_
    refine z_world (M' := zU M_62 (m + 12) (.inl (E.2.1 2, 10, .inl (fun z_ => nI ((updN xht xlev 1) z_))))) (congrArg (fun e => zU M_62 (m + 12) (.inl (E.2.1 2, 10, .inl e))) nI_upd) ?_
    have ef : m_fac (R, xlev, xkd, xhs, xht, xsg, xdv) = m_fac1 (.inr (R 71)) (R, xlev, xkd, xhs, xht, xsg, xdv) := by
      rw [m_fac_eq, if_neg (by omega)]
    refine z_vret C ⟨rfl, rfl, (zoutR_tr hz_62 (zo_u (by omega) (by omega))), xlev, xtr, (cpF xF 71 (53 + xlev) 13), (cpF xG 71 (53 + xlev) 13), xP, xQ, xmm, xsl, xkd, xhs, (updN xht xlev 1), xsg, xdv, (mw_a12 H_62 (updN xht xlev 1)), fun q hq => ⟨by rw [pg_cp, if_neg (by omega)], by rw [pg_cp, if_neg (by omega)]⟩, hkd, by omega, ?_⟩ d_M_factor_75
    rw [ef, hR _ (by omega)]
    exact ⟨htr, rfl, relR_u hR (fun q hq => ⟨by rw [pg_cp, if_neg hq.2], by rw [pg_cp, if_neg hq.2]⟩) (by rw [pg_cp, if_pos rfl]) (by rw [pg_cp, if_pos rfl])⟩
  · have c_17 : ¬ (xht xlev) = 0 := fun q => c_17 (congrArg nI q)
    refine z_aload_n C d_M_factor_20 rfl rfl ?_
    refine z_bipush (v := nI 53) C d_M_factor_21 (by decide) ?_
    refine z_aload_n C d_M_factor_23 rfl rfl ?_
    refine z_get C in_M H.1 rfl 4 (by decide) fl_M_85 rfl rfl d_M_factor_24 ?_
    refine z_iadd C d_M_factor_27 ?_
    refine z_top (y := nI (53 + xlev)) (nI_add _ _) ?_
    refine z_bipush (v := nI 71) C d_M_factor_28 (by decide) ?_
    refine z_aload_n C d_M_factor_30 rfl rfl ?_
    refine z_get C in_M H.1 rfl 21 (by decide) fl_M_54 rfl rfl d_M_factor_31 ?_
    refine z_aload_n C d_M_factor_34 rfl rfl ?_
    refine z_get C in_M H.1 rfl 4 (by decide) fl_M_85 rfl rfl d_M_factor_35 ?_
    refine z_zald C H.2.2.2.2.2.2.2.2.2.2.2.2.2.2 2 rfl xlev (rfl) (by omega) (by omega) d_M_factor_38 ?_
    refine z_top (y := nI (xdv xlev)) rfl ?_
    refine z_bipush (v := nI 53) C d_M_factor_39 (by decide) ?_
    refine z_aload_n C d_M_factor_41 rfl rfl ?_
    refine z_get C in_M H.1 rfl 4 (by decide) fl_M_85 rfl rfl d_M_factor_42 ?_
    refine z_iadd C d_M_factor_45 ?_
    refine z_top (y := nI (53 + xlev)) (nI_add _ _) ?_
    have hdv := hdv (by omega)
    rcases (by omega : xdv xlev = 0 ∨ xdv xlev = 1) with hd0 | hd1
    · rw [hd0]
      refine z_callV (rest := []) (n := 4) (As := [.int (nI (53 + xlev)), .int (nI 71), .int (nI 0), .int (nI (53 + xlev))]) C (m_timesM E X.2.1 sz _ H (53 + xlev) 71 (53 + xlev) (by omega) (by decide) (by omega) htr (ok53 (by omega)) ok71) ⟨z_cb C k_M_times ml_M_140 ii_M rfl rfl (by decide +kernel) ⟨by decide, by decide⟩, C.2.2.2.2.1 _ im_M_times, C.2.2.2.2.1 _ se_M_times⟩ H.1 rfl rfl rfl (Nat.le_of_ble_eq_true rfl) d_M_factor_46 ⟨by decide, by decide⟩ ?_
      intro v_46 s_46 M_46 hp_46
      obtain ⟨rfl, rfl, ho_46, tr_46, F_46, G_46, P_46, Q_46, mm_46, sl_46, H_46, hR_46⟩ := hp_46
      have hz_46 : zoutR M M_46 m (m + 15) := zoutR_tr zoutR_rf ho_46
      show Z _ _ _ _ _ _ _ _ 49 _ []
      refine z_goto (tgt := 65) C d_M_factor_49 (by decide) ?_
      refine z_aload_n C d_M_factor_65 rfl rfl ?_
      refine z_get C in_M H_46.1 rfl 19 (by decide) fl_M_48 rfl rfl d_M_factor_66 ?_
      refine z_aload_n C d_M_factor_69 rfl rfl ?_
      refine z_get C in_M H_46.1 rfl 4 (by decide) fl_M_85 rfl rfl d_M_factor_70 ?_
      refine z_iconst (v := nI 1) C d_M_factor_73 (by decide) ?_
      refine z_zast C H_46.2.2.2.2.2.2.2.2.2.2.2.2.1 2 rfl xlev (rfl) (by omega) (by omega) (nar_01 (by first | decide | omega)) d_M_factor_74 ?_
      refine z_world (M' := zU M_46 (m + 12) (.inl (E.2.1 2, 10, .inl (fun z_ => nI ((updN xht xlev 1) z_))))) (congrArg (fun e => zU M_46 (m + 12) (.inl (E.2.1 2, 10, .inl e))) nI_upd) ?_
      have ef : m_fac (R, xlev, xkd, xhs, xht, xsg, xdv) = m_fac1 (oMul (R (53 + xlev)) (R 71)) (R, xlev, xkd, xhs, xht, xsg, xdv) := by
        rw [m_fac_eq, if_pos (by omega), if_neg (by omega)]
      refine z_vret C ⟨rfl, rfl, (zoutR_tr hz_46 (zo_u (by omega) (by omega))), xlev, tr_46, F_46, G_46, P_46, Q_46, mm_46, sl_46, xkd, xhs, (updN xht xlev 1), xsg, xdv, (mw_a12 H_46 (updN xht xlev 1)), fun q hq => hR_46.1 q (by omega), hkd, by omega, ?_⟩ d_M_factor_75
      rw [ef, hR _ (by omega), hR _ (by omega)]
      obtain ⟨hk, hr⟩ := hR_46
      rcases er : oMul (pg xF (53 + xlev), pg xG (53 + xlev)) (pg xF 71, pg xG 71) with t9 | y9
      · rw [er] at hr; exact ⟨hr, setl_ne er⟩
      · rw [er] at hr
        exact ⟨hr.1, rfl, relR_u hR (fun q hq => hk q hq.2) hr.2.1 hr.2.2⟩
    · rw [hd1]
      refine z_callV (rest := []) (n := 4) (As := [.int (nI (53 + xlev)), .int (nI 71), .int (nI 1), .int (nI (53 + xlev))]) C (m_timesD E X.2.1 sz _ H (53 + xlev) 71 (53 + xlev) (by omega) (by decide) (by omega) htr (ok53 (by omega)) ok71) ⟨z_cb C k_M_times ml_M_140 ii_M rfl rfl (by decide +kernel) ⟨by decide, by decide⟩, C.2.2.2.2.1 _ im_M_times, C.2.2.2.2.1 _ se_M_times⟩ H.1 rfl rfl rfl (Nat.le_of_ble_eq_true rfl) d_M_factor_46 ⟨by decide, by decide⟩ ?_
      intro v_46 s_46 M_46 hp_46
      obtain ⟨rfl, rfl, ho_46, tr_46, F_46, G_46, P_46, Q_46, mm_46, sl_46, H_46, hR_46⟩ := hp_46
      have hz_46 : zoutR M M_46 m (m + 15) := zoutR_tr zoutR_rf ho_46
      show Z _ _ _ _ _ _ _ _ 49 _ []
      refine z_goto (tgt := 65) C d_M_factor_49 (by decide) ?_
      refine z_aload_n C d_M_factor_65 rfl rfl ?_
      refine z_get C in_M H_46.1 rfl 19 (by decide) fl_M_48 rfl rfl d_M_factor_66 ?_
      refine z_aload_n C d_M_factor_69 rfl rfl ?_
      refine z_get C in_M H_46.1 rfl 4 (by decide) fl_M_85 rfl rfl d_M_factor_70 ?_
      refine z_iconst (v := nI 1) C d_M_factor_73 (by decide) ?_
      refine z_zast C H_46.2.2.2.2.2.2.2.2.2.2.2.2.1 2 rfl xlev (rfl) (by omega) (by omega) (nar_01 (by first | decide | omega)) d_M_factor_74 ?_
      refine z_world (M' := zU M_46 (m + 12) (.inl (E.2.1 2, 10, .inl (fun z_ => nI ((updN xht xlev 1) z_))))) (congrArg (fun e => zU M_46 (m + 12) (.inl (E.2.1 2, 10, .inl e))) nI_upd) ?_
      have ef : m_fac (R, xlev, xkd, xhs, xht, xsg, xdv) = m_fac1 (oDiv (R (53 + xlev)) (R 71)) (R, xlev, xkd, xhs, xht, xsg, xdv) := by
        rw [m_fac_eq, if_pos (by omega), if_pos hd1]
      refine z_vret C ⟨rfl, rfl, (zoutR_tr hz_46 (zo_u (by omega) (by omega))), xlev, tr_46, F_46, G_46, P_46, Q_46, mm_46, sl_46, xkd, xhs, (updN xht xlev 1), xsg, xdv, (mw_a12 H_46 (updN xht xlev 1)), fun q hq => hR_46.1 q (by omega), hkd, by omega, ?_⟩ d_M_factor_75
      rw [ef, hR _ (by omega), hR _ (by omega)]
      obtain ⟨hk, hr⟩ := hR_46
      rcases er : oDiv (pg xF (53 + xlev), pg xG (53 + xlev)) (pg xF 71, pg xG 71) with t9 | y9
      · rw [er] at hr; exact ⟨hr, div_ne er⟩
      · rw [er] at hr
        exact ⟨hr.1, rfl, relR_u hR (fun q hq => hk q hq.2) hr.2.1 hr.2.2⟩
set_option maxHeartbeats 4000000 in
/-- factor behind a trouble -/
theorem m_factorT (E : zE) (l : Launch) (sz : Nat) (M : zM) {m : Nat} {xln : Nat → Nat} {xlen : Nat} {xlab : Nat} {xbad : Int32} {xlev : Nat} {xtr : Int32} {xwa : Nat} {xpl : Nat} {xfo : Nat} {xsf : Nat → Nat} {xbf : Nat → Nat} {xF : Nat → FF} {xG : Nat → FF} {xP : Nat → FF} {xQ : Nat → FF} {xmm : Nat → FF} {xsl : Nat → Nat} {xkd : Nat → Nat} {xhs : Nat → Nat} {xht : Nat → Nat} {xsg : Nat → Nat} {xdv : Nat → Nat} (H : mw E M m xln xlen xlab xbad xlev xtr xwa xpl xfo xsf xbf xF xG xP xQ xmm xsl xkd xhs xht xsg xdv) (htr : ¬ xtr = 0) : zMet E l y_M_factor c_M_factor 1 none { frames := 5, cells := 0, slots := 0, locals := 127 } 0 0 [.ref m] sz M (zRet none sz M) := by
  refine zMet.ofZ (by decide) (Nat.le_of_ble_eq_true rfl) ?_
  intro X hl hini C
  show Z X E 1 _ 0 0 sz M 0 [(0, .ref m)] []
  refine z_aload_n C d_M_factor_0 rfl rfl ?_
  refine z_get C in_M H.1 rfl 5 (by decide) fl_M_119 rfl rfl d_M_factor_1 ?_
  refine z_if_eq (tgt := 8) C d_M_factor_4 (by decide) (fun c_4 => absurd c_4 (htr)) (fun _ => ?_)
  exact z_vret C ⟨rfl, rfl, rfl⟩ d_M_factor_7
set_option maxHeartbeats 4000000 in
/-- power behind a trouble -/
theorem m_powerT (E : zE) (l : Launch) (sz : Nat) (M : zM) {m : Nat} {xln : Nat → Nat} {xlen : Nat} {xlab : Nat} {xbad : Int32} {xlev : Nat} {xtr : Int32} {xwa : Nat} {xpl : Nat} {xfo : Nat} {xsf : Nat → Nat} {xbf : Nat → Nat} {xF : Nat → FF} {xG : Nat → FF} {xP : Nat → FF} {xQ : Nat → FF} {xmm : Nat → FF} {xsl : Nat → Nat} {xkd : Nat → Nat} {xhs : Nat → Nat} {xht : Nat → Nat} {xsg : Nat → Nat} {xdv : Nat → Nat} (H : mw E M m xln xlen xlab xbad xlev xtr xwa xpl xfo xsf xbf xF xG xP xQ xmm xsl xkd xhs xht xsg xdv) (k d : Nat) (htr : ¬ xtr = 0) : zMet E l y_M_power c_M_power 4 none { frames := 5, cells := 0, slots := 0, locals := 127 } 0 0 [.ref m, .int (nI k), .int (nI d)] sz M (zRet none sz M) := by
  refine zMet.ofZ (by decide) (Nat.le_of_ble_eq_true rfl) ?_
  intro X hl hini C
  show Z X E 4 _ 0 0 sz M 0 [(0, .ref m), (1, .int (nI k)), (2, .int (nI d))] []
  refine z_aload_n C d_M_power_0 rfl rfl ?_
  refine z_get C in_M H.1 rfl 5 (by decide) fl_M_119 rfl rfl d_M_power_1 ?_
  refine z_if_eq (tgt := 8) C d_M_power_4 (by decide) (fun c_4 => absurd c_4 (htr)) (fun _ => ?_)
  exact z_vret C ⟨rfl, rfl, rfl⟩ d_M_power_7
