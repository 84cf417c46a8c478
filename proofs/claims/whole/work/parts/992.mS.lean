theorem z_locs {X : zX} {E : zE} {nL : Nat} {Q : State → Prop} {kc ks sz : Nat} {M : zM} {pc : Nat} {L L2 : List (Nat × Value)} {st : List Value} (h : L = L2) (kk : Z X E nL Q kc ks sz M pc L2 st) : Z X E nL Q kc ks sz M pc L st := h ▸ kk
set_option maxHeartbeats 4000000 in
/-- text -/
theorem m_text (E : zE) (l : Launch) (sz : Nat) (M : zM) {m : Nat} {cs : List Nat} {fs : List (PS × PS)} {ss : List Nat} {nb : Nat → Nat} {sc : Nat} {bad : Int32} (hm : mst E M m (cs, fs, ss, nb, sc, bad)) (y z : Int32) : zMet E l y_M_text c_M_text 4 (some .int) { frames := 3, cells := 0, slots := 0, locals := 68 } 0 0 [.ref m, .int y, .int z] sz M (fun v s M' => some (.int (q_text fs y z)) = v ∧ sz = s ∧ zoutR M M' m (m + 15) ∧ mst E M' m (cs, fs, ss, nb, sc, bad)) := by
  obtain ⟨xln, xlen, xlab, xbad, xlev, xtr, xwa, xpl, xfo, xsf, xbf, xF, xG, xP, xQ, xmm, xsl, xkd, xhs, xht, xsg, xdv, H, hr⟩ := id hm
  obtain ⟨r1, r2, r3, r4, r5, r6, r7, r8, r9, r10, r11, r12, r13, r14, r15, r16⟩ := id hr
  refine zMet.ofZ (by decide) (Nat.le_of_ble_eq_true rfl) ?_
  intro X hl hini C
  show Z X E 4 _ 0 0 sz M 0 [(0, .ref m), (1, .int y), (2, .int z)] []
  refine z_aload_n C d_M_text_0 rfl rfl ?_
  refine z_iload_n C d_M_text_1 rfl rfl ?_
  refine z_callV (rest := []) (n := 1) (As := [.int y]) C (m_noLabel E X.2.1 sz _ hm y) ⟨z_cb C k_M_noLabel ml_M_205 ii_M rfl rfl (by decide +kernel) ⟨by decide, by decide⟩, C.2.2.2.2.1 _ im_M_noLabel, C.2.2.2.2.1 _ se_M_noLabel⟩ H.1 rfl rfl rfl (Nat.le_of_ble_eq_true rfl) d_M_text_2 ⟨by decide, by decide⟩ ?_
  intro v_2 s_2 M_2 hp_2
  obtain ⟨rfl, rfl, rfl⟩ := hp_2
  show Z _ _ _ _ _ _ _ _ 5 _ [.int (nI (b01 (y.toInt < 1 ∨ ((fs.length : Nat) : Int) < y.toInt)))]
  refine z_if_ne (tgt := 12) C d_M_text_5 (by decide) (fun c_5 => ?_) (fun c_5 => ?_)
  · have c_5 : (y.toInt < 1 ∨ ((fs.length : Nat) : Int) < y.toInt) := b01_ne c_5
    have hlab : lab fs y = none := lab_no (by rintro ⟨i, hi, rfl⟩; rw [nI_toInt (by omega)] at c_5; omega)
    refine z_iconst (v := -1) C d_M_text_12 (by decide) ?_
    have eq_ : q_text fs y z = -1 := by
      unfold q_text
      rcases hl9 : lab fs y with _ | f9
      · rfl
      · first | (exact if_pos ((xi_lt (k := 0) (by decide)).mpr (by omega))) | (rw [hlab] at hl9; cases hl9)
    exact z_iret C ⟨by rw [eq_], rfl, zoutR_rf, hm⟩ d_M_text_13
  · have c_5 : ¬ (y.toInt < 1 ∨ ((fs.length : Nat) : Int) < y.toInt) := b01_z c_5
    refine z_iload_n C d_M_text_8 rfl rfl ?_
    refine z_if_ge (tgt := 14) C d_M_text_9 (by decide) (fun c_9 => ?_) (fun c_9 => ?_)
    · have c_9 : ((0 : Nat) : Int) ≤ z.toInt := (xi_ge (x := z) (k := 0) (by omega)).mp c_9
      obtain ⟨n9, hn9, hy9⟩ : ∃ n9, n9 < fs.length ∧ y = nI (n9 + 1) := ⟨y.toInt.toNat - 1, by omega, (xi_eq (by omega)).mpr (by omega)⟩
      obtain ⟨w9, hw9, hz9⟩ := nI_of (x := z) (fun q => by have := (xi_lt (x := z) (k := 0) (by decide)).mp q; omega)
      have hf9 : fs[n9]? = some fs[n9] := List.getElem?_eq_getElem hn9
      have hlab : lab fs (nI (n9 + 1)) = some (pg xF (n9 + 1), pg xG (n9 + 1)) := by rw [lab_at (by omega), hf9, ← r7 n9 _ hf9]
      obtain ⟨kn, hkn, hkn13⟩ := isC_ex (P := pg xF (n9 + 1)) (n := 13) pg_z
      obtain ⟨kd, hkd, hkd13⟩ := isC_ex (P := pg xG (n9 + 1)) (n := 13) pg_z
      have hq : ∀ t : List Nat, txtF (pg xF (n9 + 1)) (pg xG (n9 + 1)) kn kd = t → q_text fs y z = nI (t.getD w9 0) := by
        intro t ht
        rw [hy9, hz9]; unfold q_text
        rw [hlab]; simp only
        rw [if_neg (show ¬ nI w9 < 0 from fun q => absurd ((nI_ltI (a := w9) (b := 0) (by omega) (by omega)).mp q) (by omega)), nI_clamp hw9]
        unfold txt
        rw [cnt_eq hkn, cnt_eq hkd, ht]
      refine z_locs (L2 := [(0, .ref m), (1, .int (nI (n9 + 1))), (2, .int (nI w9))]) (by rw [hy9, hz9]) ?_
      refine z_aload_n C d_M_text_14 rfl rfl ?_
      refine z_iload_n C d_M_text_15 rfl rfl ?_
      refine z_put C in_M ty_M tok_M nm_M H.1 rfl 6 (by decide) fl_M_211 rfl rfl rfl (rfl) (rfl) (Nat.le_of_ble_eq_true rfl) d_M_text_16 ?_
      show Z _ _ _ _ _ _ _ (zU M m (.inr (10, [.ref (m + 1), .int (nI xlen), .int (nI xlab), .int xbad, .int (nI xlev), .int xtr, .int (nI w9), .int (nI xpl), .int (nI xfo), .ref (m + 2), .ref (m + 3), .ref (m + 4), .ref (m + 5), .ref (m + 6), .ref (m + 7), .ref (m + 8), .ref (m + 9), .ref (m + 10), .ref (m + 11), .ref (m + 12), .ref (m + 13), .ref (m + 14)]))) _ _ _
      refine z_aload_n C d_M_text_19 rfl rfl ?_
      refine z_iconst (v := nI 0) C d_M_text_20 (by decide) ?_
      refine z_put C in_M ty_M tok_M nm_M zU_eq rfl 7 (by decide) fl_M_208 rfl rfl rfl (rfl) (rfl) (Nat.le_of_ble_eq_true rfl) d_M_text_21 ?_
      show Z _ _ _ _ _ _ _ (zU (zU M m (.inr (10, [.ref (m + 1), .int (nI xlen), .int (nI xlab), .int xbad, .int (nI xlev), .int xtr, .int (nI w9), .int (nI xpl), .int (nI xfo), .ref (m + 2), .ref (m + 3), .ref (m + 4), .ref (m + 5), .ref (m + 6), .ref (m + 7), .ref (m + 8), .ref (m + 9), .ref (m + 10), .ref (m + 11), .ref (m + 12), .ref (m + 13), .ref (m + 14)]))) m (.inr (10, [.ref (m + 1), .int (nI xlen), .int (nI xlab), .int xbad, .int (nI xlev), .int xtr, .int (nI w9), .int (nI 0), .int (nI xfo), .ref (m + 2), .ref (m + 3), .ref (m + 4), .ref (m + 5), .ref (m + 6), .ref (m + 7), .ref (m + 8), .ref (m + 9), .ref (m + 10), .ref (m + 11), .ref (m + 12), .ref (m + 13), .ref (m + 14)]))) _ _ _
      refine z_world zU_uu ?_
      refine z_aload_n C d_M_text_24 rfl rfl ?_
      refine z_iconst (v := nI 0) C d_M_text_25 (by decide) ?_
      refine z_put C in_M ty_M tok_M nm_M zU_eq rfl 8 (by decide) fl_M_214 rfl rfl rfl (rfl) (rfl) (Nat.le_of_ble_eq_true rfl) d_M_text_26 ?_
      show Z _ _ _ _ _ _ _ (zU (zU M m (.inr (10, [.ref (m + 1), .int (nI xlen), .int (nI xlab), .int xbad, .int (nI xlev), .int xtr, .int (nI w9), .int (nI 0), .int (nI xfo), .ref (m + 2), .ref (m + 3), .ref (m + 4), .ref (m + 5), .ref (m + 6), .ref (m + 7), .ref (m + 8), .ref (m + 9), .ref (m + 10), .ref (m + 11), .ref (m + 12), .ref (m + 13), .ref (m + 14)]))) m (.inr (10, [.ref (m + 1), .int (nI xlen), .int (nI xlab), .int xbad, .int (nI xlev), .int xtr, .int (nI w9), .int (nI 0), .int (nI 0), .ref (m + 2), .ref (m + 3), .ref (m + 4), .ref (m + 5), .ref (m + 6), .ref (m + 7), .ref (m + 8), .ref (m + 9), .ref (m + 10), .ref (m + 11), .ref (m + 12), .ref (m + 13), .ref (m + 14)]))) _ _ _
      refine z_world zU_uu ?_
      refine z_aload_n C d_M_text_29 rfl rfl ?_
      refine z_iload_n C d_M_text_30 rfl rfl ?_
      refine z_iconst (v := nI 1) C d_M_text_31 (by decide) ?_
      have G0 : mw E (zU M m (.inr (10, [.ref (m + 1), .int (nI xlen), .int (nI xlab), .int xbad, .int (nI xlev), .int xtr, .int (nI w9), .int (nI 0), .int (nI 0), .ref (m + 2), .ref (m + 3), .ref (m + 4), .ref (m + 5), .ref (m + 6), .ref (m + 7), .ref (m + 8), .ref (m + 9), .ref (m + 10), .ref (m + 11), .ref (m + 12), .ref (m + 13), .ref (m + 14)]))) m xln xlen xlab xbad xlev xtr w9 ((([] : List Nat)).length) ((([] : List Nat)).getD w9 0) xsf xbf xF xG xP xQ xmm xsl xkd xhs xht xsg xdv := (mw_o H xlen xlab xbad xlev xtr w9 0 0)
      refine z_callV (rest := []) (n := 2) (As := [.int (nI (n9 + 1)), .int (nI 1)]) C (m_top E X.2.1 sz _ G0 (n9 + 1) 1 (by omega) (by decide)) ⟨z_cb C k_M_top ml_M_133 ii_M rfl rfl (by decide +kernel) ⟨by decide, by decide⟩, C.2.2.2.2.1 _ im_M_top, C.2.2.2.2.1 _ se_M_top⟩ G0.1 rfl rfl rfl (Nat.le_of_ble_eq_true rfl) d_M_text_32 ⟨by decide, by decide⟩ ?_
      intro v_32 s_32 M_32 hp_32
      obtain ⟨k1, rfl, rfl, rfl, hk1⟩ := hp_32
      have hk1 : isC (pg xG (n9 + 1)) k1 := hk1
      have ek : kd = k1 := isC_un hkd hk1
      subst ek
      show Z _ _ _ _ _ _ _ _ 35 _ [.int (tI kd)]
      refine z_if_ne (tgt := 42) C d_M_text_35 (by decide) (fun c_35 => ?_) (fun c_35 => ?_)
      · have c_35 : ¬ kd = 1 := fun q => c_35 (by rw [q]; decide)
        refine z_iconst (v := nI 0) C d_M_text_42 (by decide) ?_
        refine z_istore_n (L' := [(0, .ref m), (1, .int (nI (n9 + 1))), (2, .int (nI w9)), (3, .int (nI 0))]) C d_M_text_43 rfl (by decide) rfl ?_
        refine z_iload_n C d_M_text_44 rfl rfl ?_
        refine z_if_ne (tgt := 54) C d_M_text_45 (by decide) (fun c_45 => absurd c_45 (fun q => q rfl)) (fun _ => ?_)
        refine z_aload_n C d_M_text_48 rfl rfl ?_
        refine z_bipush (v := nI 40) C d_M_text_49 (by decide) ?_
        refine z_callV (rest := []) (n := 1) (As := [.int (nI 40)]) C (m_emit E X.2.1 sz _ G0 hw9 40 (by have q1 := txtP_len (pg xF (n9 + 1)) kn; have q2 := txtP_len (pg xG (n9 + 1)) kd; simp only [List.length_append, List.length_singleton, List.length_nil] at *; omega)) ⟨z_cb C k_M_emit ml_M_217 ii_M rfl rfl (by decide +kernel) ⟨by decide, by decide⟩, C.2.2.2.2.1 _ im_M_emit, C.2.2.2.2.1 _ se_M_emit⟩ G0.1 rfl rfl rfl (Nat.le_of_ble_eq_true rfl) d_M_text_51 ⟨by decide, by decide⟩ ?_
        intro v_fm13refm14_51 s_fm13refm14_51 M_fm13refm14_51 hp_fm13refm14_51
        obtain ⟨rfl, rfl, ho_fm13refm14_51, H_fm13refm14_51⟩ := hp_fm13refm14_51
        have hz_fm13refm14_51 : zoutR M M_fm13refm14_51 m (m + 15) := zoutR_tr (zoutR_tr zoutR_rf (zo_u (by omega) (by omega))) ho_fm13refm14_51
        show Z _ _ _ _ _ _ _ _ 54 _ []
        refine z_aload_n C d_M_text_54 rfl rfl ?_
        refine z_iload_n C d_M_text_55 rfl rfl ?_
        refine z_iconst (v := nI 0) C d_M_text_56 (by decide) ?_
        refine z_callV (rest := []) (n := 2) (As := [.int (nI (n9 + 1)), .int (nI 0)]) C (m_emitPoly0 E X.2.1 sz _ H_fm13refm14_51 hw9 (n9 + 1) kn (by omega) hkn (by have q1 := txtP_len (pg xF (n9 + 1)) kn; have q2 := txtP_len (pg xG (n9 + 1)) kd; simp only [List.length_append, List.length_singleton, List.length_nil] at *; omega)) ⟨z_cb C k_M_emitPolynomial ml_M_223 ii_M rfl rfl (by decide +kernel) ⟨by decide, by decide⟩, C.2.2.2.2.1 _ im_M_emitPolynomial, C.2.2.2.2.1 _ se_M_emitPolynomial⟩ H_fm13refm14_51.1 rfl rfl rfl (Nat.le_of_ble_eq_true rfl) d_M_text_57 ⟨by decide, by decide⟩ ?_
        intro v_3refm14_51_57 s_3refm14_51_57 M_3refm14_51_57 hp_3refm14_51_57
        obtain ⟨rfl, rfl, ho_3refm14_51_57, H_3refm14_51_57⟩ := hp_3refm14_51_57
        have hz_3refm14_51_57 : zoutR M M_3refm14_51_57 m (m + 15) := zoutR_tr hz_fm13refm14_51 ho_3refm14_51_57
        show Z _ _ _ _ _ _ _ _ 60 _ []
        refine z_iload_n C d_M_text_60 rfl rfl ?_
        refine z_if_eq (tgt := 69) C d_M_text_61 (by decide) (fun _ => ?_) (fun c_61 => absurd (rfl) c_61)
        refine z_aload_n C d_M_text_69 rfl rfl ?_
        refine z_bipush (v := nI 41) C d_M_text_70 (by decide) ?_
        refine z_callV (rest := []) (n := 1) (As := [.int (nI 41)]) C (m_emit E X.2.1 sz _ H_3refm14_51_57 hw9 41 (by have q1 := txtP_len (pg xF (n9 + 1)) kn; have q2 := txtP_len (pg xG (n9 + 1)) kd; simp only [List.length_append, List.length_singleton, List.length_nil] at *; omega)) ⟨z_cb C k_M_emit ml_M_217 ii_M rfl rfl (by decide +kernel) ⟨by decide, by decide⟩, C.2.2.2.2.1 _ im_M_emit, C.2.2.2.2.1 _ se_M_emit⟩ H_3refm14_51_57.1 rfl rfl rfl (Nat.le_of_ble_eq_true rfl) d_M_text_72 ⟨by decide, by decide⟩ ?_
        intro v_fm14_51_57_72 s_fm14_51_57_72 M_fm14_51_57_72 hp_fm14_51_57_72
        obtain ⟨rfl, rfl, ho_fm14_51_57_72, H_fm14_51_57_72⟩ := hp_fm14_51_57_72
        have hz_fm14_51_57_72 : zoutR M M_fm14_51_57_72 m (m + 15) := zoutR_tr hz_3refm14_51_57 ho_fm14_51_57_72
        show Z _ _ _ _ _ _ _ _ 75 _ []
        refine z_aload_n C d_M_text_75 rfl rfl ?_
        refine z_bipush (v := nI 47) C d_M_text_76 (by decide) ?_
        refine z_callV (rest := []) (n := 1) (As := [.int (nI 47)]) C (m_emit E X.2.1 sz _ H_fm14_51_57_72 hw9 47 (by have q1 := txtP_len (pg xF (n9 + 1)) kn; have q2 := txtP_len (pg xG (n9 + 1)) kd; simp only [List.length_append, List.length_singleton, List.length_nil] at *; omega)) ⟨z_cb C k_M_emit ml_M_217 ii_M rfl rfl (by decide +kernel) ⟨by decide, by decide⟩, C.2.2.2.2.1 _ im_M_emit, C.2.2.2.2.1 _ se_M_emit⟩ H_fm14_51_57_72.1 rfl rfl rfl (Nat.le_of_ble_eq_true rfl) d_M_text_78 ⟨by decide, by decide⟩ ?_
        intro v_4_51_57_72_78 s_4_51_57_72_78 M_4_51_57_72_78 hp_4_51_57_72_78
        obtain ⟨rfl, rfl, ho_4_51_57_72_78, H_4_51_57_72_78⟩ := hp_4_51_57_72_78
        have hz_4_51_57_72_78 : zoutR M M_4_51_57_72_78 m (m + 15) := zoutR_tr hz_fm14_51_57_72 ho_4_51_57_72_78
        show Z _ _ _ _ _ _ _ _ 81 _ []
        refine z_aload_n C d_M_text_81 rfl rfl ?_
        refine z_bipush (v := nI 40) C d_M_text_82 (by decide) ?_
        refine z_callV (rest := []) (n := 1) (As := [.int (nI 40)]) C (m_emit E X.2.1 sz _ H_4_51_57_72_78 hw9 40 (by have q1 := txtP_len (pg xF (n9 + 1)) kn; have q2 := txtP_len (pg xG (n9 + 1)) kd; simp only [List.length_append, List.length_singleton, List.length_nil] at *; omega)) ⟨z_cb C k_M_emit ml_M_217 ii_M rfl rfl (by decide +kernel) ⟨by decide, by decide⟩, C.2.2.2.2.1 _ im_M_emit, C.2.2.2.2.1 _ se_M_emit⟩ H_4_51_57_72_78.1 rfl rfl rfl (Nat.le_of_ble_eq_true rfl) d_M_text_84 ⟨by decide, by decide⟩ ?_
        intro v_1_57_72_78_84 s_1_57_72_78_84 M_1_57_72_78_84 hp_1_57_72_78_84
        obtain ⟨rfl, rfl, ho_1_57_72_78_84, H_1_57_72_78_84⟩ := hp_1_57_72_78_84
        have hz_1_57_72_78_84 : zoutR M M_1_57_72_78_84 m (m + 15) := zoutR_tr hz_4_51_57_72_78 ho_1_57_72_78_84
        show Z _ _ _ _ _ _ _ _ 87 _ []
        refine z_aload_n C d_M_text_87 rfl rfl ?_
        refine z_iload_n C d_M_text_88 rfl rfl ?_
        refine z_iconst (v := nI 1) C d_M_text_89 (by decide) ?_
        refine z_callV (rest := []) (n := 2) (As := [.int (nI (n9 + 1)), .int (nI 1)]) C (m_emitPoly1 E X.2.1 sz _ H_1_57_72_78_84 hw9 (n9 + 1) kd (by omega) hkd (by have q1 := txtP_len (pg xF (n9 + 1)) kn; have q2 := txtP_len (pg xG (n9 + 1)) kd; simp only [List.length_append, List.length_singleton, List.length_nil] at *; omega)) ⟨z_cb C k_M_emitPolynomial ml_M_223 ii_M rfl rfl (by decide +kernel) ⟨by decide, by decide⟩, C.2.2.2.2.1 _ im_M_emitPolynomial, C.2.2.2.2.1 _ se_M_emitPolynomial⟩ H_1_57_72_78_84.1 rfl rfl rfl (Nat.le_of_ble_eq_true rfl) d_M_text_90 ⟨by decide, by decide⟩ ?_
        intro v_7_72_78_84_90 s_7_72_78_84_90 M_7_72_78_84_90 hp_7_72_78_84_90
        obtain ⟨rfl, rfl, ho_7_72_78_84_90, H_7_72_78_84_90⟩ := hp_7_72_78_84_90
        have hz_7_72_78_84_90 : zoutR M M_7_72_78_84_90 m (m + 15) := zoutR_tr hz_1_57_72_78_84 ho_7_72_78_84_90
        show Z _ _ _ _ _ _ _ _ 93 _ []
        refine z_aload_n C d_M_text_93 rfl rfl ?_
        refine z_bipush (v := nI 41) C d_M_text_94 (by decide) ?_
        refine z_callV (rest := []) (n := 1) (As := [.int (nI 41)]) C (m_emit E X.2.1 sz _ H_7_72_78_84_90 hw9 41 (by have q1 := txtP_len (pg xF (n9 + 1)) kn; have q2 := txtP_len (pg xG (n9 + 1)) kd; simp only [List.length_append, List.length_singleton, List.length_nil] at *; omega)) ⟨z_cb C k_M_emit ml_M_217 ii_M rfl rfl (by decide +kernel) ⟨by decide, by decide⟩, C.2.2.2.2.1 _ im_M_emit, C.2.2.2.2.1 _ se_M_emit⟩ H_7_72_78_84_90.1 rfl rfl rfl (Nat.le_of_ble_eq_true rfl) d_M_text_96 ⟨by decide, by decide⟩ ?_
        intro v_2_78_84_90_96 s_2_78_84_90_96 M_2_78_84_90_96 hp_2_78_84_90_96
        obtain ⟨rfl, rfl, ho_2_78_84_90_96, H_2_78_84_90_96⟩ := hp_2_78_84_90_96
        have hz_2_78_84_90_96 : zoutR M M_2_78_84_90_96 m (m + 15) := zoutR_tr hz_7_72_78_84_90 ho_2_78_84_90_96
        show Z _ _ _ _ _ _ _ _ 99 _ []
        refine z_aload_n C d_M_text_99 rfl rfl ?_
        refine z_get C in_M H_2_78_84_90_96.1 rfl 8 (by decide) fl_M_214 rfl rfl d_M_text_100 ?_
        have et := hq (([] : List Nat) ++ [40] ++ txtP (pg xF (n9 + 1)) kn ++ [41] ++ [47] ++ [40] ++ txtP (pg xG (n9 + 1)) kd ++ [41]) (by unfold txtF; rw [if_neg c_35]; rfl)
        exact z_iret C ⟨by rw [et], rfl, hz_2_78_84_90_96, ⟨xln, xlen, xlab, xbad, xlev, xtr, w9, (([] : List Nat) ++ [40] ++ txtP (pg xF (n9 + 1)) kn ++ [41] ++ [47] ++ [40] ++ txtP (pg xG (n9 + 1)) kd ++ [41]).length, ((([] : List Nat) ++ [40] ++ txtP (pg xF (n9 + 1)) kn ++ [41] ++ [47] ++ [40] ++ txtP (pg xG (n9 + 1)) kd ++ [41]).getD w9 0), xsf, xbf, xF, xG, xP, xQ, xmm, xsl, xkd, xhs, xht, xsg, xdv, H_2_78_84_90_96, ⟨r1, r2, r3, r4, r5, r6, r7, r8, r9, r10, r11, r12, r13, r14, r15, r16⟩⟩⟩ d_M_text_103
      · have c_35 : kd = 1 := (tI_eq (by omega) (by decide)).mp (c_35.trans (by decide))
        refine z_iconst (v := nI 1) C d_M_text_38 (by decide) ?_
        refine z_goto (tgt := 43) C d_M_text_39 (by decide) ?_
        refine z_istore_n (L' := [(0, .ref m), (1, .int (nI (n9 + 1))), (2, .int (nI w9)), (3, .int (nI 1))]) C d_M_text_43 rfl (by decide) rfl ?_
        refine z_iload_n C d_M_text_44 rfl rfl ?_
        refine z_if_ne (tgt := 54) C d_M_text_45 (by decide) (fun _ => ?_) (fun c_45 => absurd c_45 (by decide))
        refine z_aload_n C d_M_text_54 rfl rfl ?_
        refine z_iload_n C d_M_text_55 rfl rfl ?_
        refine z_iconst (v := nI 0) C d_M_text_56 (by decide) ?_
        refine z_callV (rest := []) (n := 2) (As := [.int (nI (n9 + 1)), .int (nI 0)]) C (m_emitPoly0 E X.2.1 sz _ G0 hw9 (n9 + 1) kn (by omega) hkn (by have q1 := txtP_len (pg xF (n9 + 1)) kn; have q2 := txtP_len (pg xG (n9 + 1)) kd; simp only [List.length_append, List.length_singleton, List.length_nil] at *; omega)) ⟨z_cb C k_M_emitPolynomial ml_M_223 ii_M rfl rfl (by decide +kernel) ⟨by decide, by decide⟩, C.2.2.2.2.1 _ im_M_emitPolynomial, C.2.2.2.2.1 _ se_M_emitPolynomial⟩ G0.1 rfl rfl rfl (Nat.le_of_ble_eq_true rfl) d_M_text_57 ⟨by decide, by decide⟩ ?_
        intro v_fm13refm14_57 s_fm13refm14_57 M_fm13refm14_57 hp_fm13refm14_57
        obtain ⟨rfl, rfl, ho_fm13refm14_57, H_fm13refm14_57⟩ := hp_fm13refm14_57
        have hz_fm13refm14_57 : zoutR M M_fm13refm14_57 m (m + 15) := zoutR_tr (zoutR_tr zoutR_rf (zo_u (by omega) (by omega))) ho_fm13refm14_57
        show Z _ _ _ _ _ _ _ _ 60 _ []
        refine z_iload_n C d_M_text_60 rfl rfl ?_
        refine z_if_eq (tgt := 69) C d_M_text_61 (by decide) (fun c_61 => absurd c_61 (by decide)) (fun _ => ?_)
        refine z_aload_n C d_M_text_64 rfl rfl ?_
        refine z_get C in_M H_fm13refm14_57.1 rfl 8 (by decide) fl_M_214 rfl rfl d_M_text_65 ?_
        have et := hq (([] : List Nat) ++ txtP (pg xF (n9 + 1)) kn) (by unfold txtF; rw [if_pos c_35]; rfl)
        exact z_iret C ⟨by rw [et], rfl, hz_fm13refm14_57, ⟨xln, xlen, xlab, xbad, xlev, xtr, w9, (([] : List Nat) ++ txtP (pg xF (n9 + 1)) kn).length, ((([] : List Nat) ++ txtP (pg xF (n9 + 1)) kn).getD w9 0), xsf, xbf, xF, xG, xP, xQ, xmm, xsl, xkd, xhs, xht, xsg, xdv, H_fm13refm14_57, ⟨r1, r2, r3, r4, r5, r6, r7, r8, r9, r10, r11, r12, r13, r14, r15, r16⟩⟩⟩ d_M_text_68
    · have c_9 : ¬ ((0 : Nat) : Int) ≤ z.toInt := fun q => c_9 ((xi_ge (x := z) (k := 0) (by omega)).mpr q)
      refine z_iconst (v := -1) C d_M_text_12 (by decide) ?_
      have eq_ : q_text fs y z = -1 := by
        unfold q_text
        rcases hl9 : lab fs y with _ | f9
        · rfl
        · first | (exact if_pos ((xi_lt (k := 0) (by decide)).mpr (by omega))) | (rw [hlab] at hl9; cases hl9)
      exact z_iret C ⟨by rw [eq_], rfl, zoutR_rf, hm⟩ d_M_text_13
