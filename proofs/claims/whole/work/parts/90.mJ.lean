theorem nI_sg {n : Nat} (h : n = 1 ∨ n = 10006) : nI n = fI (Fin.ofNat 10007 n) := by
  show nI n = nI (n % 10007)
  rw [Nat.mod_eq_of_lt (by omega)]
def smF (F : Nat → FF) (s : Nat) (f : FF) (k : Nat) : Nat → FF := fun j => if s * 13 ≤ j ∧ j < s * 13 + k then F j * f else F j
theorem smF_0 (F : Nat → FF) (s : Nat) (f : FF) : smF F s f 0 = F := by
  funext j
  unfold smF
  rw [if_neg (by omega)]
theorem smF_s {F : Nat → FF} {s k : Nat} {f : FF} : updF (smF F s f k) (s * 13 + k) (smF F s f k (s * 13 + k) * f) = smF F s f (k + 1) := by
  funext j
  unfold updF smF
  by_cases h : j = s * 13 + k
  · rw [if_pos h, if_neg (by omega), if_pos (by omega), h]
  · rw [if_neg h]
    by_cases h2 : s * 13 ≤ j ∧ j < s * 13 + k
    · rw [if_pos h2, if_pos (show s * 13 ≤ j ∧ j < s * 13 + (k + 1) by omega)]
    · rw [if_neg h2, if_neg (show ¬ (s * 13 ≤ j ∧ j < s * 13 + (k + 1)) by omega)]
theorem pg_sm {F : Nat → FF} {s q : Nat} {f : FF} : pg (smF F s f 13) q = if q = s then ps_mul (ps_C f) (pg F q) else pg F q := by
  funext i
  by_cases h : q = s
  · rw [if_pos h]
    subst h
    have e : ps_mul (ps_C f) (pg F q) i = f * pg F q i := ps_mC
    rw [e]
    unfold pg smF
    by_cases hi : i < 13
    · rw [if_pos hi, if_pos hi, if_pos (by omega)]; grind
    · rw [if_neg hi, if_neg hi]; grind
  · rw [if_neg h]
    unfold pg smF
    by_cases hi : i < 13
    · rw [if_pos hi, if_pos hi, if_neg (by omega)]
    · rw [if_neg hi, if_neg hi]
set_option maxHeartbeats 4000000 in
/-- term -/
theorem m_term (E : zE) (l : Launch) (sz : Nat) (M : zM) {m : Nat} {xln : Nat → Nat} {xlen : Nat} {xlab : Nat} {xbad : Int32} {xlev : Nat} {xtr : Int32} {xwa : Nat} {xpl : Nat} {xfo : Nat} {xsf : Nat → Nat} {xbf : Nat → Nat} {xF : Nat → FF} {xG : Nat → FF} {xP : Nat → FF} {xQ : Nat → FF} {xmm : Nat → FF} {xsl : Nat → Nat} {xkd : Nat → Nat} {xhs : Nat → Nat} {xht : Nat → Nat} {xsg : Nat → Nat} {xdv : Nat → Nat} (H : mw E M m xln xlen xlab xbad xlev xtr xwa xpl xfo xsf xbf xF xG xP xQ xmm xsl xkd xhs xht xsg xdv) (R : Nat → PS × PS) (hR : relR R xF xG) (htr : xtr = 0) (hlev : xlev ≤ 8) (hkd : ∀ j, xkd j < 100) (hhs : xhs xlev ≤ 1) (hsg : xsg xlev = 1 ∨ xsg xlev = 10006) (ok53 : okR xF xG (53 + xlev)) (ok44 : xhs xlev = 1 → okR xF xG (44 + xlev)) : zMet E l y_M_term c_M_term 3 none { frames := 5, cells := 0, slots := 0, locals := 127 } 0 0 [.ref m] sz M (eP E M sz m xln xlen xlab xbad xlev xtr xwa xpl xfo xsf xbf xF xG xP xQ xmm xsl xkd xhs xht xsg xdv none (m_trm (R, xlev, xkd, xhs, xht, xsg, xdv))) := by
  refine zMet.ofZ (by decide) (Nat.le_of_ble_eq_true rfl) ?_
  intro X hl hini C
  have loop : xhs xlev = 0 → ∀ (q i : Nat) (M1 : zM), i + q = 13 → mw E M1 m xln xlen xlab xbad xlev xtr xwa xpl xfo xsf xbf (smF (cpF xF (53 + xlev) (44 + xlev) 13) (44 + xlev) (Fin.ofNat 10007 (xsg xlev)) i) (cpF xG (53 + xlev) (44 + xlev) 13) xP xQ xmm xsl xkd xhs xht xsg xdv → zoutR M M1 m (m + 15) → Z X E 3 (zQ X E 0 0 (eP E M sz m xln xlen xlab xbad xlev xtr xwa xpl xfo xsf xbf xF xG xP xQ xmm xsl xkd xhs xht xsg xdv none (m_trm (R, xlev, xkd, xhs, xht, xsg, xdv)))) 0 0 sz M1 67 [(0, .ref m), (1, .int (nI (44 + xlev))), (2, .int (nI i))] [] := by
    intro hs0 q
    induction q with
    | zero =>
      intro i M1 hi H1 hz1
      have hi : i = 13 := by omega
      subst hi
      refine z_iload_n C d_M_term_67 rfl rfl ?_
      refine z_bipush (v := nI 13) C d_M_term_68 (by decide) ?_
      refine z_icmp_ge (tgt := 115) C d_M_term_70 (by decide) (fun _ => ?_) (fun c_70 => absurd (by decide) c_70)
      refine z_aload_n C d_M_term_115 rfl rfl ?_
      refine z_get C in_M H1.1 rfl 18 (by decide) fl_M_44 rfl rfl d_M_term_116 ?_
      refine z_aload_n C d_M_term_119 rfl rfl ?_
      refine z_get C in_M H1.1 rfl 4 (by decide) fl_M_85 rfl rfl d_M_term_120 ?_
      refine z_iconst (v := nI 1) C d_M_term_123 (by decide) ?_
      refine z_zast C H1.2.2.2.2.2.2.2.2.2.2.2.1 2 rfl xlev (rfl) (by omega) (by omega) (nar_01 (by first | decide | omega)) d_M_term_124 ?_
      refine z_world (M' := zU M1 (m + 11) (.inl (E.2.1 2, 10, .inl (fun z_ => nI ((updN xhs xlev 1) z_))))) (congrArg (fun e => zU M1 (m + 11) (.inl (E.2.1 2, 10, .inl e))) nI_upd) ?_
      refine z_aload_n C d_M_term_125 rfl rfl ?_
      refine z_get C in_M ((zU_ne (by omega)).trans H1.1) rfl 19 (by decide) fl_M_48 rfl rfl d_M_term_126 ?_
      refine z_aload_n C d_M_term_129 rfl rfl ?_
      refine z_get C in_M ((zU_ne (by omega)).trans H1.1) rfl 4 (by decide) fl_M_85 rfl rfl d_M_term_130 ?_
      refine z_iconst (v := nI 0) C d_M_term_133 (by decide) ?_
      refine z_zast C ((zU_ne (by omega)).trans H1.2.2.2.2.2.2.2.2.2.2.2.2.1) 2 rfl xlev (rfl) (by omega) (by omega) (nar_01 (by first | decide | omega)) d_M_term_134 ?_
      refine z_world (M' := zU (zU M1 (m + 11) (.inl (E.2.1 2, 10, .inl (fun z_ => nI ((updN xhs xlev 1) z_))))) (m + 12) (.inl (E.2.1 2, 10, .inl (fun z_ => nI ((updN xht xlev 0) z_))))) (congrArg (fun e => zU (zU M1 (m + 11) (.inl (E.2.1 2, 10, .inl (fun z_ => nI ((updN xhs xlev 1) z_))))) (m + 12) (.inl (E.2.1 2, 10, .inl e))) nI_upd) ?_
      refine z_vret C ⟨rfl, rfl, (zoutR_tr (zoutR_tr hz1 (zo_u (by omega) (by omega))) (zo_u (by omega) (by omega))), xlev, xtr, (smF (cpF xF (53 + xlev) (44 + xlev) 13) (44 + xlev) (Fin.ofNat 10007 (xsg xlev)) 13), (cpF xG (53 + xlev) (44 + xlev) 13), xP, xQ, xmm, xsl, xkd, (updN xhs xlev 1), (updN xht xlev 0), xsg, xdv, (mw_a12 (mw_a11 H1 (updN xhs xlev 1)) (updN xht xlev 0)), fun q hq => ⟨by rw [pg_sm, if_neg (by omega), pg_cp, if_neg (by omega)], by rw [pg_cp, if_neg (by omega)]⟩, hkd, by omega, ?_⟩ d_M_term_135
      rw [m_trm_eq, if_neg (by omega), hR _ (by omega)]
      exact ⟨htr, rfl, relR_u hR (fun q hq => ⟨by rw [pg_sm, if_neg hq.2, pg_cp, if_neg hq.2], by rw [pg_cp, if_neg hq.2]⟩) (by rw [pg_sm, if_pos rfl, pg_cp, if_pos rfl]) (by rw [pg_cp, if_pos rfl])⟩
    | succ q ih =>
      intro i M1 hi H1 hz1
      refine z_iload_n C d_M_term_67 rfl rfl ?_
      refine z_bipush (v := nI 13) C d_M_term_68 (by decide) ?_
      refine z_icmp_ge (tgt := 115) C d_M_term_70 (by decide) (fun c_70 => absurd c_70 (fun q => absurd ((nI_leI (a := 13) (b := i) (by omega) (by omega)).mp q) (by omega))) (fun _ => ?_)
      refine z_aload_n C d_M_term_73 rfl rfl ?_
      refine z_get C in_M H1.1 rfl 11 (by decide) fl_M_23 rfl rfl d_M_term_74 ?_
      refine z_iload_n C d_M_term_77 rfl rfl ?_
      refine z_bipush (v := nI 13) C d_M_term_78 (by decide) ?_
      refine z_imul C d_M_term_80 ?_
      refine z_top (y := nI ((44 + xlev) * 13)) (pk_mul _ _) ?_
      refine z_iload_n C d_M_term_81 rfl rfl ?_
      refine z_iadd C d_M_term_82 ?_
      refine z_top (y := nI (((44 + xlev) * 13) + i)) (nI_add _ _) ?_
      refine z_aload_n C d_M_term_83 rfl rfl ?_
      refine z_get C in_M H1.1 rfl 11 (by decide) fl_M_23 rfl rfl d_M_term_84 ?_
      refine z_iload_n C d_M_term_87 rfl rfl ?_
      refine z_bipush (v := nI 13) C d_M_term_88 (by decide) ?_
      refine z_imul C d_M_term_90 ?_
      refine z_top (y := nI ((44 + xlev) * 13)) (pk_mul _ _) ?_
      refine z_iload_n C d_M_term_91 rfl rfl ?_
      refine z_iadd C d_M_term_92 ?_
      refine z_top (y := nI (((44 + xlev) * 13) + i)) (nI_add _ _) ?_
      refine z_iald C H1.2.2.2.2.1 0 rfl (((44 + xlev) * 13) + i) (rfl) (by omega) (by omega) d_M_term_93 ?_
      refine z_top (y := fI ((smF (cpF xF (53 + xlev) (44 + xlev) 13) (44 + xlev) (Fin.ofNat 10007 (xsg xlev)) i) (((44 + xlev) * 13) + i))) rfl ?_
      refine z_aload_n C d_M_term_94 rfl rfl ?_
      refine z_get C in_M H1.1 rfl 20 (by decide) fl_M_51 rfl rfl d_M_term_95 ?_
      refine z_aload_n C d_M_term_98 rfl rfl ?_
      refine z_get C in_M H1.1 rfl 4 (by decide) fl_M_85 rfl rfl d_M_term_99 ?_
      refine z_iald C H1.2.2.2.2.2.2.2.2.2.2.2.2.2.1 0 rfl xlev (rfl) (by omega) (by omega) d_M_term_102 ?_
      refine z_top (y := fI (Fin.ofNat 10007 (xsg xlev))) (nI_sg hsg) ?_
      refine z_imul C d_M_term_103 ?_
      refine z_sipush (v := nI 10007) C d_M_term_104 (by decide) ?_
      refine z_irem C d_M_term_107 (by decide) ?_
      refine z_top (y := fI (((smF (cpF xF (53 + xlev) (44 + xlev) 13) (44 + xlev) (Fin.ofNat 10007 (xsg xlev)) i) (((44 + xlev) * 13) + i)) * (Fin.ofNat 10007 (xsg xlev)))) (fI_mul _ _) ?_
      refine z_iast C H1.2.2.2.2.1 0 rfl (((44 + xlev) * 13) + i) (rfl) (by omega) (by omega) d_M_term_108 ?_
      refine z_world (M' := zU M1 (m + 4) (.inl (E.2.1 0, 1014, .inl (fun z_ => fI ((updF (smF (cpF xF (53 + xlev) (44 + xlev) 13) (44 + xlev) (Fin.ofNat 10007 (xsg xlev)) i) (((44 + xlev) * 13) + i) (((smF (cpF xF (53 + xlev) (44 + xlev) 13) (44 + xlev) (Fin.ofNat 10007 (xsg xlev)) i) (((44 + xlev) * 13) + i)) * (Fin.ofNat 10007 (xsg xlev)))) z_))))) (congrArg (fun e => zU M1 (m + 4) (.inl (E.2.1 0, 1014, .inl e))) fI_upd) ?_
      refine z_iinc (v := nI (i + 1)) (L' := [(0, .ref m), (1, .int (nI (44 + xlev))), (2, .int (nI (i + 1)))]) C d_M_term_109 rfl (nI_add _ 1) (by decide) rfl ?_
      refine z_goto (tgt := 67) C d_M_term_112 (by decide) ?_
      refine ih (i + 1) _ (by omega) ?_ (zoutR_tr hz1 (zo_u (by omega) (by omega)))
      rw [← smF_s]
      exact (mw_a4 H1 (updF (smF (cpF xF (53 + xlev) (44 + xlev) 13) (44 + xlev) (Fin.ofNat 10007 (xsg xlev)) i) (((44 + xlev) * 13) + i) (((smF (cpF xF (53 + xlev) (44 + xlev) 13) (44 + xlev) (Fin.ofNat 10007 (xsg xlev)) i) (((44 + xlev) * 13) + i)) * (Fin.ofNat 10007 (xsg xlev)))))
  show Z X E 3 _ 0 0 sz M 0 [(0, .ref m)] []
  refine z_aload_n C d_M_term_0 rfl rfl ?_
  refine z_get C in_M H.1 rfl 5 (by decide) fl_M_119 rfl rfl d_M_term_1 ?_
  refine z_if_eq (tgt := 8) C d_M_term_4 (by decide) (fun _ => ?_) (fun c_4 => absurd (htr) c_4)
  refine z_bipush (v := nI 44) C d_M_term_8 (by decide) ?_
  refine z_aload_n C d_M_term_10 rfl rfl ?_
  refine z_get C in_M H.1 rfl 4 (by decide) fl_M_85 rfl rfl d_M_term_11 ?_
  refine z_iadd C d_M_term_14 ?_
  refine z_top (y := nI (44 + xlev)) (nI_add _ _) ?_
  refine z_istore_n (L' := [(0, .ref m), (1, .int (nI (44 + xlev)))]) C d_M_term_15 rfl (by decide) rfl ?_
  refine z_aload_n C d_M_term_16 rfl rfl ?_
  refine z_get C in_M H.1 rfl 18 (by decide) fl_M_44 rfl rfl d_M_term_17 ?_
  refine z_aload_n C d_M_term_20 rfl rfl ?_
  refine z_get C in_M H.1 rfl 4 (by decide) fl_M_85 rfl rfl d_M_term_21 ?_
  refine z_zald C H.2.2.2.2.2.2.2.2.2.2.2.1 2 rfl xlev (rfl) (by omega) (by omega) d_M_term_24 ?_
  refine z_top (y := nI (xhs xlev)) rfl ?_
  refine z_if_eq (tgt := 53) C d_M_term_25 (by decide) (fun c_25 => ?_) (fun c_25 => ?_)
  · have c_25 : (xhs xlev) = 0 := (nI_eq (a := (xhs xlev)) (b := 0) (by omega) (by omega)).mp c_25
    refine z_aload_n C d_M_term_53 rfl rfl ?_
    refine z_bipush (v := nI 53) C d_M_term_54 (by decide) ?_
    refine z_aload_n C d_M_term_56 rfl rfl ?_
    refine z_get C in_M H.1 rfl 4 (by decide) fl_M_85 rfl rfl d_M_term_57 ?_
    refine z_iadd C d_M_term_60 ?_
    refine z_top (y := nI (53 + xlev)) (nI_add _ _) ?_
    refine z_iload_n C d_M_term_61 rfl rfl ?_
    refine z_callV (rest := []) (n := 2) (As := [.int (nI (53 + xlev)), .int (nI (44 + xlev))]) C (m_copy E X.2.1 sz _ H (53 + xlev) (44 + xlev) (by omega) (by omega) (by omega)) ⟨z_cb C k_M_copy ml_M_137 ii_M rfl rfl (by decide +kernel) ⟨by decide, by decide⟩, C.2.2.2.2.1 _ im_M_copy, C.2.2.2.2.1 _ se_M_copy⟩ H.1 rfl rfl rfl (Nat.le_of_ble_eq_true rfl) d_M_term_62 ⟨by decide, by decide⟩ ?_
    intro v_62 s_62 M_62 hp_62
    obtain ⟨rfl, rfl, ho_62, H_62⟩ := hp_62
    have hz_62 : zoutR M M_62 m (m + 15) := zoutR_tr zoutR_rf ho_62
    show Z _ _ _ _ _ _ _ _ 65 _ []
    refine z_iconst (v := nI 0) C d_M_term_65 (by decide) ?_
    refine z_istore_n (L' := [(0, .ref m), (1, .int (nI (44 + xlev))), (2, .int (nI 0))]) C d_M_term_66 rfl (by decide) rfl ?_
    exact loop (by omega) 13 0 _ (by omega) (by rw [smF_0]; exact H_62) hz_62
  · have c_25 : ¬ (xhs xlev) = 0 := fun q => c_25 (congrArg nI q)
    refine z_aload_n C d_M_term_28 rfl rfl ?_
    refine z_iload_n C d_M_term_29 rfl rfl ?_
    refine z_bipush (v := nI 53) C d_M_term_30 (by decide) ?_
    refine z_aload_n C d_M_term_32 rfl rfl ?_
    refine z_get C in_M H.1 rfl 4 (by decide) fl_M_85 rfl rfl d_M_term_33 ?_
    refine z_iadd C d_M_term_36 ?_
    refine z_top (y := nI (53 + xlev)) (nI_add _ _) ?_
    refine z_aload_n C d_M_term_37 rfl rfl ?_
    refine z_get C in_M H.1 rfl 20 (by decide) fl_M_51 rfl rfl d_M_term_38 ?_
    refine z_aload_n C d_M_term_41 rfl rfl ?_
    refine z_get C in_M H.1 rfl 4 (by decide) fl_M_85 rfl rfl d_M_term_42 ?_
    refine z_iald C H.2.2.2.2.2.2.2.2.2.2.2.2.2.1 0 rfl xlev (rfl) (by omega) (by omega) d_M_term_45 ?_
    refine z_top (y := fI (Fin.ofNat 10007 (xsg xlev))) (nI_sg hsg) ?_
    refine z_iload_n C d_M_term_46 rfl rfl ?_
    refine z_callV (rest := []) (n := 4) (As := [.int (nI (44 + xlev)), .int (nI (53 + xlev)), .int (fI (Fin.ofNat 10007 (xsg xlev))), .int (nI (44 + xlev))]) C (m_add E X.2.1 sz _ H (44 + xlev) (53 + xlev) (Fin.ofNat 10007 (xsg xlev)) (44 + xlev) (by omega) (by omega) (by omega) htr (ok44 (by omega)) ok53) ⟨z_cb C k_M_add ml_M_144 ii_M rfl rfl (by decide +kernel) ⟨by decide, by decide⟩, C.2.2.2.2.1 _ im_M_add, C.2.2.2.2.1 _ se_M_add⟩ H.1 rfl rfl rfl (Nat.le_of_ble_eq_true rfl) d_M_term_47 ⟨by decide, by decide⟩ ?_
    intro v_47 s_47 M_47 hp_47
    obtain ⟨rfl, rfl, ho_47, tr_47, F_47, G_47, P_47, Q_47, mm_47, sl_47, H_47, hR_47⟩ := hp_47
    have hz_47 : zoutR M M_47 m (m + 15) := zoutR_tr zoutR_rf ho_47
    show Z _ _ _ _ _ _ _ _ 50 _ []
    refine z_goto (tgt := 115) C d_M_term_50 (by decide) ?_
    refine z_aload_n C d_M_term_115 rfl rfl ?_
    refine z_get C in_M H_47.1 rfl 18 (by decide) fl_M_44 rfl rfl d_M_term_116 ?_
    refine z_aload_n C d_M_term_119 rfl rfl ?_
    refine z_get C in_M H_47.1 rfl 4 (by decide) fl_M_85 rfl rfl d_M_term_120 ?_
    refine z_iconst (v := nI 1) C d_M_term_123 (by decide) ?_
    refine z_zast C H_47.2.2.2.2.2.2.2.2.2.2.2.1 2 rfl xlev (rfl) (by omega) (by omega) (nar_01 (by first | decide | omega)) d_M_term_124 ?_
    refine z_world (M' := zU M_47 (m + 11) (.inl (E.2.1 2, 10, .inl (fun z_ => nI ((updN xhs xlev 1) z_))))) (congrArg (fun e => zU M_47 (m + 11) (.inl (E.2.1 2, 10, .inl e))) nI_upd) ?_
    refine z_aload_n C d_M_term_125 rfl rfl ?_
    refine z_get C in_M ((zU_ne (by omega)).trans H_47.1) rfl 19 (by decide) fl_M_48 rfl rfl d_M_term_126 ?_
    refine z_aload_n C d_M_term_129 rfl rfl ?_
    refine z_get C in_M ((zU_ne (by omega)).trans H_47.1) rfl 4 (by decide) fl_M_85 rfl rfl d_M_term_130 ?_
    refine z_iconst (v := nI 0) C d_M_term_133 (by decide) ?_
    refine z_zast C ((zU_ne (by omega)).trans H_47.2.2.2.2.2.2.2.2.2.2.2.2.1) 2 rfl xlev (rfl) (by omega) (by omega) (nar_01 (by first | decide | omega)) d_M_term_134 ?_
    refine z_world (M' := zU (zU M_47 (m + 11) (.inl (E.2.1 2, 10, .inl (fun z_ => nI ((updN xhs xlev 1) z_))))) (m + 12) (.inl (E.2.1 2, 10, .inl (fun z_ => nI ((updN xht xlev 0) z_))))) (congrArg (fun e => zU (zU M_47 (m + 11) (.inl (E.2.1 2, 10, .inl (fun z_ => nI ((updN xhs xlev 1) z_))))) (m + 12) (.inl (E.2.1 2, 10, .inl e))) nI_upd) ?_
    refine z_vret C ⟨rfl, rfl, (zoutR_tr (zoutR_tr hz_47 (zo_u (by omega) (by omega))) (zo_u (by omega) (by omega))), xlev, tr_47, F_47, G_47, P_47, Q_47, mm_47, sl_47, xkd, (updN xhs xlev 1), (updN xht xlev 0), xsg, xdv, (mw_a12 (mw_a11 H_47 (updN xhs xlev 1)) (updN xht xlev 0)), fun q hq => hR_47.1 q (by omega), hkd, by omega, ?_⟩ d_M_term_135
    rw [m_trm_eq, if_pos (by omega), hR _ (by omega), hR _ (by omega)]
    obtain ⟨hk, hr⟩ := hR_47
    rcases er : oAdd (Fin.ofNat 10007 (xsg xlev)) (pg xF (44 + xlev), pg xG (44 + xlev)) (pg xF (53 + xlev), pg xG (53 + xlev)) with t9 | y9
    · rw [er] at hr; exact ⟨hr, setl_ne er⟩
    · rw [er] at hr
      exact ⟨hr.1, rfl, relR_u hR (fun q hq => hk q hq.2) hr.2.1 hr.2.2⟩
set_option maxHeartbeats 4000000 in
/-- term behind a trouble -/
theorem m_termT (E : zE) (l : Launch) (sz : Nat) (M : zM) {m : Nat} {xln : Nat → Nat} {xlen : Nat} {xlab : Nat} {xbad : Int32} {xlev : Nat} {xtr : Int32} {xwa : Nat} {xpl : Nat} {xfo : Nat} {xsf : Nat → Nat} {xbf : Nat → Nat} {xF : Nat → FF} {xG : Nat → FF} {xP : Nat → FF} {xQ : Nat → FF} {xmm : Nat → FF} {xsl : Nat → Nat} {xkd : Nat → Nat} {xhs : Nat → Nat} {xht : Nat → Nat} {xsg : Nat → Nat} {xdv : Nat → Nat} (H : mw E M m xln xlen xlab xbad xlev xtr xwa xpl xfo xsf xbf xF xG xP xQ xmm xsl xkd xhs xht xsg xdv) (htr : ¬ xtr = 0) : zMet E l y_M_term c_M_term 3 none { frames := 5, cells := 0, slots := 0, locals := 127 } 0 0 [.ref m] sz M (zRet none sz M) := by
  refine zMet.ofZ (by decide) (Nat.le_of_ble_eq_true rfl) ?_
  intro X hl hini C
  show Z X E 3 _ 0 0 sz M 0 [(0, .ref m)] []
  refine z_aload_n C d_M_term_0 rfl rfl ?_
  refine z_get C in_M H.1 rfl 5 (by decide) fl_M_119 rfl rfl d_M_term_1 ?_
  refine z_if_eq (tgt := 8) C d_M_term_4 (by decide) (fun c_4 => absurd c_4 (htr)) (fun _ => ?_)
  exact z_vret C ⟨rfl, rfl, rfl⟩ d_M_term_7
/-- a term that goes well changes one register and two flags -/
theorem m_trm_st {R R1 : Nat → PS × PS} {l l1 : Nat} {kd hs ht sg dv kd1 hs1 ht1 sg1 dv1 : Nat → Nat} (h : m_trm (R, l, kd, hs, ht, sg, dv) = .inr (R1, l1, kd1, hs1, ht1, sg1, dv1)) : l = l1 ∧ kd = kd1 ∧ ∃ g, (if hs l = 1 then oAdd (Fin.ofNat 10007 (sg l)) (R (44 + l)) (R (53 + l)) else .inr (ps_mul (ps_C (Fin.ofNat 10007 (sg l))) (R (53 + l)).1, (R (53 + l)).2)) = .inr g ∧ updR R (44 + l) g = R1 ∧ (∀ q, q ≠ 44 + l → R1 q = R q) := by
  rw [m_trm_eq] at h
  rcases e : (if hs l = 1 then oAdd (Fin.ofNat 10007 (sg l)) (R (44 + l)) (R (53 + l)) else (.inr (ps_mul (ps_C (Fin.ofNat 10007 (sg l))) (R (53 + l)).1, (R (53 + l)).2) : Res)) with t | g
  · rw [e] at h; cases h
  · rw [e] at h
    have h2 := Sum.inr.inj h
    simp only [Prod.mk.injEq] at h2
    obtain ⟨e1, e2, e3, -⟩ := h2
    exact ⟨e2, e3, g, rfl, e1, fun q hq => by rw [← e1]; exact updR_ne hq⟩
theorem trm_ok {R : Nat → PS × PS} {l : Nat} {hs sg : Nat → Nat} {g : PS × PS} (h1 : okF (R (53 + l))) (h2 : hs l = 1 → okF (R (44 + l))) (hsg : sg l = 1 ∨ sg l = 10006) (h : (if hs l = 1 then oAdd (Fin.ofNat 10007 (sg l)) (R (44 + l)) (R (53 + l)) else .inr (ps_mul (ps_C (Fin.ofNat 10007 (sg l))) (R (53 + l)).1, (R (53 + l)).2)) = .inr g) : okF g := by
  by_cases q : hs l = 1
  · rw [if_pos q] at h; exact ok_add (h2 q) h1 h
  · rw [if_neg q] at h
    rw [← Sum.inr.inj h]
    have hc : (Fin.ofNat 10007 (sg l) : FF) ≠ 0 := by
      rcases hsg with e | e <;> rw [e] <;> decide
    obtain ⟨⟨pn, pd, hcp, hk⟩, hb⟩ := h1
    refine ⟨⟨pol_mul (pol_C _) pn, pd, cop_sy (cop_sc hc (cop_sy hcp)), hk⟩, ?_⟩
    rintro (⟨i, hi, e⟩ | ⟨i, hi, e⟩)
    · refine e ?_
      have z : (R (53 + l)).1 i = 0 := Classical.byContradiction (fun q => hb (Or.inl ⟨i, hi, q⟩))
      show ps_m i (ps_C _) _ = 0
      rw [ps_mC, z]; grind
    · exact hb (Or.inr ⟨i, hi, e⟩)
set_option maxHeartbeats 4000000 in
/-- closed -/
theorem m_closed (E : zE) (l : Launch) (sz : Nat) (M : zM) {m : Nat} {xln : Nat → Nat} {xlen : Nat} {xlab : Nat} {xbad : Int32} {xlev : Nat} {xtr : Int32} {xwa : Nat} {xpl : Nat} {xfo : Nat} {xsf : Nat → Nat} {xbf : Nat → Nat} {xF : Nat → FF} {xG : Nat → FF} {xP : Nat → FF} {xQ : Nat → FF} {xmm : Nat → FF} {xsl : Nat → Nat} {xkd : Nat → Nat} {xhs : Nat → Nat} {xht : Nat → Nat} {xsg : Nat → Nat} {xdv : Nat → Nat} (H : mw E M m xln xlen xlab xbad xlev xtr xwa xpl xfo xsf xbf xF xG xP xQ xmm xsl xkd xhs xht xsg xdv) (R : Nat → PS × PS) (hR : relR R xF xG) (htr : xtr = 0) (hlev : xlev ≤ 8) (hkd : ∀ j, xkd j < 100) (hl1 : 1 ≤ xlev) (hhs : xhs xlev ≤ 1) (hsg : xsg xlev = 1 ∨ xsg xlev = 10006) (ok53 : okF (R (53 + xlev))) (ok44 : xhs xlev = 1 → okF (R (44 + xlev))) (ok62 : xkd xlev = 4 → okF (R (62 + xlev))) : zMet E l y_M_closed c_M_closed 2 none { frames := 7, cells := 0, slots := 0, locals := 177 } 0 0 [.ref m] sz M (eP E M sz m xln xlen xlab xbad xlev xtr xwa xpl xfo xsf xbf xF xG xP xQ xmm xsl xkd xhs xht xsg xdv none (m_clo (R, xlev, xkd, xhs, xht, xsg, xdv))) := by
  refine zMet.ofZ (by decide) (Nat.le_of_ble_eq_true rfl) ?_
  intro X hl hini C
  show Z X E 2 _ 0 0 sz M 0 [(0, .ref m)] []
  refine z_aload_n C d_M_closed_0 rfl rfl ?_
  refine z_callV (rest := []) (n := 0) (As := []) C (m_term E X.2.1 sz _ H R hR htr (by omega) hkd (by omega) hsg (by have := ok53.1; rw [hR _ (by omega)] at this; exact this) (fun q => by have := (ok44 q).1; rw [hR _ (by omega)] at this; exact this)) ⟨z_cb C k_M_term ml_M_152 ii_M rfl rfl (by decide +kernel) ⟨by decide, by decide⟩, C.2.2.2.2.1 _ im_M_term, C.2.2.2.2.1 _ se_M_term⟩ H.1 rfl rfl rfl (Nat.le_of_ble_eq_true rfl) d_M_closed_1 ⟨by decide, by decide⟩ ?_
  intro v_1 s_1 M_1 hp_1
  obtain ⟨rfl, rfl, ho_1, lev_1, tr_1, F_1, G_1, P_1, Q_1, mm_1, sl_1, kd_1, hs_1, ht_1, sg_1, dv_1, H_1, hE_1⟩ := hp_1
  have hz_1 : zoutR M M_1 m (m + 15) := zoutR_tr zoutR_rf ho_1
  obtain ⟨hk1, hkd1, hlv1, hr1⟩ := hE_1
  rcases er : m_trm (R, xlev, xkd, xhs, xht, xsg, xdv) with t9 | y9
  · rw [er] at hr1
    obtain ⟨rfl, ht9⟩ := hr1
    show Z _ _ _ _ _ _ _ _ 4 _ []
    refine z_bipush (v := nI 44) C d_M_closed_4 (by decide) ?_
    refine z_aload_n C d_M_closed_6 rfl rfl ?_
    refine z_get C in_M H_1.1 rfl 4 (by decide) fl_M_85 rfl rfl d_M_closed_7 ?_
    refine z_iadd C d_M_closed_10 ?_
    refine z_top (y := nI (44 + lev_1)) (nI_add _ _) ?_
    refine z_istore_n (L' := [(0, .ref m), (1, .int (nI (44 + lev_1)))]) C d_M_closed_11 rfl (by decide) rfl ?_
    refine z_aload_n C d_M_closed_12 rfl rfl ?_
    refine z_get C in_M H_1.1 rfl 5 (by decide) fl_M_119 rfl rfl d_M_closed_13 ?_
    refine z_if_eq (tgt := 20) C d_M_closed_16 (by decide) (fun c_16 => absurd c_16 (ht9)) (fun _ => ?_)
    have ec : m_clo (R, xlev, xkd, xhs, xht, xsg, xdv) = .inl tr_1 := by unfold m_clo; rw [er]; rfl
    exact z_vret C ⟨rfl, rfl, hz_1, lev_1, tr_1, F_1, G_1, P_1, Q_1, mm_1, sl_1, kd_1, hs_1, ht_1, sg_1, dv_1, H_1, hk1, hkd1, hlv1, by rw [ec]; exact ⟨rfl, ht9⟩⟩ d_M_closed_19
  · rw [er] at hr1
    obtain ⟨rfl, ey, hR1⟩ := hr1
    obtain ⟨R1, y2⟩ := y9
    have ey : y2 = (lev_1, kd_1, hs_1, ht_1, sg_1, dv_1) := ey
    subst ey
    have et := m_trm_st er
    obtain ⟨rfl, rfl, g, hg1, rfl, hgk⟩ := et
    have hR1 : relR (updR R (44 + xlev) g) F_1 G_1 := hR1
    show Z _ _ _ _ _ _ _ _ 4 _ []
    refine z_bipush (v := nI 44) C d_M_closed_4 (by decide) ?_
    refine z_aload_n C d_M_closed_6 rfl rfl ?_
    refine z_get C in_M H_1.1 rfl 4 (by decide) fl_M_85 rfl rfl d_M_closed_7 ?_
    refine z_iadd C d_M_closed_10 ?_
    refine z_top (y := nI (44 + xlev)) (nI_add _ _) ?_
    refine z_istore_n (L' := [(0, .ref m), (1, .int (nI (44 + xlev)))]) C d_M_closed_11 rfl (by decide) rfl ?_
    refine z_aload_n C d_M_closed_12 rfl rfl ?_
    refine z_get C in_M H_1.1 rfl 5 (by decide) fl_M_119 rfl rfl d_M_closed_13 ?_
    refine z_if_eq (tgt := 20) C d_M_closed_16 (by decide) (fun _ => ?_) (fun c_16 => absurd (rfl) c_16)
    have hokg := trm_ok (sg := xsg) ok53 ok44 hsg hg1
    have o44 : okR F_1 G_1 (44 + xlev) := (by have h9 := hokg.1; unfold okR; have h8 := hR1 (44 + xlev) (by omega); rw [updR_eq] at h8; rw [h8] at h9; exact h9)
    have hk0 := hkd xlev
    refine z_aload_n C d_M_closed_20 rfl rfl ?_
    refine z_get C in_M H_1.1 rfl 17 (by decide) fl_M_41 rfl rfl d_M_closed_21 ?_
    refine z_aload_n C d_M_closed_24 rfl rfl ?_
    refine z_get C in_M H_1.1 rfl 4 (by decide) fl_M_85 rfl rfl d_M_closed_25 ?_
    refine z_iald C H_1.2.2.2.2.2.2.2.2.2.2.1 0 rfl xlev (rfl) (by omega) (by omega) d_M_closed_28 ?_
    refine z_top (y := nI (xkd xlev)) rfl ?_
    refine z_iconst (v := nI 2) C d_M_closed_29 (by decide) ?_
    refine z_icmp_ne (tgt := 43) C d_M_closed_30 (by decide) (fun c_30 => ?_) (fun c_30 => ?_)
    · have c_30 : ¬ (xkd xlev) = 2 := fun q => c_30 (congrArg nI q)
      refine z_aload_n C d_M_closed_43 rfl rfl ?_
      refine z_get C in_M H_1.1 rfl 17 (by decide) fl_M_41 rfl rfl d_M_closed_44 ?_
      refine z_aload_n C d_M_closed_47 rfl rfl ?_
      refine z_get C in_M H_1.1 rfl 4 (by decide) fl_M_85 rfl rfl d_M_closed_48 ?_
      refine z_iald C H_1.2.2.2.2.2.2.2.2.2.2.1 0 rfl xlev (rfl) (by omega) (by omega) d_M_closed_51 ?_
      refine z_top (y := nI (xkd xlev)) rfl ?_
      refine z_iconst (v := nI 4) C d_M_closed_52 (by decide) ?_
      refine z_icmp_ne (tgt := 73) C d_M_closed_53 (by decide) (fun c_53 => ?_) (fun c_53 => ?_)
      · have c_53 : ¬ (xkd xlev) = 4 := fun q => c_53 (congrArg nI q)
        refine z_aload_n C d_M_closed_73 rfl rfl ?_
        refine z_iload_n C d_M_closed_74 rfl rfl ?_
        refine z_bipush (v := nI 71) C d_M_closed_75 (by decide) ?_
        refine z_callV (rest := []) (n := 2) (As := [.int (nI (44 + xlev)), .int (nI 71)]) C (m_copy E X.2.1 sz _ H_1 (44 + xlev) 71 (by omega) (by decide) (by omega)) ⟨z_cb C k_M_copy ml_M_137 ii_M rfl rfl (by decide +kernel) ⟨by decide, by decide⟩, C.2.2.2.2.1 _ im_M_copy, C.2.2.2.2.1 _ se_M_copy⟩ H_1.1 rfl rfl rfl (Nat.le_of_ble_eq_true rfl) d_M_closed_77 ⟨by decide, by decide⟩ ?_
        intro v_77 s_77 M_77 hp_77
        obtain ⟨rfl, rfl, ho_77, H_77⟩ := hp_77
        have hz_77 : zoutR M M_77 m (m + 15) := zoutR_tr hz_1 ho_77
        show Z _ _ _ _ _ _ _ _ 80 _ []
        refine z_aload_n C d_M_closed_80 rfl rfl ?_
        refine z_dup C d_M_closed_81 rfl ?_
        refine z_get C in_M H_77.1 rfl 4 (by decide) fl_M_85 rfl rfl d_M_closed_82 ?_
        refine z_iconst (v := nI 1) C d_M_closed_85 (by decide) ?_
        refine z_isub C d_M_closed_86 ?_
        refine z_top (y := nI (xlev - 1)) (pk_sub (by omega)) ?_
        refine z_put C in_M ty_M tok_M nm_M H_77.1 rfl 4 (by decide) fl_M_85 rfl rfl rfl (rfl) (rfl) (Nat.le_of_ble_eq_true rfl) d_M_closed_87 ?_
        show Z _ _ _ _ _ _ _ (zU M_77 m (.inr (10, [.ref (m + 1), .int (nI xlen), .int (nI xlab), .int xbad, .int (nI (xlev - 1)), .int 0, .int (nI xwa), .int (nI xpl), .int (nI xfo), .ref (m + 2), .ref (m + 3), .ref (m + 4), .ref (m + 5), .ref (m + 6), .ref (m + 7), .ref (m + 8), .ref (m + 9), .ref (m + 10), .ref (m + 11), .ref (m + 12), .ref (m + 13), .ref (m + 14)]))) _ _ _
        have ec : m_clo (R, xlev, xkd, xhs, xht, xsg, xdv) = m_put (.inr g) (updR R (44 + xlev) g, xlev - 1, xkd, hs_1, ht_1, sg_1, dv_1) := by
          unfold m_clo; rw [er]
          show m_clo2 (updR R (44 + xlev) g, xlev, xkd, hs_1, ht_1, sg_1, dv_1) = _
          rw [m_clo2_eq, updR_eq]
          rw [if_neg (by omega), if_neg (by omega)]
        have g44 := hR1 (44 + xlev) (by omega)
        rw [updR_eq] at g44
        refine z_vret C ⟨rfl, rfl, (zoutR_tr hz_77 (zo_u (by omega) (by omega))), (xlev - 1), 0, (cpF F_1 (44 + xlev) 71 13), (cpF G_1 (44 + xlev) 71 13), P_1, Q_1, mm_1, sl_1, xkd, hs_1, ht_1, sg_1, dv_1, (mw_o H_77 xlen xlab xbad (xlev - 1) 0 xwa xpl xfo), fun q hq => ⟨by rw [pg_cp, if_neg (by omega)]; exact (hk1 q hq).1, by rw [pg_cp, if_neg (by omega)]; exact (hk1 q hq).2⟩, hkd, by omega, ?_⟩ d_M_closed_90
        rw [ec]
        refine ⟨rfl, rfl, relR_u hR1 (fun q hq => ⟨by rw [pg_cp, if_neg hq.2], by rw [pg_cp, if_neg hq.2]⟩) ?_ ?_⟩
        · rw [pg_cp, if_pos rfl, g44]
        · rw [pg_cp, if_pos rfl, g44]
      · have c_53 : (xkd xlev) = 4 := (nI_eq (a := (xkd xlev)) (b := 4) (by omega) (by omega)).mp c_53
        refine z_aload_n C d_M_closed_56 rfl rfl ?_
        refine z_bipush (v := nI 62) C d_M_closed_57 (by decide) ?_
        refine z_aload_n C d_M_closed_59 rfl rfl ?_
        refine z_get C in_M H_1.1 rfl 4 (by decide) fl_M_85 rfl rfl d_M_closed_60 ?_
        refine z_iadd C d_M_closed_63 ?_
        refine z_top (y := nI (62 + xlev)) (nI_add _ _) ?_
        refine z_iload_n C d_M_closed_64 rfl rfl ?_
        refine z_bipush (v := nI 71) C d_M_closed_65 (by decide) ?_
        refine z_callV (rest := []) (n := 3) (As := [.int (nI (62 + xlev)), .int (nI (44 + xlev)), .int (nI 71)]) C (m_subst E X.2.1 sz _ H_1 (62 + xlev) (44 + xlev) 71 (by omega) (by omega) (by decide) rfl (by have h9 := (ok62 (by omega)).1; have h8 := hR1 (62 + xlev) (by omega); rw [updR_ne (show 62 + xlev ≠ 44 + xlev by omega)] at h8; rw [h8] at h9; exact h9) o44) ⟨z_cb C k_M_substitute ml_M_158 ii_M rfl rfl (by decide +kernel) ⟨by decide, by decide⟩, C.2.2.2.2.1 _ im_M_substitute, C.2.2.2.2.1 _ se_M_substitute⟩ H_1.1 rfl rfl rfl (Nat.le_of_ble_eq_true rfl) d_M_closed_67 ⟨by decide, by decide⟩ ?_
        intro v_67 s_67 M_67 hp_67
        obtain ⟨rfl, rfl, ho_67, tr_67, F_67, G_67, P_67, Q_67, mm_67, sl_67, H_67, hR_67⟩ := hp_67
        have hz_67 : zoutR M M_67 m (m + 15) := zoutR_tr hz_1 ho_67
        show Z _ _ _ _ _ _ _ _ 70 _ []
        refine z_goto (tgt := 80) C d_M_closed_70 (by decide) ?_
        refine z_aload_n C d_M_closed_80 rfl rfl ?_
        refine z_dup C d_M_closed_81 rfl ?_
        refine z_get C in_M H_67.1 rfl 4 (by decide) fl_M_85 rfl rfl d_M_closed_82 ?_
        refine z_iconst (v := nI 1) C d_M_closed_85 (by decide) ?_
        refine z_isub C d_M_closed_86 ?_
        refine z_top (y := nI (xlev - 1)) (pk_sub (by omega)) ?_
        refine z_put C in_M ty_M tok_M nm_M H_67.1 rfl 4 (by decide) fl_M_85 rfl rfl rfl (rfl) (rfl) (Nat.le_of_ble_eq_true rfl) d_M_closed_87 ?_
        show Z _ _ _ _ _ _ _ (zU M_67 m (.inr (10, [.ref (m + 1), .int (nI xlen), .int (nI xlab), .int xbad, .int (nI (xlev - 1)), .int tr_67, .int (nI xwa), .int (nI xpl), .int (nI xfo), .ref (m + 2), .ref (m + 3), .ref (m + 4), .ref (m + 5), .ref (m + 6), .ref (m + 7), .ref (m + 8), .ref (m + 9), .ref (m + 10), .ref (m + 11), .ref (m + 12), .ref (m + 13), .ref (m + 14)]))) _ _ _
        have ec : m_clo (R, xlev, xkd, xhs, xht, xsg, xdv) = m_put (oComp (R (62 + xlev)) g) (updR R (44 + xlev) g, xlev - 1, xkd, hs_1, ht_1, sg_1, dv_1) := by
          unfold m_clo; rw [er]
          show m_clo2 (updR R (44 + xlev) g, xlev, xkd, hs_1, ht_1, sg_1, dv_1) = _
          rw [m_clo2_eq, updR_eq]
          rw [if_neg (by omega), if_pos (by omega), updR_ne (show 62 + xlev ≠ 44 + xlev by omega)]
        have g44 := hR1 (44 + xlev) (by omega)
        rw [updR_eq] at g44
        have g62 := hR1 (62 + xlev) (by omega)
        rw [updR_ne (show 62 + xlev ≠ 44 + xlev by omega)] at g62
        have hR2 : oR (fun q => q < 72 ∧ q ≠ 71) F_1 G_1 F_67 G_67 tr_67 71 (oComp (pg F_1 (62 + xlev), pg G_1 (62 + xlev)) (pg F_1 (44 + xlev), pg G_1 (44 + xlev))) := hR_67
        rw [← g44, ← g62] at hR2
        obtain ⟨hk, hr⟩ := hR2
        refine z_vret C ⟨rfl, rfl, (zoutR_tr hz_67 (zo_u (by omega) (by omega))), (xlev - 1), tr_67, F_67, G_67, P_67, Q_67, mm_67, sl_67, xkd, hs_1, ht_1, sg_1, dv_1, (mw_o H_67 xlen xlab xbad (xlev - 1) tr_67 xwa xpl xfo), fun q hq => ⟨by rw [(hk q ⟨by omega, by omega⟩).1]; exact (hk1 q hq).1, by rw [(hk q ⟨by omega, by omega⟩).2]; exact (hk1 q hq).2⟩, hkd, by omega, ?_⟩ d_M_closed_90
        rw [ec]
        rcases er2 : oComp (R (62 + xlev)) g with t9 | y9
        · rw [er2] at hr; exact ⟨hr, comp_ne er2⟩
        · rw [er2] at hr
          exact ⟨hr.1, rfl, relR_u hR1 hk hr.2.1 hr.2.2⟩
    · have c_30 : (xkd xlev) = 2 := (nI_eq (a := (xkd xlev)) (b := 2) (by omega) (by omega)).mp c_30
      refine z_aload_n C d_M_closed_33 rfl rfl ?_
      refine z_iload_n C d_M_closed_34 rfl rfl ?_
      refine z_bipush (v := nI 71) C d_M_closed_35 (by decide) ?_
      refine z_callV (rest := []) (n := 2) (As := [.int (nI (44 + xlev)), .int (nI 71)]) C (m_derive E X.2.1 sz _ H_1 (44 + xlev) 71 (by omega) (by decide) rfl o44) ⟨z_cb C k_M_derive ml_M_155 ii_M rfl rfl (by decide +kernel) ⟨by decide, by decide⟩, C.2.2.2.2.1 _ im_M_derive, C.2.2.2.2.1 _ se_M_derive⟩ H_1.1 rfl rfl rfl (Nat.le_of_ble_eq_true rfl) d_M_closed_37 ⟨by decide, by decide⟩ ?_
      intro v_37 s_37 M_37 hp_37
      obtain ⟨rfl, rfl, ho_37, tr_37, F_37, G_37, P_37, Q_37, mm_37, sl_37, H_37, hR_37⟩ := hp_37
      have hz_37 : zoutR M M_37 m (m + 15) := zoutR_tr hz_1 ho_37
      show Z _ _ _ _ _ _ _ _ 40 _ []
      refine z_goto (tgt := 80) C d_M_closed_40 (by decide) ?_
      refine z_aload_n C d_M_closed_80 rfl rfl ?_
      refine z_dup C d_M_closed_81 rfl ?_
      refine z_get C in_M H_37.1 rfl 4 (by decide) fl_M_85 rfl rfl d_M_closed_82 ?_
      refine z_iconst (v := nI 1) C d_M_closed_85 (by decide) ?_
      refine z_isub C d_M_closed_86 ?_
      refine z_top (y := nI (xlev - 1)) (pk_sub (by omega)) ?_
      refine z_put C in_M ty_M tok_M nm_M H_37.1 rfl 4 (by decide) fl_M_85 rfl rfl rfl (rfl) (rfl) (Nat.le_of_ble_eq_true rfl) d_M_closed_87 ?_
      show Z _ _ _ _ _ _ _ (zU M_37 m (.inr (10, [.ref (m + 1), .int (nI xlen), .int (nI xlab), .int xbad, .int (nI (xlev - 1)), .int tr_37, .int (nI xwa), .int (nI xpl), .int (nI xfo), .ref (m + 2), .ref (m + 3), .ref (m + 4), .ref (m + 5), .ref (m + 6), .ref (m + 7), .ref (m + 8), .ref (m + 9), .ref (m + 10), .ref (m + 11), .ref (m + 12), .ref (m + 13), .ref (m + 14)]))) _ _ _
      have ec : m_clo (R, xlev, xkd, xhs, xht, xsg, xdv) = m_put (oDer g) (updR R (44 + xlev) g, xlev - 1, xkd, hs_1, ht_1, sg_1, dv_1) := by
        unfold m_clo; rw [er]
        show m_clo2 (updR R (44 + xlev) g, xlev, xkd, hs_1, ht_1, sg_1, dv_1) = _
        rw [m_clo2_eq, updR_eq]
        rw [if_pos (by omega)]
      have g44 := hR1 (44 + xlev) (by omega)
      rw [updR_eq] at g44
      have hR2 : oR (fun q => q < 72 ∧ q ≠ 71) F_1 G_1 F_37 G_37 tr_37 71 (oDer (pg F_1 (44 + xlev), pg G_1 (44 + xlev))) := hR_37
      rw [← g44] at hR2
      obtain ⟨hk, hr⟩ := hR2
      refine z_vret C ⟨rfl, rfl, (zoutR_tr hz_37 (zo_u (by omega) (by omega))), (xlev - 1), tr_37, F_37, G_37, P_37, Q_37, mm_37, sl_37, xkd, hs_1, ht_1, sg_1, dv_1, (mw_o H_37 xlen xlab xbad (xlev - 1) tr_37 xwa xpl xfo), fun q hq => ⟨by rw [(hk q ⟨by omega, by omega⟩).1]; exact (hk1 q hq).1, by rw [(hk q ⟨by omega, by omega⟩).2]; exact (hk1 q hq).2⟩, hkd, by omega, ?_⟩ d_M_closed_90
      rw [ec]
      rcases er2 : oDer g with t9 | y9
      · rw [er2] at hr; exact ⟨hr, setl_ne er2⟩
      · rw [er2] at hr
        exact ⟨hr.1, rfl, relR_u hR1 hk hr.2.1 hr.2.2⟩
