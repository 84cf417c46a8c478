theorem m_adv_eq (cs : List Nat) (fs : List (PS × PS)) (nb : Nat → Nat) (i : Nat) (x : ME) : m_adv cs fs nb i x = if cs.getD i 0 = 40 ∨ cs.getD i 0 = 100 ∨ cs.getD i 0 = 115 then (if cs.getD i 0 = 40 then i + 1 else i + 2, .inr (m_sta (if cs.getD i 0 = 40 then 1 else if cs.getD i 0 = 100 then 2 else 3) (m_lev x)))
  else if cs.getD i 0 = 43 ∨ cs.getD i 0 = 45 then (i + 1, m_bind (if m_ht x = 1 then m_trm x else .inr x) (fun x' => .inr (m_sgn (if cs.getD i 0 = 45 then 10006 else 1) x')))
  else if cs.getD i 0 = 42 ∨ cs.getD i 0 = 47 then (i + 1, .inr (m_div (if cs.getD i 0 = 47 then 1 else 0) x))
  else if cs.getD i 0 = 44 then (i + 1, m_bind (m_trm x) (fun x' => .inr (m_sta 4 (m_cpy x'))))
  else if cs.getD i 0 = 41 then m_rai cs (i + 1) (m_clo x)
  else m_rai cs (m_atom cs fs nb i).1 (m_put (m_atom cs fs nb i).2 x) := rfl
/-- a closing that goes well -/
theorem m_clo_st {R R1 : Nat → PS × PS} {l l1 : Nat} {kd hs ht sg dv kd1 hs1 ht1 sg1 dv1 : Nat → Nat} (hl : 1 ≤ l) (h8 : l ≤ 8) (o53 : okF (R (53 + l))) (o44 : hs l = 1 → okF (R (44 + l))) (o62 : kd l = 4 → okF (R (62 + l))) (hsg : sg l = 1 ∨ sg l = 10006) (h : m_clo (R, l, kd, hs, ht, sg, dv) = .inr (R1, l1, kd1, hs1, ht1, sg1, dv1)) : l1 + 1 = l ∧ okF (R1 71) ∧ ht1 l1 = ht l1 ∧ dv1 l1 = dv l1 ∧ R1 (53 + l1) = R (53 + l1) ∧ l1 ≤ l := by
  unfold m_clo at h
  rcases e : m_trm (R, l, kd, hs, ht, sg, dv) with t | y
  · rw [e] at h; cases h
  · obtain ⟨R2, l2, kd2, hs2, ht2, sg2, dv2⟩ := y
    rw [e] at h
    obtain ⟨rfl, rfl, g, hg, rfl, hgk⟩ := m_trm_st e
    have og := trm_ok (sg := sg) o53 o44 hsg hg
    have ef : ht2 = updN ht l 0 ∧ dv2 = dv := by
      rw [m_trm_eq, hg] at e
      have h2 := Sum.inr.inj e
      simp only [Prod.mk.injEq] at h2
      exact ⟨h2.2.2.2.2.1.symm, h2.2.2.2.2.2.2.symm⟩
    obtain ⟨rfl, rfl⟩ := ef
    have h' : m_clo2 (updR R (44 + l) g, l, kd, hs2, updN ht l 0, sg2, dv2) = .inr (R1, l1, kd1, hs1, ht1, sg1, dv1) := h
    rw [m_clo2_eq, updR_eq, updR_ne (show 62 + l ≠ 44 + l by omega)] at h'
    rcases e3 : (if kd l = 2 then oDer g else if kd l = 4 then oComp (R (62 + l)) g else (.inr g : Res)) with t | f
    · rw [e3] at h'; cases h'
    · rw [e3] at h'
      have h2 := Sum.inr.inj h'
      simp only [Prod.mk.injEq] at h2
      obtain ⟨rfl, rfl, -, -, rfl, -, rfl⟩ := h2
      have of : okF f := by
        by_cases q : kd l = 2
        · rw [if_pos q] at e3; exact ok_der og e3
        · rw [if_neg q] at e3
          by_cases q2 : kd l = 4
          · rw [if_pos q2] at e3; exact ok_comp (o62 q2) og e3
          · rw [if_neg q2] at e3; rw [← Sum.inr.inj e3]; exact og
      refine ⟨by omega, by rw [updR_eq]; exact of, updN_ne (by omega), rfl, ?_, by omega⟩
      rw [updR_ne (by omega), updR_ne (by omega)]
theorem atom_ok {cs : List Nat} {fs : List (PS × PS)} {nb : Nat → Nat} {i : Nat} (hf : ∀ f ∈ fs, okF f) {f : PS × PS} (h : (m_atom cs fs nb i).2 = .inr f) : okF f := by
  unfold m_atom at h
  split at h
  · rw [← Sum.inr.inj h]; exact ok_C _
  split at h
  · rw [← Sum.inr.inj h]; exact ok_X
  split at h
  · exact ok_lab hf h
  · exact ok_lab hf h
theorem atom_le {cs : List Nat} {fs : List (PS × PS)} {nb : Nat → Nat} {i : Nat} (h : i < cs.length) : (m_atom cs fs nb i).1 ≤ cs.length := by
  unfold m_atom
  split
  · exact dgs_len (by omega)
  split
  · show i + 1 ≤ _; omega
  split
  · exact dgs_len (by omega)
  · show i + 1 ≤ _; omega
set_option maxHeartbeats 4000000 in
/-- advance -/
theorem m_advance (E : zE) (l : Launch) (sz : Nat) (M : zM) {m : Nat} {xln : Nat → Nat} {xlen : Nat} {xlab : Nat} {xbad : Int32} {xlev : Nat} {xtr : Int32} {xwa : Nat} {xpl : Nat} {xfo : Nat} {xsf : Nat → Nat} {xbf : Nat → Nat} {xF : Nat → FF} {xG : Nat → FF} {xP : Nat → FF} {xQ : Nat → FF} {xmm : Nat → FF} {xsl : Nat → Nat} {xkd : Nat → Nat} {xhs : Nat → Nat} {xht : Nat → Nat} {xsg : Nat → Nat} {xdv : Nat → Nat} (H : mw E M m xln xlen xlab xbad xlev xtr xwa xpl xfo xsf xbf xF xG xP xQ xmm xsl xkd xhs xht xsg xdv) (R : Nat → PS × PS) (hR : relR R xF xG) (htr : xtr = 0) (hlev : xlev ≤ 8) (hkd : ∀ j, xkd j < 100) (cs : List Nat) (hlen : xlen = cs.length) (h32 : cs.length ≤ 32) (hln : ∀ i, i < cs.length → xln i = cs.getD i 0) (hch : ∀ i, xln i < 128) (fs : List (PS × PS)) (nb : Nat → Nat) (hlab : xlab = fs.length) (h40 : fs.length ≤ 40) (hfs : ∀ (n : Nat) f, fs[n]? = some f → R (n + 1) = f) (hbf : ∀ j, j < 3 → xbf j = nb j ∧ nb j ≤ fs.length) (hfo : ∀ f ∈ fs, okF f) (i0 : Nat) (hi0 : i0 < cs.length) (hadv : advOK cs fs nb i0 (R, xlev, xkd, xhs, xht, xsg, xdv)) (hflg : advF cs i0 (R, xlev, xkd, xhs, xht, xsg, xdv)) : zMet E l y_M_advance c_M_advance 4 (some .int) { frames := 8, cells := 0, slots := 0, locals := 198 } 0 0 [.ref m, .int (nI i0)] sz M (eP E M sz m xln xlen xlab xbad xlev xtr xwa xpl xfo xsf xbf xF xG xP xQ xmm xsl xkd xhs xht xsg xdv (some (.int (nI (m_adv cs fs nb i0 (R, xlev, xkd, xhs, xht, xsg, xdv)).1))) ((m_adv cs fs nb i0 (R, xlev, xkd, xhs, xht, xsg, xdv)).2)) := by
  have hc := hln i0 hi0
  have hc128 := hch i0
  obtain ⟨a1, a2, a3, a4, a5⟩ := id hadv
  obtain ⟨b1, b2, b3⟩ := id hflg
  obtain ⟨a21, a22, a23, a24⟩ := a2 xlev (Nat.le_refl _)
  obtain ⟨b11, b12⟩ := b1 xlev (Nat.le_refl _)
  refine zMet.ofZ (by decide) (Nat.le_of_ble_eq_true rfl) ?_
  intro X hl hini C
  have opn : (cs.getD i0 0 = 40 ∨ cs.getD i0 0 = 100 ∨ cs.getD i0 0 = 115) → Z X E 4 (zQ X E 0 0 (eP E M sz m xln xlen xlab xbad xlev xtr xwa xpl xfo xsf xbf xF xG xP xQ xmm xsl xkd xhs xht xsg xdv (some (.int (nI (m_adv cs fs nb i0 (R, xlev, xkd, xhs, xht, xsg, xdv)).1))) ((m_adv cs fs nb i0 (R, xlev, xkd, xhs, xht, xsg, xdv)).2))) 0 0 sz M 25 [(0, .ref m), (1, .int (nI i0)), (2, .int (nI (xln i0)))] [] := by
    intro hq
    have h8 := a3 hq
    refine z_aload_n C d_M_advance_25 rfl rfl ?_
    refine z_dup C d_M_advance_26 rfl ?_
    refine z_get C in_M H.1 rfl 4 (by decide) fl_M_85 rfl rfl d_M_advance_27 ?_
    refine z_iconst (v := nI 1) C d_M_advance_30 (by decide) ?_
    refine z_iadd C d_M_advance_31 ?_
    refine z_top (y := nI (xlev + 1)) (nI_add _ _) ?_
    refine z_put C in_M ty_M tok_M nm_M H.1 rfl 4 (by decide) fl_M_85 rfl rfl rfl (rfl) (rfl) (Nat.le_of_ble_eq_true rfl) d_M_advance_32 ?_
    show Z _ _ _ _ _ _ _ (zU M m (.inr (10, [.ref (m + 1), .int (nI xlen), .int (nI xlab), .int xbad, .int (nI (xlev + 1)), .int xtr, .int (nI xwa), .int (nI xpl), .int (nI xfo), .ref (m + 2), .ref (m + 3), .ref (m + 4), .ref (m + 5), .ref (m + 6), .ref (m + 7), .ref (m + 8), .ref (m + 9), .ref (m + 10), .ref (m + 11), .ref (m + 12), .ref (m + 13), .ref (m + 14)]))) _ _ _
    refine z_aload_n C d_M_advance_35 rfl rfl ?_
    refine z_iload_n C d_M_advance_36 rfl rfl ?_
    refine z_bipush (v := nI 40) C d_M_advance_37 (by decide) ?_
    refine z_icmp_ne (tgt := 46) C d_M_advance_39 (by decide) (fun c_39 => ?_) (fun c_39 => ?_)
    · have c_39 : ¬ (xln i0) = 40 := fun q => c_39 (congrArg nI q)
      refine z_iload_n C d_M_advance_46 rfl rfl ?_
      refine z_bipush (v := nI 100) C d_M_advance_47 (by decide) ?_
      refine z_icmp_ne (tgt := 56) C d_M_advance_49 (by decide) (fun c_49 => ?_) (fun c_49 => ?_)
      · have c_49 : ¬ (xln i0) = 100 := fun q => c_49 (congrArg nI q)
        refine z_iconst (v := nI 3) C d_M_advance_56 (by decide) ?_
        have G_57 : mw E (zU M m (.inr (10, [.ref (m + 1), .int (nI xlen), .int (nI xlab), .int xbad, .int (nI (xlev + 1)), .int xtr, .int (nI xwa), .int (nI xpl), .int (nI xfo), .ref (m + 2), .ref (m + 3), .ref (m + 4), .ref (m + 5), .ref (m + 6), .ref (m + 7), .ref (m + 8), .ref (m + 9), .ref (m + 10), .ref (m + 11), .ref (m + 12), .ref (m + 13), .ref (m + 14)]))) m xln xlen xlab xbad (xlev + 1) xtr xwa xpl xfo xsf xbf xF xG xP xQ xmm xsl xkd xhs xht xsg xdv := (mw_o H xlen xlab xbad (xlev + 1) xtr xwa xpl xfo)
        refine z_callV (rest := []) (n := 1) (As := [.int (nI 3)]) C (m_start E X.2.1 sz _ G_57 3 (by omega)) ⟨z_cb C k_M_start ml_M_177 ii_M rfl rfl (by decide +kernel) ⟨by decide, by decide⟩, C.2.2.2.2.1 _ im_M_start, C.2.2.2.2.1 _ se_M_start⟩ G_57.1 rfl rfl rfl (Nat.le_of_ble_eq_true rfl) d_M_advance_57 ⟨by decide, by decide⟩ ?_
        intro v_57 s_57 M_57 hp_57
        obtain ⟨rfl, rfl, ho_57, H_57⟩ := hp_57
        have hz_57 : zoutR M M_57 m (m + 15) := zoutR_tr (zoutR_tr zoutR_rf (zo_u (by omega) (by omega))) ho_57
        show Z _ _ _ _ _ _ _ _ 60 _ []
        refine z_iload_n C d_M_advance_60 rfl rfl ?_
        refine z_bipush (v := nI 40) C d_M_advance_61 (by decide) ?_
        refine z_icmp_ne (tgt := 72) C d_M_advance_63 (by decide) (fun c_63 => ?_) (fun c_63 => ?_)
        · have c_63 : ¬ (xln i0) = 40 := fun q => c_63 (congrArg nI q)
          refine z_iload_n C d_M_advance_72 rfl rfl ?_
          refine z_iconst (v := nI 2) C d_M_advance_73 (by decide) ?_
          refine z_iadd C d_M_advance_74 ?_
          refine z_top (y := nI (i0 + 2)) (nI_add _ _) ?_
          have ea : (m_adv cs fs nb i0 (R, xlev, xkd, xhs, xht, xsg, xdv)) = ((i0 + 2), .inr (m_sta 3 (m_lev (R, xlev, xkd, xhs, xht, xsg, xdv)))) := by
            rw [m_adv_eq]
            first | (exfalso; omega) | (rw [if_pos hq]; (repeat first | rw [if_pos (by omega)] | rw [if_neg (by omega)]); try rfl)
          refine z_iret C ⟨by rw [ea], rfl, hz_57, (xlev + 1), xtr, xF, xG, xP, xQ, xmm, xsl, (updN xkd (xlev + 1) 3), (updN xhs (xlev + 1) 0), (updN xht (xlev + 1) 0), (updN xsg (xlev + 1) 1), (updN xdv (xlev + 1) 0), H_57, fun q hq => ⟨rfl, rfl⟩, ?_, by omega, ?_⟩ d_M_advance_75
          · exact updN_b hkd (by decide)
          · rw [ea]; exact ⟨htr, rfl, hR⟩
        · have c_63 : (xln i0) = 40 := (nI_eq (a := (xln i0)) (b := 40) (by omega) (by omega)).mp c_63
          refine z_iload_n C d_M_advance_66 rfl rfl ?_
          refine z_iconst (v := nI 1) C d_M_advance_67 (by decide) ?_
          refine z_iadd C d_M_advance_68 ?_
          refine z_top (y := nI (i0 + 1)) (nI_add _ _) ?_
          refine z_goto (tgt := 75) C d_M_advance_69 (by decide) ?_
          have ea : (m_adv cs fs nb i0 (R, xlev, xkd, xhs, xht, xsg, xdv)) = ((i0 + 1), .inr (m_sta 3 (m_lev (R, xlev, xkd, xhs, xht, xsg, xdv)))) := by
            rw [m_adv_eq]
            first | (exfalso; omega) | (rw [if_pos hq]; (repeat first | rw [if_pos (by omega)] | rw [if_neg (by omega)]); try rfl)
          refine z_iret C ⟨by rw [ea], rfl, hz_57, (xlev + 1), xtr, xF, xG, xP, xQ, xmm, xsl, (updN xkd (xlev + 1) 3), (updN xhs (xlev + 1) 0), (updN xht (xlev + 1) 0), (updN xsg (xlev + 1) 1), (updN xdv (xlev + 1) 0), H_57, fun q hq => ⟨rfl, rfl⟩, ?_, by omega, ?_⟩ d_M_advance_75
          · exact updN_b hkd (by decide)
          · rw [ea]; exact ⟨htr, rfl, hR⟩
      · have c_49 : (xln i0) = 100 := (nI_eq (a := (xln i0)) (b := 100) (by omega) (by omega)).mp c_49
        refine z_iconst (v := nI 2) C d_M_advance_52 (by decide) ?_
        refine z_goto (tgt := 57) C d_M_advance_53 (by decide) ?_
        have G_57 : mw E (zU M m (.inr (10, [.ref (m + 1), .int (nI xlen), .int (nI xlab), .int xbad, .int (nI (xlev + 1)), .int xtr, .int (nI xwa), .int (nI xpl), .int (nI xfo), .ref (m + 2), .ref (m + 3), .ref (m + 4), .ref (m + 5), .ref (m + 6), .ref (m + 7), .ref (m + 8), .ref (m + 9), .ref (m + 10), .ref (m + 11), .ref (m + 12), .ref (m + 13), .ref (m + 14)]))) m xln xlen xlab xbad (xlev + 1) xtr xwa xpl xfo xsf xbf xF xG xP xQ xmm xsl xkd xhs xht xsg xdv := (mw_o H xlen xlab xbad (xlev + 1) xtr xwa xpl xfo)
        refine z_callV (rest := []) (n := 1) (As := [.int (nI 2)]) C (m_start E X.2.1 sz _ G_57 2 (by omega)) ⟨z_cb C k_M_start ml_M_177 ii_M rfl rfl (by decide +kernel) ⟨by decide, by decide⟩, C.2.2.2.2.1 _ im_M_start, C.2.2.2.2.1 _ se_M_start⟩ G_57.1 rfl rfl rfl (Nat.le_of_ble_eq_true rfl) d_M_advance_57 ⟨by decide, by decide⟩ ?_
        intro v_57 s_57 M_57 hp_57
        obtain ⟨rfl, rfl, ho_57, H_57⟩ := hp_57
        have hz_57 : zoutR M M_57 m (m + 15) := zoutR_tr (zoutR_tr zoutR_rf (zo_u (by omega) (by omega))) ho_57
        show Z _ _ _ _ _ _ _ _ 60 _ []
        refine z_iload_n C d_M_advance_60 rfl rfl ?_
        refine z_bipush (v := nI 40) C d_M_advance_61 (by decide) ?_
        refine z_icmp_ne (tgt := 72) C d_M_advance_63 (by decide) (fun c_63 => ?_) (fun c_63 => ?_)
        · have c_63 : ¬ (xln i0) = 40 := fun q => c_63 (congrArg nI q)
          refine z_iload_n C d_M_advance_72 rfl rfl ?_
          refine z_iconst (v := nI 2) C d_M_advance_73 (by decide) ?_
          refine z_iadd C d_M_advance_74 ?_
          refine z_top (y := nI (i0 + 2)) (nI_add _ _) ?_
          have ea : (m_adv cs fs nb i0 (R, xlev, xkd, xhs, xht, xsg, xdv)) = ((i0 + 2), .inr (m_sta 2 (m_lev (R, xlev, xkd, xhs, xht, xsg, xdv)))) := by
            rw [m_adv_eq]
            first | (exfalso; omega) | (rw [if_pos hq]; (repeat first | rw [if_pos (by omega)] | rw [if_neg (by omega)]); try rfl)
          refine z_iret C ⟨by rw [ea], rfl, hz_57, (xlev + 1), xtr, xF, xG, xP, xQ, xmm, xsl, (updN xkd (xlev + 1) 2), (updN xhs (xlev + 1) 0), (updN xht (xlev + 1) 0), (updN xsg (xlev + 1) 1), (updN xdv (xlev + 1) 0), H_57, fun q hq => ⟨rfl, rfl⟩, ?_, by omega, ?_⟩ d_M_advance_75
          · exact updN_b hkd (by decide)
          · rw [ea]; exact ⟨htr, rfl, hR⟩
        · have c_63 : (xln i0) = 40 := (nI_eq (a := (xln i0)) (b := 40) (by omega) (by omega)).mp c_63
          refine z_iload_n C d_M_advance_66 rfl rfl ?_
          refine z_iconst (v := nI 1) C d_M_advance_67 (by decide) ?_
          refine z_iadd C d_M_advance_68 ?_
          refine z_top (y := nI (i0 + 1)) (nI_add _ _) ?_
          refine z_goto (tgt := 75) C d_M_advance_69 (by decide) ?_
          have ea : (m_adv cs fs nb i0 (R, xlev, xkd, xhs, xht, xsg, xdv)) = ((i0 + 1), .inr (m_sta 2 (m_lev (R, xlev, xkd, xhs, xht, xsg, xdv)))) := by
            rw [m_adv_eq]
            first | (exfalso; omega) | (rw [if_pos hq]; (repeat first | rw [if_pos (by omega)] | rw [if_neg (by omega)]); try rfl)
          refine z_iret C ⟨by rw [ea], rfl, hz_57, (xlev + 1), xtr, xF, xG, xP, xQ, xmm, xsl, (updN xkd (xlev + 1) 2), (updN xhs (xlev + 1) 0), (updN xht (xlev + 1) 0), (updN xsg (xlev + 1) 1), (updN xdv (xlev + 1) 0), H_57, fun q hq => ⟨rfl, rfl⟩, ?_, by omega, ?_⟩ d_M_advance_75
          · exact updN_b hkd (by decide)
          · rw [ea]; exact ⟨htr, rfl, hR⟩
    · have c_39 : (xln i0) = 40 := (nI_eq (a := (xln i0)) (b := 40) (by omega) (by omega)).mp c_39
      refine z_iconst (v := nI 1) C d_M_advance_42 (by decide) ?_
      refine z_goto (tgt := 57) C d_M_advance_43 (by decide) ?_
      have G_57 : mw E (zU M m (.inr (10, [.ref (m + 1), .int (nI xlen), .int (nI xlab), .int xbad, .int (nI (xlev + 1)), .int xtr, .int (nI xwa), .int (nI xpl), .int (nI xfo), .ref (m + 2), .ref (m + 3), .ref (m + 4), .ref (m + 5), .ref (m + 6), .ref (m + 7), .ref (m + 8), .ref (m + 9), .ref (m + 10), .ref (m + 11), .ref (m + 12), .ref (m + 13), .ref (m + 14)]))) m xln xlen xlab xbad (xlev + 1) xtr xwa xpl xfo xsf xbf xF xG xP xQ xmm xsl xkd xhs xht xsg xdv := (mw_o H xlen xlab xbad (xlev + 1) xtr xwa xpl xfo)
      refine z_callV (rest := []) (n := 1) (As := [.int (nI 1)]) C (m_start E X.2.1 sz _ G_57 1 (by omega)) ⟨z_cb C k_M_start ml_M_177 ii_M rfl rfl (by decide +kernel) ⟨by decide, by decide⟩, C.2.2.2.2.1 _ im_M_start, C.2.2.2.2.1 _ se_M_start⟩ G_57.1 rfl rfl rfl (Nat.le_of_ble_eq_true rfl) d_M_advance_57 ⟨by decide, by decide⟩ ?_
      intro v_57 s_57 M_57 hp_57
      obtain ⟨rfl, rfl, ho_57, H_57⟩ := hp_57
      have hz_57 : zoutR M M_57 m (m + 15) := zoutR_tr (zoutR_tr zoutR_rf (zo_u (by omega) (by omega))) ho_57
      show Z _ _ _ _ _ _ _ _ 60 _ []
      refine z_iload_n C d_M_advance_60 rfl rfl ?_
      refine z_bipush (v := nI 40) C d_M_advance_61 (by decide) ?_
      refine z_icmp_ne (tgt := 72) C d_M_advance_63 (by decide) (fun c_63 => ?_) (fun c_63 => ?_)
      · have c_63 : ¬ (xln i0) = 40 := fun q => c_63 (congrArg nI q)
        refine z_iload_n C d_M_advance_72 rfl rfl ?_
        refine z_iconst (v := nI 2) C d_M_advance_73 (by decide) ?_
        refine z_iadd C d_M_advance_74 ?_
        refine z_top (y := nI (i0 + 2)) (nI_add _ _) ?_
        have ea : (m_adv cs fs nb i0 (R, xlev, xkd, xhs, xht, xsg, xdv)) = ((i0 + 2), .inr (m_sta 1 (m_lev (R, xlev, xkd, xhs, xht, xsg, xdv)))) := by
          rw [m_adv_eq]
          first | (exfalso; omega) | (rw [if_pos hq]; (repeat first | rw [if_pos (by omega)] | rw [if_neg (by omega)]); try rfl)
        refine z_iret C ⟨by rw [ea], rfl, hz_57, (xlev + 1), xtr, xF, xG, xP, xQ, xmm, xsl, (updN xkd (xlev + 1) 1), (updN xhs (xlev + 1) 0), (updN xht (xlev + 1) 0), (updN xsg (xlev + 1) 1), (updN xdv (xlev + 1) 0), H_57, fun q hq => ⟨rfl, rfl⟩, ?_, by omega, ?_⟩ d_M_advance_75
        · exact updN_b hkd (by decide)
        · rw [ea]; exact ⟨htr, rfl, hR⟩
      · have c_63 : (xln i0) = 40 := (nI_eq (a := (xln i0)) (b := 40) (by omega) (by omega)).mp c_63
        refine z_iload_n C d_M_advance_66 rfl rfl ?_
        refine z_iconst (v := nI 1) C d_M_advance_67 (by decide) ?_
        refine z_iadd C d_M_advance_68 ?_
        refine z_top (y := nI (i0 + 1)) (nI_add _ _) ?_
        refine z_goto (tgt := 75) C d_M_advance_69 (by decide) ?_
        have ea : (m_adv cs fs nb i0 (R, xlev, xkd, xhs, xht, xsg, xdv)) = ((i0 + 1), .inr (m_sta 1 (m_lev (R, xlev, xkd, xhs, xht, xsg, xdv)))) := by
          rw [m_adv_eq]
          first | (exfalso; omega) | (rw [if_pos hq]; (repeat first | rw [if_pos (by omega)] | rw [if_neg (by omega)]); try rfl)
        refine z_iret C ⟨by rw [ea], rfl, hz_57, (xlev + 1), xtr, xF, xG, xP, xQ, xmm, xsl, (updN xkd (xlev + 1) 1), (updN xhs (xlev + 1) 0), (updN xht (xlev + 1) 0), (updN xsg (xlev + 1) 1), (updN xdv (xlev + 1) 0), H_57, fun q hq => ⟨rfl, rfl⟩, ?_, by omega, ?_⟩ d_M_advance_75
        · exact updN_b hkd (by decide)
        · rw [ea]; exact ⟨htr, rfl, hR⟩
  have sgn : (cs.getD i0 0 = 43 ∨ cs.getD i0 0 = 45) → Z X E 4 (zQ X E 0 0 (eP E M sz m xln xlen xlab xbad xlev xtr xwa xpl xfo xsf xbf xF xG xP xQ xmm xsl xkd xhs xht xsg xdv (some (.int (nI (m_adv cs fs nb i0 (R, xlev, xkd, xhs, xht, xsg, xdv)).1))) ((m_adv cs fs nb i0 (R, xlev, xkd, xhs, xht, xsg, xdv)).2))) 0 0 sz M 88 [(0, .ref m), (1, .int (nI i0)), (2, .int (nI (xln i0)))] [] := by
    intro hq
    refine z_aload_n C d_M_advance_88 rfl rfl ?_
    refine z_get C in_M H.1 rfl 19 (by decide) fl_M_48 rfl rfl d_M_advance_89 ?_
    refine z_aload_n C d_M_advance_92 rfl rfl ?_
    refine z_get C in_M H.1 rfl 4 (by decide) fl_M_85 rfl rfl d_M_advance_93 ?_
    refine z_zald C H.2.2.2.2.2.2.2.2.2.2.2.2.1 2 rfl xlev (rfl) (by omega) (by omega) d_M_advance_96 ?_
    refine z_top (y := nI (xht xlev)) rfl ?_
    refine z_if_eq (tgt := 104) C d_M_advance_97 (by decide) (fun c_97 => ?_) (fun c_97 => ?_)
    · have c_97 : (xht xlev) = 0 := (nI_eq (a := (xht xlev)) (b := 0) (by omega) (by omega)).mp c_97
      refine z_aload_n C d_M_advance_104 rfl rfl ?_
      refine z_get C in_M H.1 rfl 20 (by decide) fl_M_51 rfl rfl d_M_advance_105 ?_
      refine z_aload_n C d_M_advance_108 rfl rfl ?_
      refine z_get C in_M H.1 rfl 4 (by decide) fl_M_85 rfl rfl d_M_advance_109 ?_
      refine z_iload_n C d_M_advance_112 rfl rfl ?_
      refine z_bipush (v := nI 45) C d_M_advance_113 (by decide) ?_
      refine z_icmp_ne (tgt := 124) C d_M_advance_115 (by decide) (fun c_115 => ?_) (fun c_115 => ?_)
      · have c_115 : ¬ (xln i0) = 45 := fun q => c_115 (congrArg nI q)
        refine z_iconst (v := nI 1) C d_M_advance_124 (by decide) ?_
        refine z_iast C H.2.2.2.2.2.2.2.2.2.2.2.2.2.1 0 rfl xlev (rfl) (by omega) (by omega) d_M_advance_125 ?_
        refine z_world (M' := zU M (m + 13) (.inl (E.2.1 0, 10, .inl (fun z_ => nI ((updN xsg xlev 1) z_))))) (congrArg (fun e => zU M (m + 13) (.inl (E.2.1 0, 10, .inl e))) nI_upd) ?_
        refine z_iload_n C d_M_advance_126 rfl rfl ?_
        refine z_iconst (v := nI 1) C d_M_advance_127 (by decide) ?_
        refine z_iadd C d_M_advance_128 ?_
        refine z_top (y := nI (i0 + 1)) (nI_add _ _) ?_
        have hht0 : ¬ m_ht (R, xlev, xkd, xhs, xht, xsg, xdv) = 1 := by show ¬ xht xlev = 1; omega
        have ea : (m_adv cs fs nb i0 (R, xlev, xkd, xhs, xht, xsg, xdv)) = (i0 + 1, .inr (m_sgn 1 (R, xlev, xkd, xhs, xht, xsg, xdv))) := by
          rw [m_adv_eq]
          first | (exfalso; omega) | (rw [if_neg (by omega), if_pos hq, if_neg hht0, if_neg (by omega)]; try rfl)
        exact z_iret C ⟨by rw [ea], rfl, (zoutR_tr zoutR_rf (zo_u (by omega) (by omega))), xlev, xtr, xF, xG, xP, xQ, xmm, xsl, xkd, xhs, xht, (updN xsg xlev 1), xdv, (mw_a13 H (updN xsg xlev 1)), fun q hq => ⟨rfl, rfl⟩, hkd, by omega, by rw [ea]; exact ⟨htr, rfl, hR⟩⟩ d_M_advance_129
      · have c_115 : (xln i0) = 45 := (nI_eq (a := (xln i0)) (b := 45) (by omega) (by omega)).mp c_115
        refine z_sipush (v := nI 10006) C d_M_advance_118 (by decide) ?_
        refine z_goto (tgt := 125) C d_M_advance_121 (by decide) ?_
        refine z_iast C H.2.2.2.2.2.2.2.2.2.2.2.2.2.1 0 rfl xlev (rfl) (by omega) (by omega) d_M_advance_125 ?_
        refine z_world (M' := zU M (m + 13) (.inl (E.2.1 0, 10, .inl (fun z_ => nI ((updN xsg xlev 10006) z_))))) (congrArg (fun e => zU M (m + 13) (.inl (E.2.1 0, 10, .inl e))) nI_upd) ?_
        refine z_iload_n C d_M_advance_126 rfl rfl ?_
        refine z_iconst (v := nI 1) C d_M_advance_127 (by decide) ?_
        refine z_iadd C d_M_advance_128 ?_
        refine z_top (y := nI (i0 + 1)) (nI_add _ _) ?_
        have hht0 : ¬ m_ht (R, xlev, xkd, xhs, xht, xsg, xdv) = 1 := by show ¬ xht xlev = 1; omega
        have ea : (m_adv cs fs nb i0 (R, xlev, xkd, xhs, xht, xsg, xdv)) = (i0 + 1, .inr (m_sgn 10006 (R, xlev, xkd, xhs, xht, xsg, xdv))) := by
          rw [m_adv_eq]
          first | (exfalso; omega) | (rw [if_neg (by omega), if_pos hq, if_neg hht0, if_pos (by omega)]; try rfl)
        exact z_iret C ⟨by rw [ea], rfl, (zoutR_tr zoutR_rf (zo_u (by omega) (by omega))), xlev, xtr, xF, xG, xP, xQ, xmm, xsl, xkd, xhs, xht, (updN xsg xlev 10006), xdv, (mw_a13 H (updN xsg xlev 10006)), fun q hq => ⟨rfl, rfl⟩, hkd, by omega, by rw [ea]; exact ⟨htr, rfl, hR⟩⟩ d_M_advance_129
    · have c_97 : ¬ (xht xlev) = 0 := fun q => c_97 (congrArg nI q)
      refine z_aload_n C d_M_advance_100 rfl rfl ?_
      refine z_callV (rest := []) (n := 0) (As := []) C (m_term E X.2.1 sz _ H R hR htr (by omega) hkd (by omega) a24 (by have h9 := (a21 (by omega)).1; rw [hR _ (by omega)] at h9; exact h9) (fun q => by have h9 := (a22 q).1; rw [hR _ (by omega)] at h9; exact h9)) ⟨z_cb C k_M_term ml_M_152 ii_M rfl rfl (by decide +kernel) ⟨by decide, by decide⟩, C.2.2.2.2.1 _ im_M_term, C.2.2.2.2.1 _ se_M_term⟩ H.1 rfl rfl rfl (Nat.le_of_ble_eq_true rfl) d_M_advance_101 ⟨by decide, by decide⟩ ?_
      intro v_101 s_101 M_101 hp_101
      obtain ⟨rfl, rfl, ho_101, lev_101, tr_101, F_101, G_101, P_101, Q_101, mm_101, sl_101, kd_101, hs_101, ht_101, sg_101, dv_101, H_101, hk_101, hkd_101, hlv_101, hr_101⟩ := hp_101
      have hz_101 : zoutR M M_101 m (m + 15) := zoutR_tr zoutR_rf ho_101
      rcases er_101 : m_trm (R, xlev, xkd, xhs, xht, xsg, xdv) with t_101 | y_101
      · rw [er_101] at hr_101
        obtain ⟨rfl, hne_101⟩ := hr_101
        show Z _ _ _ _ _ _ _ _ 104 _ []
        refine z_aload_n C d_M_advance_104 rfl rfl ?_
        refine z_get C in_M H_101.1 rfl 20 (by decide) fl_M_51 rfl rfl d_M_advance_105 ?_
        refine z_aload_n C d_M_advance_108 rfl rfl ?_
        refine z_get C in_M H_101.1 rfl 4 (by decide) fl_M_85 rfl rfl d_M_advance_109 ?_
        refine z_iload_n C d_M_advance_112 rfl rfl ?_
        refine z_bipush (v := nI 45) C d_M_advance_113 (by decide) ?_
        refine z_icmp_ne (tgt := 124) C d_M_advance_115 (by decide) (fun c_115 => ?_) (fun c_115 => ?_)
        · have c_115 : ¬ (xln i0) = 45 := fun q => c_115 (congrArg nI q)
          refine z_iconst (v := nI 1) C d_M_advance_124 (by decide) ?_
          refine z_iast C H_101.2.2.2.2.2.2.2.2.2.2.2.2.2.1 0 rfl lev_101 (rfl) (by omega) (by omega) d_M_advance_125 ?_
          refine z_world (M' := zU M_101 (m + 13) (.inl (E.2.1 0, 10, .inl (fun z_ => nI ((updN sg_101 lev_101 1) z_))))) (congrArg (fun e => zU M_101 (m + 13) (.inl (E.2.1 0, 10, .inl e))) nI_upd) ?_
          refine z_iload_n C d_M_advance_126 rfl rfl ?_
          refine z_iconst (v := nI 1) C d_M_advance_127 (by decide) ?_
          refine z_iadd C d_M_advance_128 ?_
          refine z_top (y := nI (i0 + 1)) (nI_add _ _) ?_
          have hht1 : m_ht (R, xlev, xkd, xhs, xht, xsg, xdv) = 1 := by show xht xlev = 1; omega
          have ea : (m_adv cs fs nb i0 (R, xlev, xkd, xhs, xht, xsg, xdv)) = (i0 + 1, .inl tr_101) := by
            rw [m_adv_eq]
            first | (exfalso; omega) | (rw [if_neg (by omega), if_pos hq, if_pos hht1, er_101, if_neg (by omega)]; try rfl)
          refine z_iret C ⟨by rw [ea], rfl, (zoutR_tr hz_101 (zo_u (by omega) (by omega))), lev_101, tr_101, F_101, G_101, P_101, Q_101, mm_101, sl_101, kd_101, hs_101, ht_101, (updN sg_101 lev_101 1), dv_101, (mw_a13 H_101 (updN sg_101 lev_101 1)), hk_101, hkd_101, by omega, ?_⟩ d_M_advance_129
          rw [ea]
          exact ⟨rfl, hne_101⟩
        · have c_115 : (xln i0) = 45 := (nI_eq (a := (xln i0)) (b := 45) (by omega) (by omega)).mp c_115
          refine z_sipush (v := nI 10006) C d_M_advance_118 (by decide) ?_
          refine z_goto (tgt := 125) C d_M_advance_121 (by decide) ?_
          refine z_iast C H_101.2.2.2.2.2.2.2.2.2.2.2.2.2.1 0 rfl lev_101 (rfl) (by omega) (by omega) d_M_advance_125 ?_
          refine z_world (M' := zU M_101 (m + 13) (.inl (E.2.1 0, 10, .inl (fun z_ => nI ((updN sg_101 lev_101 10006) z_))))) (congrArg (fun e => zU M_101 (m + 13) (.inl (E.2.1 0, 10, .inl e))) nI_upd) ?_
          refine z_iload_n C d_M_advance_126 rfl rfl ?_
          refine z_iconst (v := nI 1) C d_M_advance_127 (by decide) ?_
          refine z_iadd C d_M_advance_128 ?_
          refine z_top (y := nI (i0 + 1)) (nI_add _ _) ?_
          have hht1 : m_ht (R, xlev, xkd, xhs, xht, xsg, xdv) = 1 := by show xht xlev = 1; omega
          have ea : (m_adv cs fs nb i0 (R, xlev, xkd, xhs, xht, xsg, xdv)) = (i0 + 1, .inl tr_101) := by
            rw [m_adv_eq]
            first | (exfalso; omega) | (rw [if_neg (by omega), if_pos hq, if_pos hht1, er_101, if_pos (by omega)]; try rfl)
          refine z_iret C ⟨by rw [ea], rfl, (zoutR_tr hz_101 (zo_u (by omega) (by omega))), lev_101, tr_101, F_101, G_101, P_101, Q_101, mm_101, sl_101, kd_101, hs_101, ht_101, (updN sg_101 lev_101 10006), dv_101, (mw_a13 H_101 (updN sg_101 lev_101 10006)), hk_101, hkd_101, by omega, ?_⟩ d_M_advance_129
          rw [ea]
          exact ⟨rfl, hne_101⟩
      · rw [er_101] at hr_101
        obtain ⟨rfl, ey_101, hR0_101⟩ := hr_101
        obtain ⟨R_101, y2_101⟩ := y_101
        have ey_101 : y2_101 = (lev_101, kd_101, hs_101, ht_101, sg_101, dv_101) := ey_101
        subst ey_101
        have hR_101 : relR R_101 F_101 G_101 := hR0_101
        have et := m_trm_st er_101
        obtain ⟨rfl, rfl, -⟩ := et
        show Z _ _ _ _ _ _ _ _ 104 _ []
        refine z_aload_n C d_M_advance_104 rfl rfl ?_
        refine z_get C in_M H_101.1 rfl 20 (by decide) fl_M_51 rfl rfl d_M_advance_105 ?_
        refine z_aload_n C d_M_advance_108 rfl rfl ?_
        refine z_get C in_M H_101.1 rfl 4 (by decide) fl_M_85 rfl rfl d_M_advance_109 ?_
        refine z_iload_n C d_M_advance_112 rfl rfl ?_
        refine z_bipush (v := nI 45) C d_M_advance_113 (by decide) ?_
        refine z_icmp_ne (tgt := 124) C d_M_advance_115 (by decide) (fun c_115 => ?_) (fun c_115 => ?_)
        · have c_115 : ¬ (xln i0) = 45 := fun q => c_115 (congrArg nI q)
          refine z_iconst (v := nI 1) C d_M_advance_124 (by decide) ?_
          refine z_iast C H_101.2.2.2.2.2.2.2.2.2.2.2.2.2.1 0 rfl xlev (rfl) (by omega) (by omega) d_M_advance_125 ?_
          refine z_world (M' := zU M_101 (m + 13) (.inl (E.2.1 0, 10, .inl (fun z_ => nI ((updN sg_101 xlev 1) z_))))) (congrArg (fun e => zU M_101 (m + 13) (.inl (E.2.1 0, 10, .inl e))) nI_upd) ?_
          refine z_iload_n C d_M_advance_126 rfl rfl ?_
          refine z_iconst (v := nI 1) C d_M_advance_127 (by decide) ?_
          refine z_iadd C d_M_advance_128 ?_
          refine z_top (y := nI (i0 + 1)) (nI_add _ _) ?_
          have hht1 : m_ht (R, xlev, xkd, xhs, xht, xsg, xdv) = 1 := by show xht xlev = 1; omega
          have ea : (m_adv cs fs nb i0 (R, xlev, xkd, xhs, xht, xsg, xdv)) = (i0 + 1, .inr (m_sgn 1 (R_101, xlev, xkd, hs_101, ht_101, sg_101, dv_101))) := by
            rw [m_adv_eq]
            first | (exfalso; omega) | (rw [if_neg (by omega), if_pos hq, if_pos hht1, er_101, if_neg (by omega)]; try rfl)
          refine z_iret C ⟨by rw [ea], rfl, (zoutR_tr hz_101 (zo_u (by omega) (by omega))), xlev, 0, F_101, G_101, P_101, Q_101, mm_101, sl_101, xkd, hs_101, ht_101, (updN sg_101 xlev 1), dv_101, (mw_a13 H_101 (updN sg_101 xlev 1)), hk_101, hkd_101, by omega, ?_⟩ d_M_advance_129
          rw [ea]
          exact ⟨rfl, rfl, hR_101⟩
        · have c_115 : (xln i0) = 45 := (nI_eq (a := (xln i0)) (b := 45) (by omega) (by omega)).mp c_115
          refine z_sipush (v := nI 10006) C d_M_advance_118 (by decide) ?_
          refine z_goto (tgt := 125) C d_M_advance_121 (by decide) ?_
          refine z_iast C H_101.2.2.2.2.2.2.2.2.2.2.2.2.2.1 0 rfl xlev (rfl) (by omega) (by omega) d_M_advance_125 ?_
          refine z_world (M' := zU M_101 (m + 13) (.inl (E.2.1 0, 10, .inl (fun z_ => nI ((updN sg_101 xlev 10006) z_))))) (congrArg (fun e => zU M_101 (m + 13) (.inl (E.2.1 0, 10, .inl e))) nI_upd) ?_
          refine z_iload_n C d_M_advance_126 rfl rfl ?_
          refine z_iconst (v := nI 1) C d_M_advance_127 (by decide) ?_
          refine z_iadd C d_M_advance_128 ?_
          refine z_top (y := nI (i0 + 1)) (nI_add _ _) ?_
          have hht1 : m_ht (R, xlev, xkd, xhs, xht, xsg, xdv) = 1 := by show xht xlev = 1; omega
          have ea : (m_adv cs fs nb i0 (R, xlev, xkd, xhs, xht, xsg, xdv)) = (i0 + 1, .inr (m_sgn 10006 (R_101, xlev, xkd, hs_101, ht_101, sg_101, dv_101))) := by
            rw [m_adv_eq]
            first | (exfalso; omega) | (rw [if_neg (by omega), if_pos hq, if_pos hht1, er_101, if_pos (by omega)]; try rfl)
          refine z_iret C ⟨by rw [ea], rfl, (zoutR_tr hz_101 (zo_u (by omega) (by omega))), xlev, 0, F_101, G_101, P_101, Q_101, mm_101, sl_101, xkd, hs_101, ht_101, (updN sg_101 xlev 10006), dv_101, (mw_a13 H_101 (updN sg_101 xlev 10006)), hk_101, hkd_101, by omega, ?_⟩ d_M_advance_129
          rw [ea]
          exact ⟨rfl, rfl, hR_101⟩
  have mul : (cs.getD i0 0 = 42 ∨ cs.getD i0 0 = 47) → Z X E 4 (zQ X E 0 0 (eP E M sz m xln xlen xlab xbad xlev xtr xwa xpl xfo xsf xbf xF xG xP xQ xmm xsl xkd xhs xht xsg xdv (some (.int (nI (m_adv cs fs nb i0 (R, xlev, xkd, xhs, xht, xsg, xdv)).1))) ((m_adv cs fs nb i0 (R, xlev, xkd, xhs, xht, xsg, xdv)).2))) 0 0 sz M 142 [(0, .ref m), (1, .int (nI i0)), (2, .int (nI (xln i0)))] [] := by
    intro hq
    refine z_aload_n C d_M_advance_142 rfl rfl ?_
    refine z_get C in_M H.1 rfl 21 (by decide) fl_M_54 rfl rfl d_M_advance_143 ?_
    refine z_aload_n C d_M_advance_146 rfl rfl ?_
    refine z_get C in_M H.1 rfl 4 (by decide) fl_M_85 rfl rfl d_M_advance_147 ?_
    refine z_iload_n C d_M_advance_150 rfl rfl ?_
    refine z_bipush (v := nI 47) C d_M_advance_151 (by decide) ?_
    refine z_icmp_ne (tgt := 160) C d_M_advance_153 (by decide) (fun c_153 => ?_) (fun c_153 => ?_)
    · have c_153 : ¬ (xln i0) = 47 := fun q => c_153 (congrArg nI q)
      refine z_iconst (v := nI 0) C d_M_advance_160 (by decide) ?_
      refine z_zast C H.2.2.2.2.2.2.2.2.2.2.2.2.2.2 2 rfl xlev (rfl) (by omega) (by omega) (nar_01 (by first | decide | omega)) d_M_advance_161 ?_
      refine z_world (M' := zU M (m + 14) (.inl (E.2.1 2, 10, .inl (fun z_ => nI ((updN xdv xlev 0) z_))))) (congrArg (fun e => zU M (m + 14) (.inl (E.2.1 2, 10, .inl e))) nI_upd) ?_
      refine z_iload_n C d_M_advance_162 rfl rfl ?_
      refine z_iconst (v := nI 1) C d_M_advance_163 (by decide) ?_
      refine z_iadd C d_M_advance_164 ?_
      refine z_top (y := nI (i0 + 1)) (nI_add _ _) ?_
      have ea : (m_adv cs fs nb i0 (R, xlev, xkd, xhs, xht, xsg, xdv)) = (i0 + 1, .inr (m_div 0 (R, xlev, xkd, xhs, xht, xsg, xdv))) := by
        rw [m_adv_eq]
        first | (exfalso; omega) | (rw [if_neg (by omega), if_neg (by omega), if_pos hq, if_neg (by omega)]; try rfl)
      exact z_iret C ⟨by rw [ea], rfl, (zoutR_tr zoutR_rf (zo_u (by omega) (by omega))), xlev, xtr, xF, xG, xP, xQ, xmm, xsl, xkd, xhs, xht, xsg, (updN xdv xlev 0), (mw_a14 H (updN xdv xlev 0)), fun q hq => ⟨rfl, rfl⟩, hkd, by omega, by rw [ea]; exact ⟨htr, rfl, hR⟩⟩ d_M_advance_165
    · have c_153 : (xln i0) = 47 := (nI_eq (a := (xln i0)) (b := 47) (by omega) (by omega)).mp c_153
      refine z_iconst (v := nI 1) C d_M_advance_156 (by decide) ?_
      refine z_goto (tgt := 161) C d_M_advance_157 (by decide) ?_
      refine z_zast C H.2.2.2.2.2.2.2.2.2.2.2.2.2.2 2 rfl xlev (rfl) (by omega) (by omega) (nar_01 (by first | decide | omega)) d_M_advance_161 ?_
      refine z_world (M' := zU M (m + 14) (.inl (E.2.1 2, 10, .inl (fun z_ => nI ((updN xdv xlev 1) z_))))) (congrArg (fun e => zU M (m + 14) (.inl (E.2.1 2, 10, .inl e))) nI_upd) ?_
      refine z_iload_n C d_M_advance_162 rfl rfl ?_
      refine z_iconst (v := nI 1) C d_M_advance_163 (by decide) ?_
      refine z_iadd C d_M_advance_164 ?_
      refine z_top (y := nI (i0 + 1)) (nI_add _ _) ?_
      have ea : (m_adv cs fs nb i0 (R, xlev, xkd, xhs, xht, xsg, xdv)) = (i0 + 1, .inr (m_div 1 (R, xlev, xkd, xhs, xht, xsg, xdv))) := by
        rw [m_adv_eq]
        first | (exfalso; omega) | (rw [if_neg (by omega), if_neg (by omega), if_pos hq, if_pos (by omega)]; try rfl)
      exact z_iret C ⟨by rw [ea], rfl, (zoutR_tr zoutR_rf (zo_u (by omega) (by omega))), xlev, xtr, xF, xG, xP, xQ, xmm, xsl, xkd, xhs, xht, xsg, (updN xdv xlev 1), (mw_a14 H (updN xdv xlev 1)), fun q hq => ⟨rfl, rfl⟩, hkd, by omega, by rw [ea]; exact ⟨htr, rfl, hR⟩⟩ d_M_advance_165
  show Z X E 4 _ 0 0 sz M 0 [(0, .ref m), (1, .int (nI i0))] []
  refine z_aload_n C d_M_advance_0 rfl rfl ?_
  refine z_get C in_M H.1 rfl 0 (by decide) fl_M_7 rfl rfl d_M_advance_1 ?_
  refine z_iload_n C d_M_advance_4 rfl rfl ?_
  refine z_iald C H.2.1 0 rfl i0 (rfl) (by omega) (by omega) d_M_advance_5 ?_
  refine z_top (y := nI (xln i0)) rfl ?_
  refine z_istore_n (L' := [(0, .ref m), (1, .int (nI i0)), (2, .int (nI (xln i0)))]) C d_M_advance_6 rfl (by decide) rfl ?_
  refine z_iload_n C d_M_advance_7 rfl rfl ?_
  refine z_bipush (v := nI 40) C d_M_advance_8 (by decide) ?_
  refine z_icmp_eq (tgt := 25) C d_M_advance_10 (by decide) (fun c_10 => ?_) (fun c_10 => ?_)
  · have c_10 : (xln i0) = 40 := (nI_eq (a := (xln i0)) (b := 40) (by omega) (by omega)).mp c_10
    exact opn (by omega)
  · have c_10 : ¬ (xln i0) = 40 := fun q => c_10 (congrArg nI q)
    refine z_iload_n C d_M_advance_13 rfl rfl ?_
    refine z_bipush (v := nI 100) C d_M_advance_14 (by decide) ?_
    refine z_icmp_eq (tgt := 25) C d_M_advance_16 (by decide) (fun c_16 => ?_) (fun c_16 => ?_)
    · have c_16 : (xln i0) = 100 := (nI_eq (a := (xln i0)) (b := 100) (by omega) (by omega)).mp c_16
      exact opn (by omega)
    · have c_16 : ¬ (xln i0) = 100 := fun q => c_16 (congrArg nI q)
      refine z_iload_n C d_M_advance_19 rfl rfl ?_
      refine z_bipush (v := nI 115) C d_M_advance_20 (by decide) ?_
      refine z_icmp_ne (tgt := 76) C d_M_advance_22 (by decide) (fun c_22 => ?_) (fun c_22 => ?_)
      · have c_22 : ¬ (xln i0) = 115 := fun q => c_22 (congrArg nI q)
        refine z_iload_n C d_M_advance_76 rfl rfl ?_
        refine z_bipush (v := nI 43) C d_M_advance_77 (by decide) ?_
        refine z_icmp_eq (tgt := 88) C d_M_advance_79 (by decide) (fun c_79 => ?_) (fun c_79 => ?_)
        · have c_79 : (xln i0) = 43 := (nI_eq (a := (xln i0)) (b := 43) (by omega) (by omega)).mp c_79
          exact sgn (by omega)
        · have c_79 : ¬ (xln i0) = 43 := fun q => c_79 (congrArg nI q)
          refine z_iload_n C d_M_advance_82 rfl rfl ?_
          refine z_bipush (v := nI 45) C d_M_advance_83 (by decide) ?_
          refine z_icmp_ne (tgt := 130) C d_M_advance_85 (by decide) (fun c_85 => ?_) (fun c_85 => ?_)
          · have c_85 : ¬ (xln i0) = 45 := fun q => c_85 (congrArg nI q)
            refine z_iload_n C d_M_advance_130 rfl rfl ?_
            refine z_bipush (v := nI 42) C d_M_advance_131 (by decide) ?_
            refine z_icmp_eq (tgt := 142) C d_M_advance_133 (by decide) (fun c_133 => ?_) (fun c_133 => ?_)
            · have c_133 : (xln i0) = 42 := (nI_eq (a := (xln i0)) (b := 42) (by omega) (by omega)).mp c_133
              exact mul (by omega)
            · have c_133 : ¬ (xln i0) = 42 := fun q => c_133 (congrArg nI q)
              refine z_iload_n C d_M_advance_136 rfl rfl ?_
              refine z_bipush (v := nI 47) C d_M_advance_137 (by decide) ?_
              refine z_icmp_ne (tgt := 166) C d_M_advance_139 (by decide) (fun c_139 => ?_) (fun c_139 => ?_)
              · have c_139 : ¬ (xln i0) = 47 := fun q => c_139 (congrArg nI q)
                refine z_iload_n C d_M_advance_166 rfl rfl ?_
                refine z_bipush (v := nI 44) C d_M_advance_167 (by decide) ?_
                refine z_icmp_ne (tgt := 203) C d_M_advance_169 (by decide) (fun c_169 => ?_) (fun c_169 => ?_)
                · have c_169 : ¬ (xln i0) = 44 := fun q => c_169 (congrArg nI q)
                  refine z_iload_n C d_M_advance_203 rfl rfl ?_
                  refine z_bipush (v := nI 41) C d_M_advance_204 (by decide) ?_
                  refine z_icmp_ne (tgt := 221) C d_M_advance_206 (by decide) (fun c_206 => ?_) (fun c_206 => ?_)
                  · have c_206 : ¬ (xln i0) = 41 := fun q => c_206 (congrArg nI q)
                    have hat : (isD (cs.getD i0 0) ∧ wth cs (dgs cs 32 i0 - i0) 0 i0 ≤ 99999 ∨ cs.getD i0 0 = 120 ∨ cs.getD i0 0 = 37 ∧ wth cs (dgs cs 32 (i0 + 1) - (i0 + 1)) 0 (i0 + 1) ≤ 99 ∨ isNm (cs.getD i0 0)) ∧ raiOK cs (m_atom cs fs nb i0).1 := by
                      rcases a5 with q | q | q | q | q | q | q | q | q | q
                      all_goals first | exact q | (exfalso; omega)
                    have hle := atom_le (fs := fs) (nb := nb) hi0
                    refine z_aload_n C d_M_advance_221 rfl rfl ?_
                    refine z_iload_n C d_M_advance_222 rfl rfl ?_
                    refine z_callV (rest := []) (n := 1) (As := [.int (nI i0)]) C (m_atom1 E X.2.1 sz _ H R hR htr (by omega) hkd cs hlen h32 hln hch fs nb hlab h40 hfs hbf i0 hi0 hat.1) ⟨z_cb C k_M_atom ml_M_186 ii_M rfl rfl (by decide +kernel) ⟨by decide, by decide⟩, C.2.2.2.2.1 _ im_M_atom, C.2.2.2.2.1 _ se_M_atom⟩ H.1 rfl rfl rfl (Nat.le_of_ble_eq_true rfl) d_M_advance_223 ⟨by decide, by decide⟩ ?_
                    intro v_223 s_223 M_223 hp_223
                    obtain ⟨rfl, rfl, ho_223, lev_223, tr_223, F_223, G_223, P_223, Q_223, mm_223, sl_223, kd_223, hs_223, ht_223, sg_223, dv_223, H_223, hk_223, hkd_223, hlv_223, hr_223⟩ := hp_223
                    have hz_223 : zoutR M M_223 m (m + 15) := zoutR_tr zoutR_rf ho_223
                    rcases er_223 : m_put (m_atom cs fs nb i0).2 (R, xlev, xkd, xhs, xht, xsg, xdv) with t_223 | y_223
                    · rw [er_223] at hr_223
                      obtain ⟨rfl, hne_223⟩ := hr_223
                      show Z _ _ _ _ _ _ _ _ 226 _ [.int (nI (m_atom cs fs nb i0).1)]
                      refine z_istore_n (L' := [(0, .ref m), (1, .int (nI i0)), (2, .int (nI (xln i0))), (3, .int (nI (m_atom cs fs nb i0).1))]) C d_M_advance_226 rfl (by decide) rfl ?_
                      refine z_aload_n C d_M_advance_227 rfl rfl ?_
                      refine z_iload_n C d_M_advance_228 rfl rfl ?_
                      refine z_callV (rest := []) (n := 1) (As := [.int (nI (m_atom cs fs nb i0).1)]) C (m_raiseT E X.2.1 sz _ H_223 hne_223 cs hlen h32 hln hch (m_atom cs fs nb i0).1 hle hat.2) ⟨z_cb C k_M_raise ml_M_183 ii_M rfl rfl (by decide +kernel) ⟨by decide, by decide⟩, C.2.2.2.2.1 _ im_M_raise, C.2.2.2.2.1 _ se_M_raise⟩ H_223.1 rfl rfl rfl (Nat.le_of_ble_eq_true rfl) d_M_advance_229 ⟨by decide, by decide⟩ ?_
                      intro v_229 s_229 M_229 hp_229
                      obtain ⟨rfl, rfl, rfl⟩ := hp_229
                      show Z _ _ _ _ _ _ _ _ 232 _ [.int (nI (m_end cs (m_atom cs fs nb i0).1))]
                      have ea : (m_adv cs fs nb i0 (R, xlev, xkd, xhs, xht, xsg, xdv)) = (m_end cs (m_atom cs fs nb i0).1, .inl tr_223) := by
                        rw [m_adv_eq]
                        rw [if_neg (by omega), if_neg (by omega), if_neg (by omega), if_neg (by omega), if_neg (by omega), er_223]; rfl
                      exact z_iret C ⟨by rw [ea], rfl, hz_223, lev_223, tr_223, F_223, G_223, P_223, Q_223, mm_223, sl_223, kd_223, hs_223, ht_223, sg_223, dv_223, H_223, hk_223, hkd_223, hlv_223, by rw [ea]; exact ⟨rfl, hne_223⟩⟩ d_M_advance_232
                    · rw [er_223] at hr_223
                      obtain ⟨rfl, ey_223, hR0_223⟩ := hr_223
                      obtain ⟨R_223, y2_223⟩ := y_223
                      have ey_223 : y2_223 = (lev_223, kd_223, hs_223, ht_223, sg_223, dv_223) := ey_223
                      subst ey_223
                      have hR_223 : relR R_223 F_223 G_223 := hR0_223
                      rcases ef : (m_atom cs fs nb i0).2 with t9 | f9
                      · rw [ef] at er_223; cases er_223
                      rw [ef] at er_223
                      have e9 := Sum.inr.inj er_223
                      simp only [Prod.mk.injEq] at e9
                      obtain ⟨rfl, rfl, rfl, rfl, rfl, rfl, rfl⟩ := e9
                      have of := atom_ok hfo ef
                      have er_223 : m_put (m_atom cs fs nb i0).2 (R, xlev, xkd, xhs, xht, xsg, xdv) = .inr (updR R 71 f9, xlev, xkd, xhs, xht, xsg, xdv) := by rw [ef]; rfl
                      show Z _ _ _ _ _ _ _ _ 226 _ [.int (nI (m_atom cs fs nb i0).1)]
                      refine z_istore_n (L' := [(0, .ref m), (1, .int (nI i0)), (2, .int (nI (xln i0))), (3, .int (nI (m_atom cs fs nb i0).1))]) C d_M_advance_226 rfl (by decide) rfl ?_
                      refine z_aload_n C d_M_advance_227 rfl rfl ?_
                      refine z_iload_n C d_M_advance_228 rfl rfl ?_
                      refine z_callV (rest := []) (n := 1) (As := [.int (nI (m_atom cs fs nb i0).1)]) C (m_raise E X.2.1 sz _ H_223 (updR R 71 f9) hR_223 rfl (by omega) hkd cs hlen h32 hln hch (m_atom cs fs nb i0).1 hle hat.2 (by omega) (b3 (by omega)) (by rw [updR_eq]; exact of) (fun q => by rw [updR_ne (by omega)]; exact a21 q)) ⟨z_cb C k_M_raise ml_M_183 ii_M rfl rfl (by decide +kernel) ⟨by decide, by decide⟩, C.2.2.2.2.1 _ im_M_raise, C.2.2.2.2.1 _ se_M_raise⟩ H_223.1 rfl rfl rfl (Nat.le_of_ble_eq_true rfl) d_M_advance_229 ⟨by decide, by decide⟩ ?_
                      intro v_229 s_229 M_229 hp_229
                      obtain ⟨rfl, rfl, ho_229, lev_229, tr_229, F_229, G_229, P_229, Q_229, mm_229, sl_229, kd_229, hs_229, ht_229, sg_229, dv_229, H_229, hk_229, hkd_229, hlv_229, hr_229⟩ := hp_229
                      have hz_229 : zoutR M M_229 m (m + 15) := zoutR_tr hz_223 ho_229
                      show Z _ _ _ _ _ _ _ _ 232 _ [.int (nI (m_end cs (m_atom cs fs nb i0).1))]
                      have ea : (m_adv cs fs nb i0 (R, xlev, xkd, xhs, xht, xsg, xdv)) = (m_end cs (m_atom cs fs nb i0).1, (m_rai cs (m_atom cs fs nb i0).1 (.inr (updR R 71 f9, xlev, xkd, xhs, xht, xsg, xdv))).2) := by
                        rw [m_adv_eq]
                        rw [if_neg (by omega), if_neg (by omega), if_neg (by omega), if_neg (by omega), if_neg (by omega), er_223]; rfl
                      exact z_iret C ⟨by rw [ea], rfl, hz_229, lev_229, tr_229, F_229, G_229, P_229, Q_229, mm_229, sl_229, kd_229, hs_229, ht_229, sg_229, dv_229, H_229, fun q hq => ⟨by rw [(hk_229 q hq).1]; exact (hk_223 q hq).1, by rw [(hk_229 q hq).2]; exact (hk_223 q hq).2⟩, hkd_229, hlv_229, by rw [ea]; exact hr_229⟩ d_M_advance_232
                  · have c_206 : (xln i0) = 41 := (nI_eq (a := (xln i0)) (b := 41) (by omega) (by omega)).mp c_206
                    have hcl := a4 (by omega)
                    have hra : raiOK cs (i0 + 1) := by
                      rcases a5 with q | q | q | q | q | q | q | q | q | q
                      all_goals first | exact q.2 | (exfalso; omega)
                    refine z_aload_n C d_M_advance_209 rfl rfl ?_
                    refine z_callV (rest := []) (n := 0) (As := []) C (m_closed E X.2.1 sz _ H R hR htr (by omega) hkd hcl.2 (by omega) a24 (a21 hcl.1) a22 a23) ⟨z_cb C k_M_closed ml_M_180 ii_M rfl rfl (by decide +kernel) ⟨by decide, by decide⟩, C.2.2.2.2.1 _ im_M_closed, C.2.2.2.2.1 _ se_M_closed⟩ H.1 rfl rfl rfl (Nat.le_of_ble_eq_true rfl) d_M_advance_210 ⟨by decide, by decide⟩ ?_
                    intro v_210 s_210 M_210 hp_210
                    obtain ⟨rfl, rfl, ho_210, lev_210, tr_210, F_210, G_210, P_210, Q_210, mm_210, sl_210, kd_210, hs_210, ht_210, sg_210, dv_210, H_210, hk_210, hkd_210, hlv_210, hr_210⟩ := hp_210
                    have hz_210 : zoutR M M_210 m (m + 15) := zoutR_tr zoutR_rf ho_210
                    rcases er_210 : m_clo (R, xlev, xkd, xhs, xht, xsg, xdv) with t_210 | y_210
                    · rw [er_210] at hr_210
                      obtain ⟨rfl, hne_210⟩ := hr_210
                      show Z _ _ _ _ _ _ _ _ 213 _ []
                      refine z_aload_n C d_M_advance_213 rfl rfl ?_
                      refine z_iload_n C d_M_advance_214 rfl rfl ?_
                      refine z_iconst (v := nI 1) C d_M_advance_215 (by decide) ?_
                      refine z_iadd C d_M_advance_216 ?_
                      refine z_top (y := nI (i0 + 1)) (nI_add _ _) ?_
                      refine z_callV (rest := []) (n := 1) (As := [.int (nI (i0 + 1))]) C (m_raiseT E X.2.1 sz _ H_210 hne_210 cs hlen h32 hln hch (i0 + 1) (by omega) hra) ⟨z_cb C k_M_raise ml_M_183 ii_M rfl rfl (by decide +kernel) ⟨by decide, by decide⟩, C.2.2.2.2.1 _ im_M_raise, C.2.2.2.2.1 _ se_M_raise⟩ H_210.1 rfl rfl rfl (Nat.le_of_ble_eq_true rfl) d_M_advance_217 ⟨by decide, by decide⟩ ?_
                      intro v_217 s_217 M_217 hp_217
                      obtain ⟨rfl, rfl, rfl⟩ := hp_217
                      show Z _ _ _ _ _ _ _ _ 220 _ [.int (nI (m_end cs (i0 + 1)))]
                      have ea : (m_adv cs fs nb i0 (R, xlev, xkd, xhs, xht, xsg, xdv)) = (m_end cs (i0 + 1), .inl tr_210) := by
                        rw [m_adv_eq]
                        rw [if_neg (by omega), if_neg (by omega), if_neg (by omega), if_neg (by omega), if_pos (by omega), er_210]; rfl
                      exact z_iret C ⟨by rw [ea], rfl, hz_210, lev_210, tr_210, F_210, G_210, P_210, Q_210, mm_210, sl_210, kd_210, hs_210, ht_210, sg_210, dv_210, H_210, hk_210, hkd_210, hlv_210, by rw [ea]; exact ⟨rfl, hne_210⟩⟩ d_M_advance_220
                    · rw [er_210] at hr_210
                      obtain ⟨rfl, ey_210, hR0_210⟩ := hr_210
                      obtain ⟨R_210, y2_210⟩ := y_210
                      have ey_210 : y2_210 = (lev_210, kd_210, hs_210, ht_210, sg_210, dv_210) := ey_210
                      subst ey_210
                      have hR_210 : relR R_210 F_210 G_210 := hR0_210
                      obtain ⟨c1, c2, c3, c4, c5, c6⟩ := m_clo_st hcl.2 hlev (a21 hcl.1) a22 a23 a24 er_210
                      have d1 := b1 lev_210 (by omega)
                      have d2 := b2 lev_210 (by omega)
                      have d3 := (a2 lev_210 (by omega)).1
                      show Z _ _ _ _ _ _ _ _ 213 _ []
                      refine z_aload_n C d_M_advance_213 rfl rfl ?_
                      refine z_iload_n C d_M_advance_214 rfl rfl ?_
                      refine z_iconst (v := nI 1) C d_M_advance_215 (by decide) ?_
                      refine z_iadd C d_M_advance_216 ?_
                      refine z_top (y := nI (i0 + 1)) (nI_add _ _) ?_
                      refine z_callV (rest := []) (n := 1) (As := [.int (nI (i0 + 1))]) C (m_raise E X.2.1 sz _ H_210 R_210 hR_210 rfl (by omega) hkd_210 cs hlen h32 hln hch (i0 + 1) (by omega) hra (by rw [c3]; exact d1.2) (by rw [c3, c4]; exact d2) c2 (by rw [c3, c5]; exact d3)) ⟨z_cb C k_M_raise ml_M_183 ii_M rfl rfl (by decide +kernel) ⟨by decide, by decide⟩, C.2.2.2.2.1 _ im_M_raise, C.2.2.2.2.1 _ se_M_raise⟩ H_210.1 rfl rfl rfl (Nat.le_of_ble_eq_true rfl) d_M_advance_217 ⟨by decide, by decide⟩ ?_
                      intro v_217 s_217 M_217 hp_217
                      obtain ⟨rfl, rfl, ho_217, lev_217, tr_217, F_217, G_217, P_217, Q_217, mm_217, sl_217, kd_217, hs_217, ht_217, sg_217, dv_217, H_217, hk_217, hkd_217, hlv_217, hr_217⟩ := hp_217
                      have hz_217 : zoutR M M_217 m (m + 15) := zoutR_tr hz_210 ho_217
                      show Z _ _ _ _ _ _ _ _ 220 _ [.int (nI (m_end cs (i0 + 1)))]
                      have ea : (m_adv cs fs nb i0 (R, xlev, xkd, xhs, xht, xsg, xdv)) = (m_end cs (i0 + 1), (m_rai cs (i0 + 1) (.inr (R_210, lev_210, kd_210, hs_210, ht_210, sg_210, dv_210))).2) := by
                        rw [m_adv_eq]
                        rw [if_neg (by omega), if_neg (by omega), if_neg (by omega), if_neg (by omega), if_pos (by omega), er_210]; rfl
                      exact z_iret C ⟨by rw [ea], rfl, hz_217, lev_217, tr_217, F_217, G_217, P_217, Q_217, mm_217, sl_217, kd_217, hs_217, ht_217, sg_217, dv_217, H_217, fun q hq => ⟨by rw [(hk_217 q hq).1]; exact (hk_210 q hq).1, by rw [(hk_217 q hq).2]; exact (hk_210 q hq).2⟩, hkd_217, hlv_217, by rw [ea]; exact hr_217⟩ d_M_advance_220
                · have c_169 : (xln i0) = 44 := (nI_eq (a := (xln i0)) (b := 44) (by omega) (by omega)).mp c_169
                  have hcm := a4 (by omega)
                  refine z_aload_n C d_M_advance_172 rfl rfl ?_
                  refine z_callV (rest := []) (n := 0) (As := []) C (m_term E X.2.1 sz _ H R hR htr (by omega) hkd (by omega) a24 (by have h9 := (a21 hcm.1).1; rw [hR _ (by omega)] at h9; exact h9) (fun q => by have h9 := (a22 q).1; rw [hR _ (by omega)] at h9; exact h9)) ⟨z_cb C k_M_term ml_M_152 ii_M rfl rfl (by decide +kernel) ⟨by decide, by decide⟩, C.2.2.2.2.1 _ im_M_term, C.2.2.2.2.1 _ se_M_term⟩ H.1 rfl rfl rfl (Nat.le_of_ble_eq_true rfl) d_M_advance_173 ⟨by decide, by decide⟩ ?_
                  intro v_173 s_173 M_173 hp_173
                  obtain ⟨rfl, rfl, ho_173, lev_173, tr_173, F_173, G_173, P_173, Q_173, mm_173, sl_173, kd_173, hs_173, ht_173, sg_173, dv_173, H_173, hk_173, hkd_173, hlv_173, hr_173⟩ := hp_173
                  have hz_173 : zoutR M M_173 m (m + 15) := zoutR_tr zoutR_rf ho_173
                  rcases er_173 : m_trm (R, xlev, xkd, xhs, xht, xsg, xdv) with t_173 | y_173
                  · rw [er_173] at hr_173
                    obtain ⟨rfl, hne_173⟩ := hr_173
                    show Z _ _ _ _ _ _ _ _ 176 _ []
                    refine z_aload_n C d_M_advance_176 rfl rfl ?_
                    refine z_bipush (v := nI 44) C d_M_advance_177 (by decide) ?_
                    refine z_aload_n C d_M_advance_179 rfl rfl ?_
                    refine z_get C in_M H_173.1 rfl 4 (by decide) fl_M_85 rfl rfl d_M_advance_180 ?_
                    refine z_iadd C d_M_advance_183 ?_
                    refine z_top (y := nI (44 + lev_173)) (nI_add _ _) ?_
                    refine z_bipush (v := nI 62) C d_M_advance_184 (by decide) ?_
                    refine z_aload_n C d_M_advance_186 rfl rfl ?_
                    refine z_get C in_M H_173.1 rfl 4 (by decide) fl_M_85 rfl rfl d_M_advance_187 ?_
                    refine z_iadd C d_M_advance_190 ?_
                    refine z_top (y := nI (62 + lev_173)) (nI_add _ _) ?_
                    refine z_callV (rest := []) (n := 2) (As := [.int (nI (44 + lev_173)), .int (nI (62 + lev_173))]) C (m_copy E X.2.1 sz _ H_173 (44 + lev_173) (62 + lev_173) (by omega) (by omega) (by omega)) ⟨z_cb C k_M_copy ml_M_137 ii_M rfl rfl (by decide +kernel) ⟨by decide, by decide⟩, C.2.2.2.2.1 _ im_M_copy, C.2.2.2.2.1 _ se_M_copy⟩ H_173.1 rfl rfl rfl (Nat.le_of_ble_eq_true rfl) d_M_advance_191 ⟨by decide, by decide⟩ ?_
                    intro v_191 s_191 M_191 hp_191
                    obtain ⟨rfl, rfl, ho_191, H_191⟩ := hp_191
                    have hz_191 : zoutR M M_191 m (m + 15) := zoutR_tr hz_173 ho_191
                    show Z _ _ _ _ _ _ _ _ 194 _ []
                    refine z_aload_n C d_M_advance_194 rfl rfl ?_
                    refine z_iconst (v := nI 4) C d_M_advance_195 (by decide) ?_
                    refine z_callV (rest := []) (n := 1) (As := [.int (nI 4)]) C (m_start E X.2.1 sz _ H_191 4 (by omega)) ⟨z_cb C k_M_start ml_M_177 ii_M rfl rfl (by decide +kernel) ⟨by decide, by decide⟩, C.2.2.2.2.1 _ im_M_start, C.2.2.2.2.1 _ se_M_start⟩ H_191.1 rfl rfl rfl (Nat.le_of_ble_eq_true rfl) d_M_advance_196 ⟨by decide, by decide⟩ ?_
                    intro v_196 s_196 M_196 hp_196
                    obtain ⟨rfl, rfl, ho_196, H_196⟩ := hp_196
                    have hz_196 : zoutR M M_196 m (m + 15) := zoutR_tr hz_191 ho_196
                    show Z _ _ _ _ _ _ _ _ 199 _ []
                    refine z_iload_n C d_M_advance_199 rfl rfl ?_
                    refine z_iconst (v := nI 1) C d_M_advance_200 (by decide) ?_
                    refine z_iadd C d_M_advance_201 ?_
                    refine z_top (y := nI (i0 + 1)) (nI_add _ _) ?_
                    have ea : (m_adv cs fs nb i0 (R, xlev, xkd, xhs, xht, xsg, xdv)) = (i0 + 1, .inl tr_173) := by
                      rw [m_adv_eq]
                      rw [if_neg (by omega), if_neg (by omega), if_neg (by omega), if_pos (by omega), er_173]; rfl
                    refine z_iret C ⟨by rw [ea], rfl, hz_196, lev_173, tr_173, (cpF F_173 (44 + lev_173) (62 + lev_173) 13), (cpF G_173 (44 + lev_173) (62 + lev_173) 13), P_173, Q_173, mm_173, sl_173, (updN kd_173 lev_173 4), (updN hs_173 lev_173 0), (updN ht_173 lev_173 0), (updN sg_173 lev_173 1), (updN dv_173 lev_173 0), H_196, fun q hq => ⟨by rw [pg_cp, if_neg (by omega)]; exact (hk_173 q hq).1, by rw [pg_cp, if_neg (by omega)]; exact (hk_173 q hq).2⟩, updN_b hkd_173 (by decide), by omega, ?_⟩ d_M_advance_202
                    rw [ea]
                    exact ⟨rfl, hne_173⟩
                  · rw [er_173] at hr_173
                    obtain ⟨rfl, ey_173, hR0_173⟩ := hr_173
                    obtain ⟨R_173, y2_173⟩ := y_173
                    have ey_173 : y2_173 = (lev_173, kd_173, hs_173, ht_173, sg_173, dv_173) := ey_173
                    subst ey_173
                    have hR_173 : relR R_173 F_173 G_173 := hR0_173
                    have et := m_trm_st er_173
                    obtain ⟨rfl, rfl, -⟩ := et
                    show Z _ _ _ _ _ _ _ _ 176 _ []
                    refine z_aload_n C d_M_advance_176 rfl rfl ?_
                    refine z_bipush (v := nI 44) C d_M_advance_177 (by decide) ?_
                    refine z_aload_n C d_M_advance_179 rfl rfl ?_
                    refine z_get C in_M H_173.1 rfl 4 (by decide) fl_M_85 rfl rfl d_M_advance_180 ?_
                    refine z_iadd C d_M_advance_183 ?_
                    refine z_top (y := nI (44 + xlev)) (nI_add _ _) ?_
                    refine z_bipush (v := nI 62) C d_M_advance_184 (by decide) ?_
                    refine z_aload_n C d_M_advance_186 rfl rfl ?_
                    refine z_get C in_M H_173.1 rfl 4 (by decide) fl_M_85 rfl rfl d_M_advance_187 ?_
                    refine z_iadd C d_M_advance_190 ?_
                    refine z_top (y := nI (62 + xlev)) (nI_add _ _) ?_
                    refine z_callV (rest := []) (n := 2) (As := [.int (nI (44 + xlev)), .int (nI (62 + xlev))]) C (m_copy E X.2.1 sz _ H_173 (44 + xlev) (62 + xlev) (by omega) (by omega) (by omega)) ⟨z_cb C k_M_copy ml_M_137 ii_M rfl rfl (by decide +kernel) ⟨by decide, by decide⟩, C.2.2.2.2.1 _ im_M_copy, C.2.2.2.2.1 _ se_M_copy⟩ H_173.1 rfl rfl rfl (Nat.le_of_ble_eq_true rfl) d_M_advance_191 ⟨by decide, by decide⟩ ?_
                    intro v_191 s_191 M_191 hp_191
                    obtain ⟨rfl, rfl, ho_191, H_191⟩ := hp_191
                    have hz_191 : zoutR M M_191 m (m + 15) := zoutR_tr hz_173 ho_191
                    show Z _ _ _ _ _ _ _ _ 194 _ []
                    refine z_aload_n C d_M_advance_194 rfl rfl ?_
                    refine z_iconst (v := nI 4) C d_M_advance_195 (by decide) ?_
                    refine z_callV (rest := []) (n := 1) (As := [.int (nI 4)]) C (m_start E X.2.1 sz _ H_191 4 (by omega)) ⟨z_cb C k_M_start ml_M_177 ii_M rfl rfl (by decide +kernel) ⟨by decide, by decide⟩, C.2.2.2.2.1 _ im_M_start, C.2.2.2.2.1 _ se_M_start⟩ H_191.1 rfl rfl rfl (Nat.le_of_ble_eq_true rfl) d_M_advance_196 ⟨by decide, by decide⟩ ?_
                    intro v_196 s_196 M_196 hp_196
                    obtain ⟨rfl, rfl, ho_196, H_196⟩ := hp_196
                    have hz_196 : zoutR M M_196 m (m + 15) := zoutR_tr hz_191 ho_196
                    show Z _ _ _ _ _ _ _ _ 199 _ []
                    refine z_iload_n C d_M_advance_199 rfl rfl ?_
                    refine z_iconst (v := nI 1) C d_M_advance_200 (by decide) ?_
                    refine z_iadd C d_M_advance_201 ?_
                    refine z_top (y := nI (i0 + 1)) (nI_add _ _) ?_
                    have ea : (m_adv cs fs nb i0 (R, xlev, xkd, xhs, xht, xsg, xdv)) = (i0 + 1, .inr (m_sta 4 (m_cpy (R_173, xlev, xkd, hs_173, ht_173, sg_173, dv_173)))) := by
                      rw [m_adv_eq]
                      rw [if_neg (by omega), if_neg (by omega), if_neg (by omega), if_pos (by omega), er_173]; rfl
                    refine z_iret C ⟨by rw [ea], rfl, hz_196, xlev, 0, (cpF F_173 (44 + xlev) (62 + xlev) 13), (cpF G_173 (44 + xlev) (62 + xlev) 13), P_173, Q_173, mm_173, sl_173, (updN xkd xlev 4), (updN hs_173 xlev 0), (updN ht_173 xlev 0), (updN sg_173 xlev 1), (updN dv_173 xlev 0), H_196, fun q hq => ⟨by rw [pg_cp, if_neg (by omega)]; exact (hk_173 q hq).1, by rw [pg_cp, if_neg (by omega)]; exact (hk_173 q hq).2⟩, updN_b hkd_173 (by decide), by omega, ?_⟩ d_M_advance_202
                    rw [ea]
                    exact ⟨rfl, rfl, relR_u hR_173 (fun q hq => ⟨by rw [pg_cp, if_neg hq.2], by rw [pg_cp, if_neg hq.2]⟩) (by rw [pg_cp, if_pos rfl, hR_173 _ (by omega)]) (by rw [pg_cp, if_pos rfl, hR_173 _ (by omega)])⟩
              · have c_139 : (xln i0) = 47 := (nI_eq (a := (xln i0)) (b := 47) (by omega) (by omega)).mp c_139
                exact mul (by omega)
          · have c_85 : (xln i0) = 45 := (nI_eq (a := (xln i0)) (b := 45) (by omega) (by omega)).mp c_85
            exact sgn (by omega)
      · have c_22 : (xln i0) = 115 := (nI_eq (a := (xln i0)) (b := 115) (by omega) (by omega)).mp c_22
        exact opn (by omega)
