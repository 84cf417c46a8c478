abbrev kwZ (y : Int32) : Prop := (48 ≤ y.toInt ∧ y.toInt ≤ 57) ∨ (97 ≤ y.toInt ∧ y.toInt ≤ 99) ∨ y.toInt = 120 ∨ y.toInt = 100 ∨ y.toInt = 115 ∨ y.toInt = 37 ∨ y.toInt = 94 ∨ y.toInt = 58 ∨ (40 ≤ y.toInt ∧ y.toInt ≤ 45) ∨ y.toInt = 47
theorem may_fin : (List.range 128).all (fun c => decide (((48 ≤ c ∧ c ≤ 57) ∨ (97 ≤ c ∧ c ≤ 99) ∨ c = 120 ∨ c = 100 ∨ c = 115 ∨ c = 37 ∨ c = 94 ∨ c = 58 ∨ (40 ≤ c ∧ c ≤ 45) ∨ c = 47) ↔ ((List.range 26).any (fun j => decide (zBy.getD j 0 = nI c)) = true))) = true := by decide +kernel
theorem kw_may {y : Int32} : kwZ y ↔ ∃ c : Nat, c < 128 ∧ y = nI c ∧ mayH c := by
  have key : ∀ c : Nat, c < 128 → (((48 ≤ c ∧ c ≤ 57) ∨ (97 ≤ c ∧ c ≤ 99) ∨ c = 120 ∨ c = 100 ∨ c = 115 ∨ c = 37 ∨ c = 94 ∨ c = 58 ∨ (40 ≤ c ∧ c ≤ 45) ∨ c = 47) ↔ mayH c) := by
    intro c hc
    have h := of_decide_eq_true (List.all_eq_true.mp may_fin c (List.mem_range.mpr hc))
    rw [h]
    unfold mayH
    rw [List.any_eq_true]
    constructor
    · rintro ⟨j, h1, h2⟩
      exact ⟨j, List.mem_range.mp h1, of_decide_eq_true h2⟩
    · rintro ⟨j, h1, h2⟩
      exact ⟨j, List.mem_range.mpr h1, decide_eq_true h2⟩
  constructor
  · intro h
    have hc : y = nI y.toInt.toNat := (xi_eq (by omega)).mpr (by omega)
    exact ⟨y.toInt.toNat, by omega, hc, (key _ (by omega)).mp (by omega)⟩
  · rintro ⟨c, hc, rfl, hm⟩
    have := (key c hc).mpr hm
    unfold kwZ
    rw [nI_toInt (by omega)]
    omega
set_option maxHeartbeats 4000000 in
/-- M_known -/
theorem m_known (E : zE) (l : Launch) (sz : Nat) (M : zM) {m : Nat} {xln : Nat → Nat} {xlen : Nat} {xlab : Nat} {xbad : Int32} {xlev : Nat} {xtr : Int32} {xwa : Nat} {xpl : Nat} {xfo : Nat} {xsf : Nat → Nat} {xbf : Nat → Nat} {xF : Nat → FF} {xG : Nat → FF} {xP : Nat → FF} {xQ : Nat → FF} {xmm : Nat → FF} {xsl : Nat → Nat} {xkd : Nat → Nat} {xhs : Nat → Nat} {xht : Nat → Nat} {xsg : Nat → Nat} {xdv : Nat → Nat} (H : mw E M m xln xlen xlab xbad xlev xtr xwa xpl xfo xsf xbf xF xG xP xQ xmm xsl xkd xhs xht xsg xdv) (y : Int32) : zMet E l y_M_known c_M_known 2 (some .boolean) { frames := 1, cells := 0, slots := 0, locals := 21 } 0 0 [.ref m, .int y] sz M (zRet (some (.int (nI (b01 (kwZ y))))) sz M) := by
  refine zMet.ofZ (by decide) (Nat.le_of_ble_eq_true rfl) ?_
  intro X hl hini C
  show Z X E 2 _ 0 0 sz M 0 [(0, .ref m), (1, .int y)] []
  refine z_aload_n C d_M_known_0 rfl rfl ?_
  refine z_iload_n C d_M_known_1 rfl rfl ?_
  refine z_callV (rest := []) (n := 1) (As := [.int y]) C (m_digit E X.2.1 sz _ H y) ⟨z_cb C k_M_digit ml_M_57 ii_M rfl rfl (by decide +kernel) ⟨by decide, by decide⟩, C.2.2.2.2.1 _ im_M_digit, C.2.2.2.2.1 _ se_M_digit⟩ H.1 rfl rfl rfl (Nat.le_of_ble_eq_true rfl) d_M_known_2 ⟨by decide, by decide⟩ ?_
  intro v_2 s_2 M_2 hp_2
  obtain ⟨rfl, rfl, rfl⟩ := hp_2
  show Z _ _ _ _ _ _ _ _ 5 _ [.int (nI (b01 (48 ≤ y.toInt ∧ y.toInt ≤ 57)))]
  refine z_if_ne (tgt := 70) C d_M_known_5 (by decide) (fun c_5 => ?_) (fun c_5 => ?_)
  · have c_5 : (48 ≤ y.toInt ∧ y.toInt ≤ 57) := b01_ne c_5
    refine z_iconst (v := nI 1) C d_M_known_70 (by decide) ?_
    refine z_goto (tgt := 75) C d_M_known_71 (by decide) ?_
    exact z_zret C (by first | rfl | decide) ⟨by rw [b01_t (by omega)], rfl, rfl⟩ d_M_known_75
  · have c_5 : ¬ (48 ≤ y.toInt ∧ y.toInt ≤ 57) := b01_z c_5
    refine z_aload_n C d_M_known_8 rfl rfl ?_
    refine z_iload_n C d_M_known_9 rfl rfl ?_
    refine z_callV (rest := []) (n := 1) (As := [.int y]) C (m_name E X.2.1 sz _ H y) ⟨z_cb C k_M_name ml_M_61 ii_M rfl rfl (by decide +kernel) ⟨by decide, by decide⟩, C.2.2.2.2.1 _ im_M_name, C.2.2.2.2.1 _ se_M_name⟩ H.1 rfl rfl rfl (Nat.le_of_ble_eq_true rfl) d_M_known_10 ⟨by decide, by decide⟩ ?_
    intro v_10 s_10 M_10 hp_10
    obtain ⟨rfl, rfl, rfl⟩ := hp_10
    show Z _ _ _ _ _ _ _ _ 13 _ [.int (nI (b01 (97 ≤ y.toInt ∧ y.toInt ≤ 99)))]
    refine z_if_ne (tgt := 70) C d_M_known_13 (by decide) (fun c_13 => ?_) (fun c_13 => ?_)
    · have c_13 : (97 ≤ y.toInt ∧ y.toInt ≤ 99) := b01_ne c_13
      refine z_iconst (v := nI 1) C d_M_known_70 (by decide) ?_
      refine z_goto (tgt := 75) C d_M_known_71 (by decide) ?_
      exact z_zret C (by first | rfl | decide) ⟨by rw [b01_t (by omega)], rfl, rfl⟩ d_M_known_75
    · have c_13 : ¬ (97 ≤ y.toInt ∧ y.toInt ≤ 99) := b01_z c_13
      refine z_iload_n C d_M_known_16 rfl rfl ?_
      refine z_bipush (v := nI 120) C d_M_known_17 (by decide) ?_
      refine z_icmp_eq (tgt := 70) C d_M_known_19 (by decide) (fun c_19 => ?_) (fun c_19 => ?_)
      · have c_19 : y.toInt = ((120 : Nat) : Int) := (xi_eq (x := y) (k := 120) (by omega)).mp c_19
        refine z_iconst (v := nI 1) C d_M_known_70 (by decide) ?_
        refine z_goto (tgt := 75) C d_M_known_71 (by decide) ?_
        exact z_zret C (by first | rfl | decide) ⟨by rw [b01_t (by omega)], rfl, rfl⟩ d_M_known_75
      · have c_19 : ¬ y.toInt = ((120 : Nat) : Int) := fun q => c_19 ((xi_eq (x := y) (k := 120) (by omega)).mpr q)
        refine z_iload_n C d_M_known_22 rfl rfl ?_
        refine z_bipush (v := nI 100) C d_M_known_23 (by decide) ?_
        refine z_icmp_eq (tgt := 70) C d_M_known_25 (by decide) (fun c_25 => ?_) (fun c_25 => ?_)
        · have c_25 : y.toInt = ((100 : Nat) : Int) := (xi_eq (x := y) (k := 100) (by omega)).mp c_25
          refine z_iconst (v := nI 1) C d_M_known_70 (by decide) ?_
          refine z_goto (tgt := 75) C d_M_known_71 (by decide) ?_
          exact z_zret C (by first | rfl | decide) ⟨by rw [b01_t (by omega)], rfl, rfl⟩ d_M_known_75
        · have c_25 : ¬ y.toInt = ((100 : Nat) : Int) := fun q => c_25 ((xi_eq (x := y) (k := 100) (by omega)).mpr q)
          refine z_iload_n C d_M_known_28 rfl rfl ?_
          refine z_bipush (v := nI 115) C d_M_known_29 (by decide) ?_
          refine z_icmp_eq (tgt := 70) C d_M_known_31 (by decide) (fun c_31 => ?_) (fun c_31 => ?_)
          · have c_31 : y.toInt = ((115 : Nat) : Int) := (xi_eq (x := y) (k := 115) (by omega)).mp c_31
            refine z_iconst (v := nI 1) C d_M_known_70 (by decide) ?_
            refine z_goto (tgt := 75) C d_M_known_71 (by decide) ?_
            exact z_zret C (by first | rfl | decide) ⟨by rw [b01_t (by omega)], rfl, rfl⟩ d_M_known_75
          · have c_31 : ¬ y.toInt = ((115 : Nat) : Int) := fun q => c_31 ((xi_eq (x := y) (k := 115) (by omega)).mpr q)
            refine z_iload_n C d_M_known_34 rfl rfl ?_
            refine z_bipush (v := nI 37) C d_M_known_35 (by decide) ?_
            refine z_icmp_eq (tgt := 70) C d_M_known_37 (by decide) (fun c_37 => ?_) (fun c_37 => ?_)
            · have c_37 : y.toInt = ((37 : Nat) : Int) := (xi_eq (x := y) (k := 37) (by omega)).mp c_37
              refine z_iconst (v := nI 1) C d_M_known_70 (by decide) ?_
              refine z_goto (tgt := 75) C d_M_known_71 (by decide) ?_
              exact z_zret C (by first | rfl | decide) ⟨by rw [b01_t (by omega)], rfl, rfl⟩ d_M_known_75
            · have c_37 : ¬ y.toInt = ((37 : Nat) : Int) := fun q => c_37 ((xi_eq (x := y) (k := 37) (by omega)).mpr q)
              refine z_iload_n C d_M_known_40 rfl rfl ?_
              refine z_bipush (v := nI 94) C d_M_known_41 (by decide) ?_
              refine z_icmp_eq (tgt := 70) C d_M_known_43 (by decide) (fun c_43 => ?_) (fun c_43 => ?_)
              · have c_43 : y.toInt = ((94 : Nat) : Int) := (xi_eq (x := y) (k := 94) (by omega)).mp c_43
                refine z_iconst (v := nI 1) C d_M_known_70 (by decide) ?_
                refine z_goto (tgt := 75) C d_M_known_71 (by decide) ?_
                exact z_zret C (by first | rfl | decide) ⟨by rw [b01_t (by omega)], rfl, rfl⟩ d_M_known_75
              · have c_43 : ¬ y.toInt = ((94 : Nat) : Int) := fun q => c_43 ((xi_eq (x := y) (k := 94) (by omega)).mpr q)
                refine z_iload_n C d_M_known_46 rfl rfl ?_
                refine z_bipush (v := nI 58) C d_M_known_47 (by decide) ?_
                refine z_icmp_eq (tgt := 70) C d_M_known_49 (by decide) (fun c_49 => ?_) (fun c_49 => ?_)
                · have c_49 : y.toInt = ((58 : Nat) : Int) := (xi_eq (x := y) (k := 58) (by omega)).mp c_49
                  refine z_iconst (v := nI 1) C d_M_known_70 (by decide) ?_
                  refine z_goto (tgt := 75) C d_M_known_71 (by decide) ?_
                  exact z_zret C (by first | rfl | decide) ⟨by rw [b01_t (by omega)], rfl, rfl⟩ d_M_known_75
                · have c_49 : ¬ y.toInt = ((58 : Nat) : Int) := fun q => c_49 ((xi_eq (x := y) (k := 58) (by omega)).mpr q)
                  refine z_iload_n C d_M_known_52 rfl rfl ?_
                  refine z_bipush (v := nI 40) C d_M_known_53 (by decide) ?_
                  refine z_icmp_lt (tgt := 64) C d_M_known_55 (by decide) (fun c_55 => ?_) (fun c_55 => ?_)
                  · have c_55 : y.toInt < ((40 : Nat) : Int) := (xi_lt (x := y) (k := 40) (by omega)).mp c_55
                    refine z_iload_n C d_M_known_64 rfl rfl ?_
                    refine z_bipush (v := nI 47) C d_M_known_65 (by decide) ?_
                    refine z_icmp_ne (tgt := 74) C d_M_known_67 (by decide) (fun c_67 => ?_) (fun c_67 => ?_)
                    · have c_67 : ¬ y.toInt = ((47 : Nat) : Int) := fun q => c_67 ((xi_eq (x := y) (k := 47) (by omega)).mpr q)
                      refine z_iconst (v := nI 0) C d_M_known_74 (by decide) ?_
                      exact z_zret C (by first | rfl | decide) ⟨by rw [b01_f (by omega)], rfl, rfl⟩ d_M_known_75
                    · have c_67 : y.toInt = ((47 : Nat) : Int) := (xi_eq (x := y) (k := 47) (by omega)).mp c_67
                      refine z_iconst (v := nI 1) C d_M_known_70 (by decide) ?_
                      refine z_goto (tgt := 75) C d_M_known_71 (by decide) ?_
                      exact z_zret C (by first | rfl | decide) ⟨by rw [b01_t (by omega)], rfl, rfl⟩ d_M_known_75
                  · have c_55 : ¬ y.toInt < ((40 : Nat) : Int) := fun q => c_55 ((xi_lt (x := y) (k := 40) (by omega)).mpr q)
                    refine z_iload_n C d_M_known_58 rfl rfl ?_
                    refine z_bipush (v := nI 45) C d_M_known_59 (by decide) ?_
                    refine z_icmp_le (tgt := 70) C d_M_known_61 (by decide) (fun c_61 => ?_) (fun c_61 => ?_)
                    · have c_61 : y.toInt ≤ ((45 : Nat) : Int) := (xi_le (x := y) (k := 45) (by omega)).mp c_61
                      refine z_iconst (v := nI 1) C d_M_known_70 (by decide) ?_
                      refine z_goto (tgt := 75) C d_M_known_71 (by decide) ?_
                      exact z_zret C (by first | rfl | decide) ⟨by rw [b01_t (by omega)], rfl, rfl⟩ d_M_known_75
                    · have c_61 : ¬ y.toInt ≤ ((45 : Nat) : Int) := fun q => c_61 ((xi_le (x := y) (k := 45) (by omega)).mpr q)
                      refine z_iload_n C d_M_known_64 rfl rfl ?_
                      refine z_bipush (v := nI 47) C d_M_known_65 (by decide) ?_
                      refine z_icmp_ne (tgt := 74) C d_M_known_67 (by decide) (fun c_67 => ?_) (fun c_67 => ?_)
                      · have c_67 : ¬ y.toInt = ((47 : Nat) : Int) := fun q => c_67 ((xi_eq (x := y) (k := 47) (by omega)).mpr q)
                        refine z_iconst (v := nI 0) C d_M_known_74 (by decide) ?_
                        exact z_zret C (by first | rfl | decide) ⟨by rw [b01_f (by omega)], rfl, rfl⟩ d_M_known_75
                      · have c_67 : y.toInt = ((47 : Nat) : Int) := (xi_eq (x := y) (k := 47) (by omega)).mp c_67
                        refine z_iconst (v := nI 1) C d_M_known_70 (by decide) ?_
                        refine z_goto (tgt := 75) C d_M_known_71 (by decide) ?_
                        exact z_zret C (by first | rfl | decide) ⟨by rw [b01_t (by omega)], rfl, rfl⟩ d_M_known_75
theorem getD_app {cs : List Nat} {c i : Nat} : (cs ++ [c]).getD i 0 = if i = cs.length then c else cs.getD i 0 := by
  rw [getD_ap]
  by_cases h : i = cs.length
  · rw [if_pos h, if_pos h.symm]
  · rw [if_neg h, if_neg (fun q => h q.symm)]
theorem app_ln {cs : List Nat} {ln : Nat → Nat} {len c : Nat} (r1 : len = cs.length) (r3 : ∀ i, i < cs.length → ln i = cs.getD i 0) : ∀ i, i < (cs ++ [c]).length → updN ln len c i = (cs ++ [c]).getD i 0 := by
  intro i hi
  rw [List.length_append, List.length_singleton] at hi
  rw [getD_app]
  by_cases e9 : i = cs.length
  · rw [if_pos e9, e9, r1, updN_eq]
  · rw [if_neg e9, updN_ne (by omega)]
    exact r3 i (by omega)
set_option maxHeartbeats 4000000 in
/-- M_type -/
theorem m_type (E : zE) (l : Launch) (sz : Nat) (M : zM) {m : Nat} {cs : List Nat} {fs : List (PS × PS)} {ss : List Nat} {nb : Nat → Nat} {sc : Nat} {bad : Int32} (hm : mst E M m (cs, fs, ss, nb, sc, bad)) (y : Int32) : zMet E l y_M_type c_M_type 2 (some .int) { frames := 2, cells := 0, slots := 0, locals := 42 } 0 0 [.ref m, .int y] sz M (fun v s M' => some (.int (q_type y (cs, fs, ss, nb, sc, bad)).1) = v ∧ sz = s ∧ zoutR M M' m (m + 15) ∧ mst E M' m (q_type y (cs, fs, ss, nb, sc, bad)).2) := by
  obtain ⟨xln, xlen, xlab, xbad, xlev, xtr, xwa, xpl, xfo, xsf, xbf, xF, xG, xP, xQ, xmm, xsl, xkd, xhs, xht, xsg, xdv, H, hr⟩ := id hm
  obtain ⟨r1, r2, r3, r4, r5, r6, r7, r8, r9, r10, r11, r12, r13, r14, r15, r16⟩ := id hr
  refine zMet.ofZ (by decide) (Nat.le_of_ble_eq_true rfl) ?_
  intro X hl hini C
  show Z X E 2 _ 0 0 sz M 0 [(0, .ref m), (1, .int y)] []
  refine z_aload_n C d_M_type_0 rfl rfl ?_
  refine z_iload_n C d_M_type_1 rfl rfl ?_
  refine z_callV (rest := []) (n := 1) (As := [.int y]) C (m_known E X.2.1 sz _ H y) ⟨z_cb C k_M_known ml_M_64 ii_M rfl rfl (by decide +kernel) ⟨by decide, by decide⟩, C.2.2.2.2.1 _ im_M_known, C.2.2.2.2.1 _ se_M_known⟩ H.1 rfl rfl rfl (Nat.le_of_ble_eq_true rfl) d_M_type_2 ⟨by decide, by decide⟩ ?_
  intro v_2 s_2 M_2 hp_2
  obtain ⟨rfl, rfl, rfl⟩ := hp_2
  show Z _ _ _ _ _ _ _ _ 5 _ [.int (nI (b01 (kwZ y)))]
  refine z_if_ne (tgt := 10) C d_M_type_5 (by decide) (fun c_5 => ?_) (fun c_5 => ?_)
  · have c_5 : (kwZ y) := b01_ne c_5
    refine z_aload_n C d_M_type_10 rfl rfl ?_
    refine z_get C in_M H.1 rfl 1 (by decide) fl_M_67 rfl rfl d_M_type_11 ?_
    refine z_bipush (v := nI 32) C d_M_type_14 (by decide) ?_
    refine z_icmp_ne (tgt := 22) C d_M_type_16 (by decide) (fun c_16 => ?_) (fun c_16 => ?_)
    · have c_16 : ¬ xlen = 32 := fun q => c_16 (congrArg nI q)
      obtain ⟨c9, hc9, rfl, hm9⟩ := kw_may.mp c_5
      refine z_aload_n C d_M_type_22 rfl rfl ?_
      refine z_get C in_M H.1 rfl 0 (by decide) fl_M_7 rfl rfl d_M_type_23 ?_
      refine z_aload_n C d_M_type_26 rfl rfl ?_
      refine z_get C in_M H.1 rfl 1 (by decide) fl_M_67 rfl rfl d_M_type_27 ?_
      refine z_iload_n C d_M_type_30 rfl rfl ?_
      refine z_iast C H.2.1 0 rfl xlen (rfl) (by omega) (by omega) d_M_type_31 ?_
      refine z_world (M' := zU M (m + 1) (.inl (E.2.1 0, 32, .inl (fun z_ => nI ((updN xln xlen c9) z_))))) (congrArg (fun e => zU M (m + 1) (.inl (E.2.1 0, 32, .inl e))) nI_upd) ?_
      refine z_aload_n C d_M_type_32 rfl rfl ?_
      refine z_dup C d_M_type_33 rfl ?_
      refine z_get C in_M ((zU_ne (by omega)).trans H.1) rfl 1 (by decide) fl_M_67 rfl rfl d_M_type_34 ?_
      refine z_iconst (v := nI 1) C d_M_type_37 (by decide) ?_
      refine z_iadd C d_M_type_38 ?_
      refine z_top (y := nI (xlen + 1)) (nI_add _ _) ?_
      refine z_put C in_M ty_M tok_M nm_M ((zU_ne (by omega)).trans H.1) rfl 1 (by decide) fl_M_67 rfl rfl rfl (rfl) (rfl) (Nat.le_of_ble_eq_true rfl) d_M_type_39 ?_
      show Z _ _ _ _ _ _ _ (zU (zU M (m + 1) (.inl (E.2.1 0, 32, .inl (fun z_ => nI ((updN xln xlen c9) z_))))) m (.inr (10, [.ref (m + 1), .int (nI (xlen + 1)), .int (nI xlab), .int xbad, .int (nI xlev), .int xtr, .int (nI xwa), .int (nI xpl), .int (nI xfo), .ref (m + 2), .ref (m + 3), .ref (m + 4), .ref (m + 5), .ref (m + 6), .ref (m + 7), .ref (m + 8), .ref (m + 9), .ref (m + 10), .ref (m + 11), .ref (m + 12), .ref (m + 13), .ref (m + 14)]))) _ _ _
      refine z_aload_n C d_M_type_42 rfl rfl ?_
      refine z_get C in_M zU_eq rfl 1 (by decide) fl_M_67 rfl rfl d_M_type_43 ?_
      have eq_ : q_type (nI c9) (cs, fs, ss, nb, sc, bad) = (nI (cs.length + 1), (cs ++ [c9], fs, ss, nb, sc, bad)) := by
        refine (pif_t (kw_may.mp c_5)).trans ?_
        rw [if_pos (by omega), nI_clamp (by omega)]
      exact z_iret C ⟨by rw [eq_, r1], rfl, (zoutR_tr (zoutR_tr zoutR_rf (zo_u (by omega) (by omega))) (zo_u (by omega) (by omega))), by rw [eq_]; exact ⟨(updN xln xlen c9), (xlen + 1), xlab, xbad, xlev, xtr, xwa, xpl, xfo, xsf, xbf, xF, xG, xP, xQ, xmm, xsl, xkd, xhs, xht, xsg, xdv, (mw_o (mw_a1 H (updN xln xlen c9)) (xlen + 1) xlab xbad xlev xtr xwa xpl xfo), ⟨by rw [List.length_append, List.length_singleton, r1], by rw [List.length_append, List.length_singleton]; omega, app_ln r1 r3, updN_b r4 hc9, r5, r6, r7, r8, r9, r10, r11, r12, r13, r14, r15, r16⟩⟩⟩ d_M_type_46
    · have c_16 : xlen = 32 := (nI_eq (a := xlen) (b := 32) (by omega) (by omega)).mp c_16
      refine z_bipush (v := -2) C d_M_type_19 (by decide) ?_
      have eq_ : q_type y (cs, fs, ss, nb, sc, bad) = (-2, (cs, fs, ss, nb, sc, bad)) := (pif_t (kw_may.mp c_5)).trans (if_neg (by omega))
      exact z_iret C ⟨by rw [eq_], rfl, zoutR_rf, by rw [eq_]; exact hm⟩ d_M_type_21
  · have c_5 : ¬ (kwZ y) := b01_z c_5
    refine z_iconst (v := -1) C d_M_type_8 (by decide) ?_
    have eq_ : q_type y (cs, fs, ss, nb, sc, bad) = (-1, (cs, fs, ss, nb, sc, bad)) := pif_f (fun q => c_5 (kw_may.mpr q))
    exact z_iret C ⟨by rw [eq_], rfl, zoutR_rf, by rw [eq_]; exact hm⟩ d_M_type_9
set_option maxHeartbeats 4000000 in
/-- types -/
theorem m_types (E : zE) (l : Launch) (sz : Nat) (M : zM) {m : Nat} {cs : List Nat} {fs : List (PS × PS)} {ss : List Nat} {nb : Nat → Nat} {sc : Nat} {bad : Int32} (hm : mst E M m (cs, fs, ss, nb, sc, bad)) (w : Int64) : zMet E l y_M_types c_M_types 6 (some .int) { frames := 3, cells := 0, slots := 0, locals := 63 } 0 0 [.ref m, .long w] sz M (fun v s M' => some (.int (q_tys w 8 (cs, fs, ss, nb, sc, bad)).1) = v ∧ sz = s ∧ zoutR M M' m (m + 15) ∧ mst E M' m (q_tys w 8 (cs, fs, ss, nb, sc, bad)).2) := by
  refine zMet.ofZ (by decide) (Nat.le_of_ble_eq_true rfl) ?_
  intro X hl hini C
  have loop : ∀ (n : Nat) (M1 : zM) (s : St), n ≤ 8 → zoutR M M1 m (m + 15) → mst E M1 m s → q_tys w 8 (cs, fs, ss, nb, sc, bad) = q_tys w n s → Z X E 6 (zQ X E 0 0 (fun v s M' => some (.int (q_tys w 8 (cs, fs, ss, nb, sc, bad)).1) = v ∧ sz = s ∧ zoutR M M' m (m + 15) ∧ mst E M' m (q_tys w 8 (cs, fs, ss, nb, sc, bad)).2)) 0 0 sz M1 3 [(0, .ref m), (1, .long w), (3, .int (nI (8 * n) - nI 8))] [] := by
    intro n
    induction n with
    | zero =>
      intro M1 s hn hfr H1 e1
      obtain ⟨cs1, fs1, ss1, nb1, sc1, bad1⟩ := s
      obtain ⟨xln, xlen, xlab, xbad, xlev, xtr, xwa, xpl, xfo, xsf, xbf, xF, xG, xP, xQ, xmm, xsl, xkd, xhs, xht, xsg, xdv, H, hr⟩ := id H1
      refine z_iload_n C d_M_types_3 rfl rfl ?_
      refine z_if_lt (tgt := 48) C d_M_types_4 (by decide) (fun _ => ?_) (fun c_4 => absurd (by decide) c_4)
      refine z_aload_n C d_M_types_48 rfl rfl ?_
      refine z_get C in_M H.1 rfl 1 (by decide) fl_M_67 rfl rfl d_M_types_49 ?_
      exact z_iret C ⟨by rw [e1, hr.1]; rfl, rfl, hfr, by rw [e1]; exact H1⟩ d_M_types_52
    | succ n ih =>
      intro M1 s hn hfr H1 e1
      obtain ⟨cs1, fs1, ss1, nb1, sc1, bad1⟩ := s
      obtain ⟨xln, xlen, xlab, xbad, xlev, xtr, xwa, xpl, xfo, xsf, xbf, xF, xG, xP, xQ, xmm, xsl, xkd, xhs, xht, xsg, xdv, H, hr⟩ := id H1
      have en : nI (8 * (n + 1)) - nI 8 = nI (8 * n) := (pk_sub (by omega)).trans (by rw [show 8 * (n + 1) - 8 = 8 * n by omega])
      rw [en]
      refine z_iload_n C d_M_types_3 rfl rfl ?_
      refine z_if_lt (tgt := 48) C d_M_types_4 (by decide) (fun c_4 => absurd c_4 (nI_pos (by omega))) (fun _ => ?_)
      refine z_lload_n C d_M_types_7 rfl rfl ?_
      refine z_iload_n C d_M_types_8 rfl rfl ?_
      refine z_lushr C d_M_types_9 rfl ?_
      refine z_l2i C d_M_types_10 rfl ?_
      refine z_sipush (v := nI 255) C d_M_types_11 (by decide) ?_
      refine z_iand C d_M_types_14 ?_
      refine z_istore (L' := [(0, .ref m), (1, .long w), (3, .int (nI (8 * n))), (4, .int (byL w (8 * n)))]) C d_M_types_15 (by decide) rfl ?_
      refine z_iload C d_M_types_17 rfl ?_
      refine z_if_ne (tgt := 26) C d_M_types_19 (by decide) (fun c_19 => ?_) (fun c_19 => ?_)
      · skip
        refine z_aload_n C d_M_types_26 rfl rfl ?_
        refine z_iload C d_M_types_27 rfl ?_
        refine z_callV (rest := []) (n := 1) (As := [.int (byL w (8 * n))]) C (m_type E X.2.1 sz _ H1 (byL w (8 * n))) ⟨z_cb C k_M_type ml_M_70 ii_M rfl rfl (by decide +kernel) ⟨by decide, by decide⟩, C.2.2.2.2.1 _ im_M_type, C.2.2.2.2.1 _ se_M_type⟩ H.1 rfl rfl rfl (Nat.le_of_ble_eq_true rfl) d_M_types_29 ⟨by decide, by decide⟩ ?_
        intro v_9 s_9 M_9 hp_9
        obtain ⟨rfl, rfl, ho, H2⟩ := hp_9
        show Z _ _ _ _ _ _ _ _ 32 _ [.int (q_type (byL w (8 * n)) (cs1, fs1, ss1, nb1, sc1, bad1)).1]
        refine z_istore (L' := [(0, .ref m), (1, .long w), (3, .int (nI (8 * n))), (4, .int (byL w (8 * n))), (5, .int ((q_type (byL w (8 * n)) (cs1, fs1, ss1, nb1, sc1, bad1)).1))]) C d_M_types_32 (by decide) rfl ?_
        refine z_iload C d_M_types_34 rfl ?_
        refine z_if_ge (tgt := 42) C d_M_types_36 (by decide) (fun c_36 => ?_) (fun c_36 => ?_)
        · skip
          refine z_iinc (v := nI (8 * n) - nI 8) (L' := [(0, .ref m), (1, .long w), (3, .int (nI (8 * n) - nI 8)), (4, .int (byL w (8 * n))), (5, .int ((q_type (byL w (8 * n)) (cs1, fs1, ss1, nb1, sc1, bad1)).1))]) C d_M_types_42 rfl (by rw [Int32.sub_eq_add_neg]; rfl) (by decide) rfl ?_
          refine z_goto (tgt := 3) C d_M_types_45 (by decide) ?_
          refine z_sub [0, 1, 2] rfl ?_
          exact ih _ _ (by omega) (zoutR_tr hfr ho) H2 (by rw [e1]; exact (if_neg c_19).trans (if_neg (Int32.not_lt.mpr c_36)))
        · skip
          refine z_iload C d_M_types_39 rfl ?_
          exact z_iret C ⟨by rw [e1, show q_tys w (n + 1) (cs1, fs1, ss1, nb1, sc1, bad1) = _ from (if_neg c_19).trans (if_pos (Int32.not_le.mp c_36))], rfl, zoutR_tr hfr ho, by rw [e1, show q_tys w (n + 1) (cs1, fs1, ss1, nb1, sc1, bad1) = _ from (if_neg c_19).trans (if_pos (Int32.not_le.mp c_36))]; exact H2⟩ d_M_types_41
      · skip
        refine z_iconst (v := 0) C d_M_types_22 (by decide) ?_
        refine z_goto (tgt := 32) C d_M_types_23 (by decide) ?_
        refine z_istore (L' := [(0, .ref m), (1, .long w), (3, .int (nI (8 * n))), (4, .int (byL w (8 * n))), (5, .int 0)]) C d_M_types_32 (by decide) rfl ?_
        refine z_iload C d_M_types_34 rfl ?_
        refine z_if_ge (tgt := 42) C d_M_types_36 (by decide) (fun _ => ?_) (fun c_36 => absurd (by decide) c_36)
        refine z_iinc (v := nI (8 * n) - nI 8) (L' := [(0, .ref m), (1, .long w), (3, .int (nI (8 * n) - nI 8)), (4, .int (byL w (8 * n))), (5, .int 0)]) C d_M_types_42 rfl (by rw [Int32.sub_eq_add_neg]; rfl) (by decide) rfl ?_
        refine z_goto (tgt := 3) C d_M_types_45 (by decide) ?_
        refine z_sub [0, 1, 2] rfl ?_
        exact ih M1 _ (by omega) hfr H1 (by rw [e1]; exact if_pos c_19)
  show Z X E 6 _ 0 0 sz M 0 [(0, .ref m), (1, .long w)] []
  refine z_bipush (v := nI (8 * 8) - nI 8) C d_M_types_0 (by decide) ?_
  refine z_istore_n (L' := [(0, .ref m), (1, .long w), (3, .int (nI (8 * 8) - nI 8))]) C d_M_types_2 rfl (by decide) rfl ?_
  exact loop 8 M _ (by omega) zoutR_rf hm rfl
def fpw (c : FF) : Nat → FF
  | 0 => 1
  | n + 1 => fpw c n * c
theorem fsum_l {f : Nat → FF} : ∀ {n : Nat}, fsum (n + 1) f = f 0 + fsum n (fun i => f (i + 1)) := by
  intro n
  induction n with
  | zero => simp only [fsum]; grind
  | succ n ih => rw [fsum, ih]; simp only [fsum]; grind
theorem ev_sum (c : FF) : ∀ (k : Nat) (A : PS), ev k A c = fsum k (fun j => A j * fpw c j) := by
  intro k
  induction k with
  | zero => intro A; rfl
  | succ k ih =>
    intro A
    rw [fsum_l]
    simp only [ev]
    rw [ih (ps_sh A), ← fsum_mul]
    have e : fsum k (fun i => c * (ps_sh A i * fpw c i)) = fsum k (fun i => A (i + 1) * fpw c (i + 1)) := fsum_cg (fun i hi => by simp only [ps_sh, fpw]; grind)
    rw [e]
    simp only [fpw]; grind
theorem ev_13 {A : PS} {c : FF} {k : Nat} (h : isC A k) (hk : k ≤ 13) : fsum 13 (fun j => A j * fpw c j) = ev k A c := by
  rw [ev_sum]
  have e : 13 = k + (13 - k) := by omega
  rw [e, fsum_app, fsum_0 (n := 13 - k) (fun i hi => by rw [h.1 (k + i) (by omega)]; grind)]
  grind
theorem pt_eq (x : Int32) : (x - x / 10007 * 10007 + 10007) - (x - x / 10007 * 10007 + 10007) / 10007 * 10007 = fI (ptF x) := by
  rcases rem_cases x with ⟨r, -, h1, h2, h3⟩ | ⟨-, h2, h3⟩ | ⟨r, -, h0, h1, h2, h3⟩
  · rw [h2, h3]
    show nI r + nI 10007 - (nI r + nI 10007) / 10007 * 10007 = nI (r % 10007)
    rw [nI_add, nI_mod (by omega), Nat.add_mod_right]
  · rw [h2, h3]
    decide
  · rw [h2, h3]
    show -(nI r) + nI 10007 - (-(nI r) + nI 10007) / 10007 * 10007 = nI ((10007 - r) % 10007)
    rw [show -(nI r) + nI 10007 = nI (10007 - r) by rw [Int32.add_comm, ← Int32.sub_eq_add_neg, pk_sub (by omega)], nI_mod (by omega)]
set_option maxHeartbeats 4000000 in
/-- value -/
theorem m_value (E : zE) (l : Launch) (sz : Nat) (M : zM) {m : Nat} {cs : List Nat} {fs : List (PS × PS)} {ss : List Nat} {nb : Nat → Nat} {sc : Nat} {bad : Int32} (hm : mst E M m (cs, fs, ss, nb, sc, bad)) (y z : Int32) : zMet E l y_M_value c_M_value 8 (some .int) { frames := 1, cells := 0, slots := 0, locals := 23 } 0 0 [.ref m, .int y, .int z] sz M (zRet (some (.int (q_value fs y z))) sz M) := by
  obtain ⟨xln, xlen, xlab, xbad, xlev, xtr, xwa, xpl, xfo, xsf, xbf, xF, xG, xP, xQ, xmm, xsl, xkd, xhs, xht, xsg, xdv, H, hr⟩ := id hm
  obtain ⟨r1, r2, r3, r4, r5, r6, r7, r8, r9, r10, r11, r12, r13, r14, r15, r16⟩ := id hr
  refine zMet.ofZ (by decide) (Nat.le_of_ble_eq_true rfl) ?_
  intro X hl hini C
  have loop : ∀ n9, n9 < fs.length → lab fs (nI (n9 + 1)) = some (pg xF (n9 + 1), pg xG (n9 + 1)) → ∀ (e i : Nat), i + e = 13 → y = nI (n9 + 1) → Z X E 8 (zQ X E 0 0 (zRet (some (.int (q_value fs y z))) sz M)) 0 0 sz M 36 [(0, .ref m), (1, .int (nI (n9 + 1))), (2, .int z), (3, .int (fI (ptF z))), (4, .int (fI (fsum i (fun j => pg xF (n9 + 1) j * fpw (ptF z) j)))), (5, .int (fI (fsum i (fun j => pg xG (n9 + 1) j * fpw (ptF z) j)))), (6, .int (fI (fpw (ptF z) i))), (7, .int (nI i))] [] := by
    intro n9 hn9 hlab e
    induction e with
    | zero =>
      intro i hi hy
      have hi : i = 13 := by omega
      subst hi
      obtain ⟨kn, hkn, hkn13⟩ := isC_ex (P := pg xF (n9 + 1)) (n := 13) pg_z
      obtain ⟨kd, hkd, hkd13⟩ := isC_ex (P := pg xG (n9 + 1)) (n := 13) pg_z
      rw [ev_13 hkn hkn13, ev_13 hkd hkd13]
      refine z_iload C d_M_value_36 rfl ?_
      refine z_bipush (v := nI 13) C d_M_value_38 (by decide) ?_
      refine z_icmp_ge (tgt := 107) C d_M_value_40 (by decide) (fun _ => ?_) (fun c_40 => absurd (by decide) c_40)
      refine z_iload C d_M_value_107 rfl ?_
      refine z_if_ne (tgt := 117) C d_M_value_109 (by decide) (fun c_109 => ?_) (fun c_109 => ?_)
      · have c_109 : ¬ (ev kd (pg xG (n9 + 1)) (ptF z)) = 0 := fun q => c_109 (fI_eq0.mpr q)
        refine z_iload C d_M_value_117 rfl ?_
        refine z_aload_n C d_M_value_119 rfl rfl ?_
        refine z_iload C d_M_value_120 rfl ?_
        refine z_callV (rest := [.int (fI (ev kn (pg xF (n9 + 1)) (ptF z)))]) (n := 1) (As := [.int (fI (ev kd (pg xG (n9 + 1)) (ptF z)))]) C (m_inverse E X.2.1 sz _ H (ev kd (pg xG (n9 + 1)) (ptF z))) ⟨z_cb C k_M_inverse ml_M_98 ii_M rfl rfl (by decide +kernel) ⟨by decide, by decide⟩, C.2.2.2.2.1 _ im_M_inverse, C.2.2.2.2.1 _ se_M_inverse⟩ H.1 rfl rfl rfl (Nat.le_of_ble_eq_true rfl) d_M_value_122 ⟨by decide, by decide⟩ ?_
        intro v_122 s_122 M_122 hp_122
        obtain ⟨rfl, rfl, rfl⟩ := hp_122
        show Z _ _ _ _ _ _ _ _ 125 _ [.int (fI (ff_inv (ev kd (pg xG (n9 + 1)) (ptF z)))), .int (fI (ev kn (pg xF (n9 + 1)) (ptF z)))]
        refine z_imul C d_M_value_125 ?_
        refine z_sipush (v := nI 10007) C d_M_value_126 (by decide) ?_
        refine z_irem C d_M_value_129 (by decide) ?_
        refine z_top (y := fI ((ev kn (pg xF (n9 + 1)) (ptF z)) * (ff_inv (ev kd (pg xG (n9 + 1)) (ptF z))))) (fI_mul _ _) ?_
        exact z_iret C ⟨by rw [hy]; unfold q_value; rw [hlab]; simp only; rw [cnt_eq hkn, cnt_eq hkd, if_neg c_109], rfl, rfl⟩ d_M_value_130
      · have c_109 : (ev kd (pg xG (n9 + 1)) (ptF z)) = 0 := fI_eq0.mp c_109
        refine z_bipush (v := -7) C d_M_value_112 (by decide) ?_
        refine z_goto (tgt := 130) C d_M_value_114 (by decide) ?_
        exact z_iret C ⟨by rw [hy]; unfold q_value; rw [hlab]; simp only; rw [cnt_eq hkn, cnt_eq hkd, if_pos c_109], rfl, rfl⟩ d_M_value_130
    | succ e ih =>
      intro i hi hy
      refine z_iload C d_M_value_36 rfl ?_
      refine z_bipush (v := nI 13) C d_M_value_38 (by decide) ?_
      refine z_icmp_ge (tgt := 107) C d_M_value_40 (by decide) (fun c_40 => absurd c_40 (fun q => absurd ((nI_leI (a := 13) (b := i) (by omega) (by omega)).mp q) (by omega))) (fun _ => ?_)
      refine z_iload C d_M_value_43 rfl ?_
      refine z_aload_n C d_M_value_45 rfl rfl ?_
      refine z_get C in_M H.1 rfl 11 (by decide) fl_M_23 rfl rfl d_M_value_46 ?_
      refine z_iload_n C d_M_value_49 rfl rfl ?_
      refine z_bipush (v := nI 13) C d_M_value_50 (by decide) ?_
      refine z_imul C d_M_value_52 ?_
      refine z_top (y := nI ((n9 + 1) * 13)) (pk_mul _ _) ?_
      refine z_iload C d_M_value_53 rfl ?_
      refine z_iadd C d_M_value_55 ?_
      refine z_top (y := nI (((n9 + 1) * 13) + i)) (nI_add _ _) ?_
      refine z_iald C H.2.2.2.2.1 0 rfl (((n9 + 1) * 13) + i) (rfl) (by omega) (by omega) d_M_value_56 ?_
      refine z_top (y := fI (pg xF (n9 + 1) i)) (by rw [pg_at (by omega)]) ?_
      refine z_iload C d_M_value_57 rfl ?_
      refine z_imul C d_M_value_59 ?_
      refine z_iadd C d_M_value_60 ?_
      refine z_sipush (v := nI 10007) C d_M_value_61 (by decide) ?_
      refine z_irem C d_M_value_64 (by decide) ?_
      refine z_top (y := fI ((fsum i (fun j => pg xF (n9 + 1) j * fpw (ptF z) j)) + (pg xF (n9 + 1) i) * (fpw (ptF z) i))) (fI_madd _ _ _) ?_
      refine z_istore (L' := [(0, .ref m), (1, .int (nI (n9 + 1))), (2, .int z), (3, .int (fI (ptF z))), (4, .int (fI ((fsum i (fun j => pg xF (n9 + 1) j * fpw (ptF z) j)) + (pg xF (n9 + 1) i) * (fpw (ptF z) i)))), (5, .int (fI (fsum i (fun j => pg xG (n9 + 1) j * fpw (ptF z) j)))), (6, .int (fI (fpw (ptF z) i))), (7, .int (nI i))]) C d_M_value_65 (by decide) rfl ?_
      refine z_iload C d_M_value_67 rfl ?_
      refine z_aload_n C d_M_value_69 rfl rfl ?_
      refine z_get C in_M H.1 rfl 12 (by decide) fl_M_26 rfl rfl d_M_value_70 ?_
      refine z_iload_n C d_M_value_73 rfl rfl ?_
      refine z_bipush (v := nI 13) C d_M_value_74 (by decide) ?_
      refine z_imul C d_M_value_76 ?_
      refine z_top (y := nI ((n9 + 1) * 13)) (pk_mul _ _) ?_
      refine z_iload C d_M_value_77 rfl ?_
      refine z_iadd C d_M_value_79 ?_
      refine z_top (y := nI (((n9 + 1) * 13) + i)) (nI_add _ _) ?_
      refine z_iald C H.2.2.2.2.2.1 0 rfl (((n9 + 1) * 13) + i) (rfl) (by omega) (by omega) d_M_value_80 ?_
      refine z_top (y := fI (pg xG (n9 + 1) i)) (by rw [pg_at (by omega)]) ?_
      refine z_iload C d_M_value_81 rfl ?_
      refine z_imul C d_M_value_83 ?_
      refine z_iadd C d_M_value_84 ?_
      refine z_sipush (v := nI 10007) C d_M_value_85 (by decide) ?_
      refine z_irem C d_M_value_88 (by decide) ?_
      refine z_top (y := fI ((fsum i (fun j => pg xG (n9 + 1) j * fpw (ptF z) j)) + (pg xG (n9 + 1) i) * (fpw (ptF z) i))) (fI_madd _ _ _) ?_
      refine z_istore (L' := [(0, .ref m), (1, .int (nI (n9 + 1))), (2, .int z), (3, .int (fI (ptF z))), (4, .int (fI ((fsum i (fun j => pg xF (n9 + 1) j * fpw (ptF z) j)) + (pg xF (n9 + 1) i) * (fpw (ptF z) i)))), (5, .int (fI ((fsum i (fun j => pg xG (n9 + 1) j * fpw (ptF z) j)) + (pg xG (n9 + 1) i) * (fpw (ptF z) i)))), (6, .int (fI (fpw (ptF z) i))), (7, .int (nI i))]) C d_M_value_89 (by decide) rfl ?_
      refine z_iload C d_M_value_91 rfl ?_
      refine z_iload_n C d_M_value_93 rfl rfl ?_
      refine z_imul C d_M_value_94 ?_
      refine z_sipush (v := nI 10007) C d_M_value_95 (by decide) ?_
      refine z_irem C d_M_value_98 (by decide) ?_
      refine z_top (y := fI ((fpw (ptF z) i) * (ptF z))) (fI_mul _ _) ?_
      refine z_istore (L' := [(0, .ref m), (1, .int (nI (n9 + 1))), (2, .int z), (3, .int (fI (ptF z))), (4, .int (fI ((fsum i (fun j => pg xF (n9 + 1) j * fpw (ptF z) j)) + (pg xF (n9 + 1) i) * (fpw (ptF z) i)))), (5, .int (fI ((fsum i (fun j => pg xG (n9 + 1) j * fpw (ptF z) j)) + (pg xG (n9 + 1) i) * (fpw (ptF z) i)))), (6, .int (fI ((fpw (ptF z) i) * (ptF z)))), (7, .int (nI i))]) C d_M_value_99 (by decide) rfl ?_
      refine z_iinc (v := nI (i + 1)) (L' := [(0, .ref m), (1, .int (nI (n9 + 1))), (2, .int z), (3, .int (fI (ptF z))), (4, .int (fI ((fsum i (fun j => pg xF (n9 + 1) j * fpw (ptF z) j)) + (pg xF (n9 + 1) i) * (fpw (ptF z) i)))), (5, .int (fI ((fsum i (fun j => pg xG (n9 + 1) j * fpw (ptF z) j)) + (pg xG (n9 + 1) i) * (fpw (ptF z) i)))), (6, .int (fI ((fpw (ptF z) i) * (ptF z)))), (7, .int (nI (i + 1)))]) C d_M_value_101 rfl (nI_add _ 1) (by decide) rfl ?_
      refine z_goto (tgt := 36) C d_M_value_104 (by decide) ?_
      exact ih (i + 1) (by omega) hy
  show Z X E 8 _ 0 0 sz M 0 [(0, .ref m), (1, .int y), (2, .int z)] []
  refine z_aload_n C d_M_value_0 rfl rfl ?_
  refine z_iload_n C d_M_value_1 rfl rfl ?_
  refine z_callV (rest := []) (n := 1) (As := [.int y]) C (m_noLabel E X.2.1 sz _ hm y) ⟨z_cb C k_M_noLabel ml_M_205 ii_M rfl rfl (by decide +kernel) ⟨by decide, by decide⟩, C.2.2.2.2.1 _ im_M_noLabel, C.2.2.2.2.1 _ se_M_noLabel⟩ H.1 rfl rfl rfl (Nat.le_of_ble_eq_true rfl) d_M_value_2 ⟨by decide, by decide⟩ ?_
  intro v_2 s_2 M_2 hp_2
  obtain ⟨rfl, rfl, rfl⟩ := hp_2
  show Z _ _ _ _ _ _ _ _ 5 _ [.int (nI (b01 (y.toInt < 1 ∨ ((fs.length : Nat) : Int) < y.toInt)))]
  refine z_if_eq (tgt := 10) C d_M_value_5 (by decide) (fun c_5 => ?_) (fun c_5 => ?_)
  · have c_5 : ¬ (y.toInt < 1 ∨ ((fs.length : Nat) : Int) < y.toInt) := b01_z c_5
    obtain ⟨n9, hn9, hy9⟩ : ∃ n9, n9 < fs.length ∧ y = nI (n9 + 1) := ⟨y.toInt.toNat - 1, by omega, (xi_eq (by omega)).mpr (by omega)⟩
    have hf9 : fs[n9]? = some fs[n9] := List.getElem?_eq_getElem hn9
    have hlab : lab fs (nI (n9 + 1)) = some (pg xF (n9 + 1), pg xG (n9 + 1)) := by rw [lab_at (by omega), hf9, ← r7 n9 _ hf9]
    rw [hy9]
    refine z_iload_n C d_M_value_10 rfl rfl ?_
    refine z_sipush (v := 10007) C d_M_value_11 (by decide) ?_
    refine z_irem C d_M_value_14 (by decide) ?_
    refine z_sipush (v := 10007) C d_M_value_15 (by decide) ?_
    refine z_iadd C d_M_value_18 ?_
    refine z_sipush (v := 10007) C d_M_value_19 (by decide) ?_
    refine z_irem C d_M_value_22 (by decide) ?_
    refine z_top (y := fI (ptF z)) (pt_eq z) ?_
    refine z_istore_n (L' := [(0, .ref m), (1, .int (nI (n9 + 1))), (2, .int z), (3, .int (fI (ptF z)))]) C d_M_value_23 rfl (by decide) rfl ?_
    refine z_iconst (v := fI (fsum 0 (fun j => pg xF (n9 + 1) j * fpw (ptF z) j))) C d_M_value_24 (rfl) ?_
    refine z_istore (L' := [(0, .ref m), (1, .int (nI (n9 + 1))), (2, .int z), (3, .int (fI (ptF z))), (4, .int (fI (fsum 0 (fun j => pg xF (n9 + 1) j * fpw (ptF z) j))))]) C d_M_value_25 (by decide) rfl ?_
    refine z_iconst (v := fI (fsum 0 (fun j => pg xG (n9 + 1) j * fpw (ptF z) j))) C d_M_value_27 (rfl) ?_
    refine z_istore (L' := [(0, .ref m), (1, .int (nI (n9 + 1))), (2, .int z), (3, .int (fI (ptF z))), (4, .int (fI (fsum 0 (fun j => pg xF (n9 + 1) j * fpw (ptF z) j)))), (5, .int (fI (fsum 0 (fun j => pg xG (n9 + 1) j * fpw (ptF z) j))))]) C d_M_value_28 (by decide) rfl ?_
    refine z_iconst (v := fI (fpw (ptF z) 0)) C d_M_value_30 (rfl) ?_
    refine z_istore (L' := [(0, .ref m), (1, .int (nI (n9 + 1))), (2, .int z), (3, .int (fI (ptF z))), (4, .int (fI (fsum 0 (fun j => pg xF (n9 + 1) j * fpw (ptF z) j)))), (5, .int (fI (fsum 0 (fun j => pg xG (n9 + 1) j * fpw (ptF z) j)))), (6, .int (fI (fpw (ptF z) 0)))]) C d_M_value_31 (by decide) rfl ?_
    refine z_iconst (v := nI 0) C d_M_value_33 (by decide) ?_
    refine z_istore (L' := [(0, .ref m), (1, .int (nI (n9 + 1))), (2, .int z), (3, .int (fI (ptF z))), (4, .int (fI (fsum 0 (fun j => pg xF (n9 + 1) j * fpw (ptF z) j)))), (5, .int (fI (fsum 0 (fun j => pg xG (n9 + 1) j * fpw (ptF z) j)))), (6, .int (fI (fpw (ptF z) 0))), (7, .int (nI 0))]) C d_M_value_34 (by decide) rfl ?_
    have h9 := loop n9 hn9 hlab 13 0 (by omega) hy9
    rw [hy9] at h9
    exact h9
  · have c_5 : (y.toInt < 1 ∨ ((fs.length : Nat) : Int) < y.toInt) := b01_ne c_5
    have hlab : lab fs y = none := lab_no (by rintro ⟨i, hi, rfl⟩; rw [nI_toInt (by omega)] at c_5; omega)
    refine z_iconst (v := -1) C d_M_value_8 (by decide) ?_
    exact z_iret C ⟨by unfold q_value; rw [hlab], rfl, rfl⟩ d_M_value_9
