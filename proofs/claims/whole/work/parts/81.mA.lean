set_option maxHeartbeats 4000000 in
/-- M_digit -/
theorem m_digit (E : zE) (l : Launch) (sz : Nat) (M : zM) {m : Nat} {xln : Nat → Nat} {xlen : Nat} {xlab : Nat} {xbad : Int32} {xlev : Nat} {xtr : Int32} {xwa : Nat} {xpl : Nat} {xfo : Nat} {xsf : Nat → Nat} {xbf : Nat → Nat} {xF : Nat → FF} {xG : Nat → FF} {xP : Nat → FF} {xQ : Nat → FF} {xmm : Nat → FF} {xsl : Nat → Nat} {xkd : Nat → Nat} {xhs : Nat → Nat} {xht : Nat → Nat} {xsg : Nat → Nat} {xdv : Nat → Nat} (H : mw E M m xln xlen xlab xbad xlev xtr xwa xpl xfo xsf xbf xF xG xP xQ xmm xsl xkd xhs xht xsg xdv) (y : Int32) : zMet E l y_M_digit c_M_digit 2 (some .boolean) { frames := 0, cells := 0, slots := 0, locals := 0 } 0 0 [.ref m, .int y] sz M (zRet (some (.int (nI (b01 (48 ≤ y.toInt ∧ y.toInt ≤ 57))))) sz M) := by
  refine zMet.ofZ (by decide) (Nat.le_of_ble_eq_true rfl) ?_
  intro X hl hini C
  show Z X E 2 _ 0 0 sz M 0 [(0, .ref m), (1, .int y)] []
  refine z_iload_n C d_M_digit_0 rfl rfl ?_
  refine z_bipush (v := nI 48) C d_M_digit_1 (by decide) ?_
  refine z_icmp_lt (tgt := 16) C d_M_digit_3 (by decide) (fun c_3 => ?_) (fun c_3 => ?_)
  · have c_3 : y.toInt < ((48 : Nat) : Int) := (xi_lt (x := y) (k := 48) (by omega)).mp c_3
    refine z_iconst (v := nI 0) C d_M_digit_16 (by decide) ?_
    exact z_zret C (by first | rfl | decide) ⟨by rw [b01_f (by omega)], rfl, rfl⟩ d_M_digit_17
  · have c_3 : ¬ y.toInt < ((48 : Nat) : Int) := fun q => c_3 ((xi_lt (x := y) (k := 48) (by omega)).mpr q)
    refine z_iload_n C d_M_digit_6 rfl rfl ?_
    refine z_bipush (v := nI 57) C d_M_digit_7 (by decide) ?_
    refine z_icmp_gt (tgt := 16) C d_M_digit_9 (by decide) (fun c_9 => ?_) (fun c_9 => ?_)
    · have c_9 : ((57 : Nat) : Int) < y.toInt := (xi_gt (x := y) (k := 57) (by omega)).mp c_9
      refine z_iconst (v := nI 0) C d_M_digit_16 (by decide) ?_
      exact z_zret C (by first | rfl | decide) ⟨by rw [b01_f (by omega)], rfl, rfl⟩ d_M_digit_17
    · have c_9 : ¬ ((57 : Nat) : Int) < y.toInt := fun q => c_9 ((xi_gt (x := y) (k := 57) (by omega)).mpr q)
      refine z_iconst (v := nI 1) C d_M_digit_12 (by decide) ?_
      refine z_goto (tgt := 17) C d_M_digit_13 (by decide) ?_
      exact z_zret C (by first | rfl | decide) ⟨by rw [b01_t (by omega)], rfl, rfl⟩ d_M_digit_17
set_option maxHeartbeats 4000000 in
/-- M_digit -/
theorem m_digitN (E : zE) (l : Launch) (sz : Nat) (M : zM) {m : Nat} {xln : Nat → Nat} {xlen : Nat} {xlab : Nat} {xbad : Int32} {xlev : Nat} {xtr : Int32} {xwa : Nat} {xpl : Nat} {xfo : Nat} {xsf : Nat → Nat} {xbf : Nat → Nat} {xF : Nat → FF} {xG : Nat → FF} {xP : Nat → FF} {xQ : Nat → FF} {xmm : Nat → FF} {xsl : Nat → Nat} {xkd : Nat → Nat} {xhs : Nat → Nat} {xht : Nat → Nat} {xsg : Nat → Nat} {xdv : Nat → Nat} (H : mw E M m xln xlen xlab xbad xlev xtr xwa xpl xfo xsf xbf xF xG xP xQ xmm xsl xkd xhs xht xsg xdv) (c : Nat) (hc : c < 2 ^ 31) : zMet E l y_M_digit c_M_digit 2 (some .boolean) { frames := 0, cells := 0, slots := 0, locals := 0 } 0 0 [.ref m, .int (nI c)] sz M (zRet (some (.int (nI (b01 (isD c))))) sz M) := by
  refine zMet.ofZ (by decide) (Nat.le_of_ble_eq_true rfl) ?_
  intro X hl hini C
  show Z X E 2 _ 0 0 sz M 0 [(0, .ref m), (1, .int (nI c))] []
  refine z_iload_n C d_M_digit_0 rfl rfl ?_
  refine z_bipush (v := nI 48) C d_M_digit_1 (by decide) ?_
  refine z_icmp_lt (tgt := 16) C d_M_digit_3 (by decide) (fun c_3 => ?_) (fun c_3 => ?_)
  · have c_3 : c < 48 := (nI_ltI (a := c) (b := 48) (by omega) (by omega)).mp c_3
    refine z_iconst (v := nI 0) C d_M_digit_16 (by decide) ?_
    exact z_zret C (by first | rfl | decide) ⟨by rw [b01_f (by omega)], rfl, rfl⟩ d_M_digit_17
  · have c_3 : 48 ≤ c := Nat.not_lt.mp (fun q => c_3 ((nI_ltI (a := c) (b := 48) (by omega) (by omega)).mpr q))
    refine z_iload_n C d_M_digit_6 rfl rfl ?_
    refine z_bipush (v := nI 57) C d_M_digit_7 (by decide) ?_
    refine z_icmp_gt (tgt := 16) C d_M_digit_9 (by decide) (fun c_9 => ?_) (fun c_9 => ?_)
    · have c_9 : 57 < c := (nI_ltI (a := 57) (b := c) (by omega) (by omega)).mp c_9
      refine z_iconst (v := nI 0) C d_M_digit_16 (by decide) ?_
      exact z_zret C (by first | rfl | decide) ⟨by rw [b01_f (by omega)], rfl, rfl⟩ d_M_digit_17
    · have c_9 : c ≤ 57 := Nat.not_lt.mp (fun q => c_9 ((nI_ltI (a := 57) (b := c) (by omega) (by omega)).mpr q))
      refine z_iconst (v := nI 1) C d_M_digit_12 (by decide) ?_
      refine z_goto (tgt := 17) C d_M_digit_13 (by decide) ?_
      exact z_zret C (by first | rfl | decide) ⟨by rw [b01_t (by omega)], rfl, rfl⟩ d_M_digit_17
set_option maxHeartbeats 4000000 in
/-- M_name -/
theorem m_name (E : zE) (l : Launch) (sz : Nat) (M : zM) {m : Nat} {xln : Nat → Nat} {xlen : Nat} {xlab : Nat} {xbad : Int32} {xlev : Nat} {xtr : Int32} {xwa : Nat} {xpl : Nat} {xfo : Nat} {xsf : Nat → Nat} {xbf : Nat → Nat} {xF : Nat → FF} {xG : Nat → FF} {xP : Nat → FF} {xQ : Nat → FF} {xmm : Nat → FF} {xsl : Nat → Nat} {xkd : Nat → Nat} {xhs : Nat → Nat} {xht : Nat → Nat} {xsg : Nat → Nat} {xdv : Nat → Nat} (H : mw E M m xln xlen xlab xbad xlev xtr xwa xpl xfo xsf xbf xF xG xP xQ xmm xsl xkd xhs xht xsg xdv) (y : Int32) : zMet E l y_M_name c_M_name 2 (some .boolean) { frames := 0, cells := 0, slots := 0, locals := 0 } 0 0 [.ref m, .int y] sz M (zRet (some (.int (nI (b01 (97 ≤ y.toInt ∧ y.toInt ≤ 99))))) sz M) := by
  refine zMet.ofZ (by decide) (Nat.le_of_ble_eq_true rfl) ?_
  intro X hl hini C
  show Z X E 2 _ 0 0 sz M 0 [(0, .ref m), (1, .int y)] []
  refine z_iload_n C d_M_name_0 rfl rfl ?_
  refine z_bipush (v := nI 97) C d_M_name_1 (by decide) ?_
  refine z_icmp_lt (tgt := 16) C d_M_name_3 (by decide) (fun c_3 => ?_) (fun c_3 => ?_)
  · have c_3 : y.toInt < ((97 : Nat) : Int) := (xi_lt (x := y) (k := 97) (by omega)).mp c_3
    refine z_iconst (v := nI 0) C d_M_name_16 (by decide) ?_
    exact z_zret C (by first | rfl | decide) ⟨by rw [b01_f (by omega)], rfl, rfl⟩ d_M_name_17
  · have c_3 : ¬ y.toInt < ((97 : Nat) : Int) := fun q => c_3 ((xi_lt (x := y) (k := 97) (by omega)).mpr q)
    refine z_iload_n C d_M_name_6 rfl rfl ?_
    refine z_bipush (v := nI 99) C d_M_name_7 (by decide) ?_
    refine z_icmp_gt (tgt := 16) C d_M_name_9 (by decide) (fun c_9 => ?_) (fun c_9 => ?_)
    · have c_9 : ((99 : Nat) : Int) < y.toInt := (xi_gt (x := y) (k := 99) (by omega)).mp c_9
      refine z_iconst (v := nI 0) C d_M_name_16 (by decide) ?_
      exact z_zret C (by first | rfl | decide) ⟨by rw [b01_f (by omega)], rfl, rfl⟩ d_M_name_17
    · have c_9 : ¬ ((99 : Nat) : Int) < y.toInt := fun q => c_9 ((xi_gt (x := y) (k := 99) (by omega)).mpr q)
      refine z_iconst (v := nI 1) C d_M_name_12 (by decide) ?_
      refine z_goto (tgt := 17) C d_M_name_13 (by decide) ?_
      exact z_zret C (by first | rfl | decide) ⟨by rw [b01_t (by omega)], rfl, rfl⟩ d_M_name_17
set_option maxHeartbeats 4000000 in
/-- M_name -/
theorem m_nameN (E : zE) (l : Launch) (sz : Nat) (M : zM) {m : Nat} {xln : Nat → Nat} {xlen : Nat} {xlab : Nat} {xbad : Int32} {xlev : Nat} {xtr : Int32} {xwa : Nat} {xpl : Nat} {xfo : Nat} {xsf : Nat → Nat} {xbf : Nat → Nat} {xF : Nat → FF} {xG : Nat → FF} {xP : Nat → FF} {xQ : Nat → FF} {xmm : Nat → FF} {xsl : Nat → Nat} {xkd : Nat → Nat} {xhs : Nat → Nat} {xht : Nat → Nat} {xsg : Nat → Nat} {xdv : Nat → Nat} (H : mw E M m xln xlen xlab xbad xlev xtr xwa xpl xfo xsf xbf xF xG xP xQ xmm xsl xkd xhs xht xsg xdv) (c : Nat) (hc : c < 2 ^ 31) : zMet E l y_M_name c_M_name 2 (some .boolean) { frames := 0, cells := 0, slots := 0, locals := 0 } 0 0 [.ref m, .int (nI c)] sz M (zRet (some (.int (nI (b01 (isNm c))))) sz M) := by
  refine zMet.ofZ (by decide) (Nat.le_of_ble_eq_true rfl) ?_
  intro X hl hini C
  show Z X E 2 _ 0 0 sz M 0 [(0, .ref m), (1, .int (nI c))] []
  refine z_iload_n C d_M_name_0 rfl rfl ?_
  refine z_bipush (v := nI 97) C d_M_name_1 (by decide) ?_
  refine z_icmp_lt (tgt := 16) C d_M_name_3 (by decide) (fun c_3 => ?_) (fun c_3 => ?_)
  · have c_3 : c < 97 := (nI_ltI (a := c) (b := 97) (by omega) (by omega)).mp c_3
    refine z_iconst (v := nI 0) C d_M_name_16 (by decide) ?_
    exact z_zret C (by first | rfl | decide) ⟨by rw [b01_f (by omega)], rfl, rfl⟩ d_M_name_17
  · have c_3 : 97 ≤ c := Nat.not_lt.mp (fun q => c_3 ((nI_ltI (a := c) (b := 97) (by omega) (by omega)).mpr q))
    refine z_iload_n C d_M_name_6 rfl rfl ?_
    refine z_bipush (v := nI 99) C d_M_name_7 (by decide) ?_
    refine z_icmp_gt (tgt := 16) C d_M_name_9 (by decide) (fun c_9 => ?_) (fun c_9 => ?_)
    · have c_9 : 99 < c := (nI_ltI (a := 99) (b := c) (by omega) (by omega)).mp c_9
      refine z_iconst (v := nI 0) C d_M_name_16 (by decide) ?_
      exact z_zret C (by first | rfl | decide) ⟨by rw [b01_f (by omega)], rfl, rfl⟩ d_M_name_17
    · have c_9 : c ≤ 99 := Nat.not_lt.mp (fun q => c_9 ((nI_ltI (a := 99) (b := c) (by omega) (by omega)).mpr q))
      refine z_iconst (v := nI 1) C d_M_name_12 (by decide) ?_
      refine z_goto (tgt := 17) C d_M_name_13 (by decide) ?_
      exact z_zret C (by first | rfl | decide) ⟨by rw [b01_t (by omega)], rfl, rfl⟩ d_M_name_17
set_option maxHeartbeats 4000000 in
/-- M_complete -/
theorem m_complete (E : zE) (l : Launch) (sz : Nat) (M : zM) {m : Nat} {xln : Nat → Nat} {xlen : Nat} {xlab : Nat} {xbad : Int32} {xlev : Nat} {xtr : Int32} {xwa : Nat} {xpl : Nat} {xfo : Nat} {xsf : Nat → Nat} {xbf : Nat → Nat} {xF : Nat → FF} {xG : Nat → FF} {xP : Nat → FF} {xQ : Nat → FF} {xmm : Nat → FF} {xsl : Nat → Nat} {xkd : Nat → Nat} {xhs : Nat → Nat} {xht : Nat → Nat} {xsg : Nat → Nat} {xdv : Nat → Nat} (H : mw E M m xln xlen xlab xbad xlev xtr xwa xpl xfo xsf xbf xF xG xP xQ xmm xsl xkd xhs xht xsg xdv) (s0 : Nat) (hs0 : s0 ≤ 26) : zMet E l y_M_complete c_M_complete 2 (some .boolean) { frames := 0, cells := 0, slots := 0, locals := 0 } 0 0 [.ref m, .int (nI s0)] sz M (zRet (some (.int (nI (b01 (cpl s0))))) sz M) := by
  refine zMet.ofZ (by decide) (Nat.le_of_ble_eq_true rfl) ?_
  intro X hl hini C
  show Z X E 2 _ 0 0 sz M 0 [(0, .ref m), (1, .int (nI s0))] []
  refine z_iload_n C d_M_complete_0 rfl rfl ?_
  refine z_iconst (v := nI 2) C d_M_complete_1 (by decide) ?_
  refine z_icmp_lt (tgt := 11) C d_M_complete_2 (by decide) (fun c_2 => ?_) (fun c_2 => ?_)
  · have c_2 : s0 < 2 := (nI_ltI (a := s0) (b := 2) (by omega) (by omega)).mp c_2
    refine z_iload_n C d_M_complete_11 rfl rfl ?_
    refine z_bipush (v := nI 11) C d_M_complete_12 (by decide) ?_
    refine z_icmp_lt (tgt := 23) C d_M_complete_14 (by decide) (fun c_14 => ?_) (fun c_14 => ?_)
    · have c_14 : s0 < 11 := (nI_ltI (a := s0) (b := 11) (by omega) (by omega)).mp c_14
      refine z_iload_n C d_M_complete_23 rfl rfl ?_
      refine z_bipush (v := nI 22) C d_M_complete_24 (by decide) ?_
      refine z_icmp_eq (tgt := 35) C d_M_complete_26 (by decide) (fun c_26 => ?_) (fun c_26 => ?_)
      · have c_26 : s0 = 22 := (nI_eq (a := s0) (b := 22) (by omega) (by omega)).mp c_26
        refine z_iconst (v := nI 1) C d_M_complete_35 (by decide) ?_
        refine z_goto (tgt := 40) C d_M_complete_36 (by decide) ?_
        exact z_zret C (by first | rfl | decide) ⟨by rw [b01_t (by omega)], rfl, rfl⟩ d_M_complete_40
      · have c_26 : ¬ s0 = 22 := fun q => c_26 (congrArg nI q)
        refine z_iload_n C d_M_complete_29 rfl rfl ?_
        refine z_bipush (v := nI 25) C d_M_complete_30 (by decide) ?_
        refine z_icmp_ne (tgt := 39) C d_M_complete_32 (by decide) (fun c_32 => ?_) (fun c_32 => ?_)
        · have c_32 : ¬ s0 = 25 := fun q => c_32 (congrArg nI q)
          refine z_iconst (v := nI 0) C d_M_complete_39 (by decide) ?_
          exact z_zret C (by first | rfl | decide) ⟨by rw [b01_f (by omega)], rfl, rfl⟩ d_M_complete_40
        · have c_32 : s0 = 25 := (nI_eq (a := s0) (b := 25) (by omega) (by omega)).mp c_32
          refine z_iconst (v := nI 1) C d_M_complete_35 (by decide) ?_
          refine z_goto (tgt := 40) C d_M_complete_36 (by decide) ?_
          exact z_zret C (by first | rfl | decide) ⟨by rw [b01_t (by omega)], rfl, rfl⟩ d_M_complete_40
    · have c_14 : 11 ≤ s0 := Nat.not_lt.mp (fun q => c_14 ((nI_ltI (a := s0) (b := 11) (by omega) (by omega)).mpr q))
      refine z_iload_n C d_M_complete_17 rfl rfl ?_
      refine z_bipush (v := nI 20) C d_M_complete_18 (by decide) ?_
      refine z_icmp_le (tgt := 35) C d_M_complete_20 (by decide) (fun c_20 => ?_) (fun c_20 => ?_)
      · have c_20 : s0 ≤ 20 := (nI_leI (a := s0) (b := 20) (by omega) (by omega)).mp c_20
        refine z_iconst (v := nI 1) C d_M_complete_35 (by decide) ?_
        refine z_goto (tgt := 40) C d_M_complete_36 (by decide) ?_
        exact z_zret C (by first | rfl | decide) ⟨by rw [b01_t (by omega)], rfl, rfl⟩ d_M_complete_40
      · have c_20 : 20 < s0 := Nat.not_le.mp (fun q => c_20 ((nI_leI (a := s0) (b := 20) (by omega) (by omega)).mpr q))
        refine z_iload_n C d_M_complete_23 rfl rfl ?_
        refine z_bipush (v := nI 22) C d_M_complete_24 (by decide) ?_
        refine z_icmp_eq (tgt := 35) C d_M_complete_26 (by decide) (fun c_26 => ?_) (fun c_26 => ?_)
        · have c_26 : s0 = 22 := (nI_eq (a := s0) (b := 22) (by omega) (by omega)).mp c_26
          refine z_iconst (v := nI 1) C d_M_complete_35 (by decide) ?_
          refine z_goto (tgt := 40) C d_M_complete_36 (by decide) ?_
          exact z_zret C (by first | rfl | decide) ⟨by rw [b01_t (by omega)], rfl, rfl⟩ d_M_complete_40
        · have c_26 : ¬ s0 = 22 := fun q => c_26 (congrArg nI q)
          refine z_iload_n C d_M_complete_29 rfl rfl ?_
          refine z_bipush (v := nI 25) C d_M_complete_30 (by decide) ?_
          refine z_icmp_ne (tgt := 39) C d_M_complete_32 (by decide) (fun c_32 => ?_) (fun c_32 => ?_)
          · have c_32 : ¬ s0 = 25 := fun q => c_32 (congrArg nI q)
            refine z_iconst (v := nI 0) C d_M_complete_39 (by decide) ?_
            exact z_zret C (by first | rfl | decide) ⟨by rw [b01_f (by omega)], rfl, rfl⟩ d_M_complete_40
          · have c_32 : s0 = 25 := (nI_eq (a := s0) (b := 25) (by omega) (by omega)).mp c_32
            refine z_iconst (v := nI 1) C d_M_complete_35 (by decide) ?_
            refine z_goto (tgt := 40) C d_M_complete_36 (by decide) ?_
            exact z_zret C (by first | rfl | decide) ⟨by rw [b01_t (by omega)], rfl, rfl⟩ d_M_complete_40
  · have c_2 : 2 ≤ s0 := Nat.not_lt.mp (fun q => c_2 ((nI_ltI (a := s0) (b := 2) (by omega) (by omega)).mpr q))
    refine z_iload_n C d_M_complete_5 rfl rfl ?_
    refine z_bipush (v := nI 8) C d_M_complete_6 (by decide) ?_
    refine z_icmp_le (tgt := 35) C d_M_complete_8 (by decide) (fun c_8 => ?_) (fun c_8 => ?_)
    · have c_8 : s0 ≤ 8 := (nI_leI (a := s0) (b := 8) (by omega) (by omega)).mp c_8
      refine z_iconst (v := nI 1) C d_M_complete_35 (by decide) ?_
      refine z_goto (tgt := 40) C d_M_complete_36 (by decide) ?_
      exact z_zret C (by first | rfl | decide) ⟨by rw [b01_t (by omega)], rfl, rfl⟩ d_M_complete_40
    · have c_8 : 8 < s0 := Nat.not_le.mp (fun q => c_8 ((nI_leI (a := s0) (b := 8) (by omega) (by omega)).mpr q))
      refine z_iload_n C d_M_complete_11 rfl rfl ?_
      refine z_bipush (v := nI 11) C d_M_complete_12 (by decide) ?_
      refine z_icmp_lt (tgt := 23) C d_M_complete_14 (by decide) (fun c_14 => ?_) (fun c_14 => ?_)
      · have c_14 : s0 < 11 := (nI_ltI (a := s0) (b := 11) (by omega) (by omega)).mp c_14
        refine z_iload_n C d_M_complete_23 rfl rfl ?_
        refine z_bipush (v := nI 22) C d_M_complete_24 (by decide) ?_
        refine z_icmp_eq (tgt := 35) C d_M_complete_26 (by decide) (fun c_26 => ?_) (fun c_26 => ?_)
        · have c_26 : s0 = 22 := (nI_eq (a := s0) (b := 22) (by omega) (by omega)).mp c_26
          refine z_iconst (v := nI 1) C d_M_complete_35 (by decide) ?_
          refine z_goto (tgt := 40) C d_M_complete_36 (by decide) ?_
          exact z_zret C (by first | rfl | decide) ⟨by rw [b01_t (by omega)], rfl, rfl⟩ d_M_complete_40
        · have c_26 : ¬ s0 = 22 := fun q => c_26 (congrArg nI q)
          refine z_iload_n C d_M_complete_29 rfl rfl ?_
          refine z_bipush (v := nI 25) C d_M_complete_30 (by decide) ?_
          refine z_icmp_ne (tgt := 39) C d_M_complete_32 (by decide) (fun c_32 => ?_) (fun c_32 => ?_)
          · have c_32 : ¬ s0 = 25 := fun q => c_32 (congrArg nI q)
            refine z_iconst (v := nI 0) C d_M_complete_39 (by decide) ?_
            exact z_zret C (by first | rfl | decide) ⟨by rw [b01_f (by omega)], rfl, rfl⟩ d_M_complete_40
          · have c_32 : s0 = 25 := (nI_eq (a := s0) (b := 25) (by omega) (by omega)).mp c_32
            refine z_iconst (v := nI 1) C d_M_complete_35 (by decide) ?_
            refine z_goto (tgt := 40) C d_M_complete_36 (by decide) ?_
            exact z_zret C (by first | rfl | decide) ⟨by rw [b01_t (by omega)], rfl, rfl⟩ d_M_complete_40
      · have c_14 : 11 ≤ s0 := Nat.not_lt.mp (fun q => c_14 ((nI_ltI (a := s0) (b := 11) (by omega) (by omega)).mpr q))
        refine z_iload_n C d_M_complete_17 rfl rfl ?_
        refine z_bipush (v := nI 20) C d_M_complete_18 (by decide) ?_
        refine z_icmp_le (tgt := 35) C d_M_complete_20 (by decide) (fun c_20 => ?_) (fun c_20 => ?_)
        · have c_20 : s0 ≤ 20 := (nI_leI (a := s0) (b := 20) (by omega) (by omega)).mp c_20
          refine z_iconst (v := nI 1) C d_M_complete_35 (by decide) ?_
          refine z_goto (tgt := 40) C d_M_complete_36 (by decide) ?_
          exact z_zret C (by first | rfl | decide) ⟨by rw [b01_t (by omega)], rfl, rfl⟩ d_M_complete_40
        · have c_20 : 20 < s0 := Nat.not_le.mp (fun q => c_20 ((nI_leI (a := s0) (b := 20) (by omega) (by omega)).mpr q))
          refine z_iload_n C d_M_complete_23 rfl rfl ?_
          refine z_bipush (v := nI 22) C d_M_complete_24 (by decide) ?_
          refine z_icmp_eq (tgt := 35) C d_M_complete_26 (by decide) (fun c_26 => ?_) (fun c_26 => ?_)
          · have c_26 : s0 = 22 := (nI_eq (a := s0) (b := 22) (by omega) (by omega)).mp c_26
            refine z_iconst (v := nI 1) C d_M_complete_35 (by decide) ?_
            refine z_goto (tgt := 40) C d_M_complete_36 (by decide) ?_
            exact z_zret C (by first | rfl | decide) ⟨by rw [b01_t (by omega)], rfl, rfl⟩ d_M_complete_40
          · have c_26 : ¬ s0 = 22 := fun q => c_26 (congrArg nI q)
            refine z_iload_n C d_M_complete_29 rfl rfl ?_
            refine z_bipush (v := nI 25) C d_M_complete_30 (by decide) ?_
            refine z_icmp_ne (tgt := 39) C d_M_complete_32 (by decide) (fun c_32 => ?_) (fun c_32 => ?_)
            · have c_32 : ¬ s0 = 25 := fun q => c_32 (congrArg nI q)
              refine z_iconst (v := nI 0) C d_M_complete_39 (by decide) ?_
              exact z_zret C (by first | rfl | decide) ⟨by rw [b01_f (by omega)], rfl, rfl⟩ d_M_complete_40
            · have c_32 : s0 = 25 := (nI_eq (a := s0) (b := 25) (by omega) (by omega)).mp c_32
              refine z_iconst (v := nI 1) C d_M_complete_35 (by decide) ?_
              refine z_goto (tgt := 40) C d_M_complete_36 (by decide) ?_
              exact z_zret C (by first | rfl | decide) ⟨by rw [b01_t (by omega)], rfl, rfl⟩ d_M_complete_40
set_option maxHeartbeats 4000000 in
/-- M_open -/
theorem m_open1 (E : zE) (l : Launch) (sz : Nat) (M : zM) {m : Nat} {xln : Nat → Nat} {xlen : Nat} {xlab : Nat} {xbad : Int32} {xlev : Nat} {xtr : Int32} {xwa : Nat} {xpl : Nat} {xfo : Nat} {xsf : Nat → Nat} {xbf : Nat → Nat} {xF : Nat → FF} {xG : Nat → FF} {xP : Nat → FF} {xQ : Nat → FF} {xmm : Nat → FF} {xsl : Nat → Nat} {xkd : Nat → Nat} {xhs : Nat → Nat} {xht : Nat → Nat} {xsg : Nat → Nat} {xdv : Nat → Nat} (H : mw E M m xln xlen xlab xbad xlev xtr xwa xpl xfo xsf xbf xF xG xP xQ xmm xsl xkd xhs xht xsg xdv) (v0 : Nat) (hlev : xlev ≤ 8) : zMet E l y_M_open c_M_open 2 (some .int) { frames := 0, cells := 0, slots := 0, locals := 0 } 0 0 [.ref m, .int (nI v0)] sz M (aPost E M sz m xln xlen xlab xbad xlev xtr xwa xpl xfo xsf xbf xF xG xP xQ xmm xsl xkd xhs xht xsg xdv (m_open v0 xlev xkd)) := by
  refine zMet.ofZ (by decide) (Nat.le_of_ble_eq_true rfl) ?_
  intro X hl hini C
  show Z X E 2 _ 0 0 sz M 0 [(0, .ref m), (1, .int (nI v0))] []
  refine z_aload_n C d_M_open_0 rfl rfl ?_
  refine z_dup C d_M_open_1 rfl ?_
  refine z_get C in_M H.1 rfl 4 (by decide) fl_M_85 rfl rfl d_M_open_2 ?_
  refine z_iconst (v := nI 1) C d_M_open_5 (by decide) ?_
  refine z_iadd C d_M_open_6 ?_
  refine z_top (y := nI (xlev + 1)) (nI_add _ _) ?_
  refine z_put C in_M ty_M tok_M nm_M H.1 rfl 4 (by decide) fl_M_85 rfl rfl rfl (rfl) (rfl) (Nat.le_of_ble_eq_true rfl) d_M_open_7 ?_
  show Z _ _ _ _ _ _ _ (zU M m (.inr (10, [.ref (m + 1), .int (nI xlen), .int (nI xlab), .int xbad, .int (nI (xlev + 1)), .int xtr, .int (nI xwa), .int (nI xpl), .int (nI xfo), .ref (m + 2), .ref (m + 3), .ref (m + 4), .ref (m + 5), .ref (m + 6), .ref (m + 7), .ref (m + 8), .ref (m + 9), .ref (m + 10), .ref (m + 11), .ref (m + 12), .ref (m + 13), .ref (m + 14)]))) _ _ _
  refine z_aload_n C d_M_open_10 rfl rfl ?_
  refine z_get C in_M zU_eq rfl 17 (by decide) fl_M_41 rfl rfl d_M_open_11 ?_
  refine z_aload_n C d_M_open_14 rfl rfl ?_
  refine z_get C in_M zU_eq rfl 4 (by decide) fl_M_85 rfl rfl d_M_open_15 ?_
  refine z_iload_n C d_M_open_18 rfl rfl ?_
  refine z_iast C ((zU_ne (by omega)).trans H.2.2.2.2.2.2.2.2.2.2.1) 0 rfl (xlev + 1) (rfl) (by omega) (by omega) d_M_open_19 ?_
  refine z_world (M' := zU (zU M m (.inr (10, [.ref (m + 1), .int (nI xlen), .int (nI xlab), .int xbad, .int (nI (xlev + 1)), .int xtr, .int (nI xwa), .int (nI xpl), .int (nI xfo), .ref (m + 2), .ref (m + 3), .ref (m + 4), .ref (m + 5), .ref (m + 6), .ref (m + 7), .ref (m + 8), .ref (m + 9), .ref (m + 10), .ref (m + 11), .ref (m + 12), .ref (m + 13), .ref (m + 14)]))) (m + 10) (.inl (E.2.1 0, 10, .inl (fun j => nI ((updN xkd (xlev + 1) v0) j))))) (congrArg (fun e => zU (zU M m (.inr (10, [.ref (m + 1), .int (nI xlen), .int (nI xlab), .int xbad, .int (nI (xlev + 1)), .int xtr, .int (nI xwa), .int (nI xpl), .int (nI xfo), .ref (m + 2), .ref (m + 3), .ref (m + 4), .ref (m + 5), .ref (m + 6), .ref (m + 7), .ref (m + 8), .ref (m + 9), .ref (m + 10), .ref (m + 11), .ref (m + 12), .ref (m + 13), .ref (m + 14)]))) (m + 10) (.inl (E.2.1 0, 10, .inl e))) nI_upd) ?_
  refine z_iconst (v := nI 0) C d_M_open_20 (by decide) ?_
  have e_ : m_open v0 xlev xkd = some (0, (xlev + 1), (updN xkd (xlev + 1) v0)) := by
    first | (exfalso; omega) | (unfold m_open; (repeat first | rw [if_pos (by omega)] | rw [if_neg (by omega)]); try rfl)
  exact z_iret C (by unfold aPost; rw [e_]; exact ⟨rfl, (zoutR_tr (zoutR_tr zoutR_rf (zo_u (by omega) (by omega))) (zo_u (by omega) (by omega))), rfl, (mw_a10 (mw_o H xlen xlab xbad (xlev + 1) xtr xwa xpl xfo) (updN xkd (xlev + 1) v0))⟩) d_M_open_21
set_option maxHeartbeats 4000000 in
/-- M_close -/
theorem m_close1 (E : zE) (l : Launch) (sz : Nat) (M : zM) {m : Nat} {xln : Nat → Nat} {xlen : Nat} {xlab : Nat} {xbad : Int32} {xlev : Nat} {xtr : Int32} {xwa : Nat} {xpl : Nat} {xfo : Nat} {xsf : Nat → Nat} {xbf : Nat → Nat} {xF : Nat → FF} {xG : Nat → FF} {xP : Nat → FF} {xQ : Nat → FF} {xmm : Nat → FF} {xsl : Nat → Nat} {xkd : Nat → Nat} {xhs : Nat → Nat} {xht : Nat → Nat} {xsg : Nat → Nat} {xdv : Nat → Nat} (H : mw E M m xln xlen xlab xbad xlev xtr xwa xpl xfo xsf xbf xF xG xP xQ xmm xsl xkd xhs xht xsg xdv) (hlev : xlev ≤ 8) (hkd : ∀ j, xkd j < 100) : zMet E l y_M_close c_M_close 1 (some .int) { frames := 0, cells := 0, slots := 0, locals := 0 } 0 0 [.ref m] sz M (aPost E M sz m xln xlen xlab xbad xlev xtr xwa xpl xfo xsf xbf xF xG xP xQ xmm xsl xkd xhs xht xsg xdv (m_close xlev xkd)) := by
  refine zMet.ofZ (by decide) (Nat.le_of_ble_eq_true rfl) ?_
  intro X hl hini C
  show Z X E 1 _ 0 0 sz M 0 [(0, .ref m)] []
  refine z_aload_n C d_M_close_0 rfl rfl ?_
  refine z_get C in_M H.1 rfl 4 (by decide) fl_M_85 rfl rfl d_M_close_1 ?_
  refine z_if_eq (tgt := 20) C d_M_close_4 (by decide) (fun c_4 => ?_) (fun c_4 => ?_)
  · have c_4 : xlev = 0 := (nI_eq (a := xlev) (b := 0) (by omega) (by omega)).mp c_4
    refine z_iconst (v := -1) C d_M_close_20 (by decide) ?_
    have e_ : m_close xlev xkd = none := by
      first | (exfalso; omega) | (unfold m_close; (repeat first | rw [if_pos (by omega)] | rw [if_neg (by omega)]); try rfl)
    exact z_iret C (by unfold aPost; rw [e_]; exact ⟨rfl, zoutR_rf, rfl, H⟩) d_M_close_21
  · have c_4 : ¬ xlev = 0 := fun q => c_4 (congrArg nI q)
    have hk0 := hkd xlev
    refine z_aload_n C d_M_close_7 rfl rfl ?_
    refine z_get C in_M H.1 rfl 17 (by decide) fl_M_41 rfl rfl d_M_close_8 ?_
    refine z_aload_n C d_M_close_11 rfl rfl ?_
    refine z_get C in_M H.1 rfl 4 (by decide) fl_M_85 rfl rfl d_M_close_12 ?_
    refine z_iald C H.2.2.2.2.2.2.2.2.2.2.1 0 rfl xlev (rfl) (by omega) (by omega) d_M_close_15 ?_
    refine z_top (y := nI (xkd xlev)) rfl ?_
    refine z_iconst (v := nI 3) C d_M_close_16 (by decide) ?_
    refine z_icmp_ne (tgt := 22) C d_M_close_17 (by decide) (fun c_17 => ?_) (fun c_17 => ?_)
    · have c_17 : ¬ (xkd xlev) = 3 := fun q => c_17 (congrArg nI q)
      refine z_aload_n C d_M_close_22 rfl rfl ?_
      refine z_dup C d_M_close_23 rfl ?_
      refine z_get C in_M H.1 rfl 4 (by decide) fl_M_85 rfl rfl d_M_close_24 ?_
      refine z_iconst (v := nI 1) C d_M_close_27 (by decide) ?_
      refine z_isub C d_M_close_28 ?_
      refine z_top (y := nI (xlev - 1)) (pk_sub (by omega)) ?_
      refine z_put C in_M ty_M tok_M nm_M H.1 rfl 4 (by decide) fl_M_85 rfl rfl rfl (rfl) (rfl) (Nat.le_of_ble_eq_true rfl) d_M_close_29 ?_
      show Z _ _ _ _ _ _ _ (zU M m (.inr (10, [.ref (m + 1), .int (nI xlen), .int (nI xlab), .int xbad, .int (nI (xlev - 1)), .int xtr, .int (nI xwa), .int (nI xpl), .int (nI xfo), .ref (m + 2), .ref (m + 3), .ref (m + 4), .ref (m + 5), .ref (m + 6), .ref (m + 7), .ref (m + 8), .ref (m + 9), .ref (m + 10), .ref (m + 11), .ref (m + 12), .ref (m + 13), .ref (m + 14)]))) _ _ _
      refine z_iconst (v := nI 2) C d_M_close_32 (by decide) ?_
      have e_ : m_close xlev xkd = some (2, (xlev - 1), xkd) := by
        first | (exfalso; omega) | (unfold m_close; (repeat first | rw [if_pos (by omega)] | rw [if_neg (by omega)]); try rfl)
      exact z_iret C (by unfold aPost; rw [e_]; exact ⟨rfl, (zoutR_tr zoutR_rf (zo_u (by omega) (by omega))), rfl, (mw_o H xlen xlab xbad (xlev - 1) xtr xwa xpl xfo)⟩) d_M_close_33
    · have c_17 : (xkd xlev) = 3 := (nI_eq (a := (xkd xlev)) (b := 3) (by omega) (by omega)).mp c_17
      refine z_iconst (v := -1) C d_M_close_20 (by decide) ?_
      have e_ : m_close xlev xkd = none := by
        first | (exfalso; omega) | (unfold m_close; (repeat first | rw [if_pos (by omega)] | rw [if_neg (by omega)]); try rfl)
      exact z_iret C (by unfold aPost; rw [e_]; exact ⟨rfl, zoutR_rf, rfl, H⟩) d_M_close_21
set_option maxHeartbeats 4000000 in
/-- M_begin -/
theorem m_begin (E : zE) (l : Launch) (sz : Nat) (M : zM) {m : Nat} {xln : Nat → Nat} {xlen : Nat} {xlab : Nat} {xbad : Int32} {xlev : Nat} {xtr : Int32} {xwa : Nat} {xpl : Nat} {xfo : Nat} {xsf : Nat → Nat} {xbf : Nat → Nat} {xF : Nat → FF} {xG : Nat → FF} {xP : Nat → FF} {xQ : Nat → FF} {xmm : Nat → FF} {xsl : Nat → Nat} {xkd : Nat → Nat} {xhs : Nat → Nat} {xht : Nat → Nat} {xsg : Nat → Nat} {xdv : Nat → Nat} (H : mw E M m xln xlen xlab xbad xlev xtr xwa xpl xfo xsf xbf xF xG xP xQ xmm xsl xkd xhs xht xsg xdv) (s0 c : Nat) (hs0 : s0 ≤ 26) (hc : c < 128) (hlev : xlev ≤ 8) : zMet E l y_M_begin c_M_begin 3 (some .int) { frames := 1, cells := 0, slots := 0, locals := 21 } 0 0 [.ref m, .int (nI s0), .int (nI c)] sz M (aPost E M sz m xln xlen xlab xbad xlev xtr xwa xpl xfo xsf xbf xF xG xP xQ xmm xsl xkd xhs xht xsg xdv (m_beg s0 c xlev xkd)) := by
  refine zMet.ofZ (by decide) (Nat.le_of_ble_eq_true rfl) ?_
  intro X hl hini C
  show Z X E 3 _ 0 0 sz M 0 [(0, .ref m), (1, .int (nI s0)), (2, .int (nI c))] []
  refine z_aload_n C d_M_begin_0 rfl rfl ?_
  refine z_iload_n C d_M_begin_1 rfl rfl ?_
  refine z_callV (rest := []) (n := 1) (As := [.int (nI c)]) C (m_digitN E X.2.1 sz _ H c (by omega)) ⟨z_cb C k_M_digit ml_M_57 ii_M rfl rfl (by decide +kernel) ⟨by decide, by decide⟩, C.2.2.2.2.1 _ im_M_digit, C.2.2.2.2.1 _ se_M_digit⟩ H.1 rfl rfl rfl (Nat.le_of_ble_eq_true rfl) d_M_begin_2 ⟨by decide, by decide⟩ ?_
  intro v_2 s_2 M_2 hp_2
  obtain ⟨rfl, rfl, rfl⟩ := hp_2
  show Z _ _ _ _ _ _ _ _ 5 _ [.int (nI (b01 (isD c)))]
  refine z_if_eq (tgt := 10) C d_M_begin_5 (by decide) (fun c_5 => ?_) (fun c_5 => ?_)
  · have c_5 : ¬ (isD c) := b01_z c_5
    refine z_iload_n C d_M_begin_10 rfl rfl ?_
    refine z_bipush (v := nI 120) C d_M_begin_11 (by decide) ?_
    refine z_icmp_ne (tgt := 18) C d_M_begin_13 (by decide) (fun c_13 => ?_) (fun c_13 => ?_)
    · have c_13 : ¬ c = 120 := fun q => c_13 (congrArg nI q)
      refine z_aload_n C d_M_begin_18 rfl rfl ?_
      refine z_iload_n C d_M_begin_19 rfl rfl ?_
      refine z_callV (rest := []) (n := 1) (As := [.int (nI c)]) C (m_nameN E X.2.1 sz _ H c (by omega)) ⟨z_cb C k_M_name ml_M_61 ii_M rfl rfl (by decide +kernel) ⟨by decide, by decide⟩, C.2.2.2.2.1 _ im_M_name, C.2.2.2.2.1 _ se_M_name⟩ H.1 rfl rfl rfl (Nat.le_of_ble_eq_true rfl) d_M_begin_20 ⟨by decide, by decide⟩ ?_
      intro v_20 s_20 M_20 hp_20
      obtain ⟨rfl, rfl, rfl⟩ := hp_20
      show Z _ _ _ _ _ _ _ _ 23 _ [.int (nI (b01 (isNm c)))]
      refine z_if_eq (tgt := 39) C d_M_begin_23 (by decide) (fun c_23 => ?_) (fun c_23 => ?_)
      · have c_23 : ¬ (isNm c) := b01_z c_23
        refine z_iload_n C d_M_begin_39 rfl rfl ?_
        refine z_bipush (v := nI 37) C d_M_begin_40 (by decide) ?_
        refine z_icmp_ne (tgt := 48) C d_M_begin_42 (by decide) (fun c_42 => ?_) (fun c_42 => ?_)
        · have c_42 : ¬ c = 37 := fun q => c_42 (congrArg nI q)
          refine z_iload_n C d_M_begin_48 rfl rfl ?_
          refine z_bipush (v := nI 43) C d_M_begin_49 (by decide) ?_
          refine z_icmp_eq (tgt := 60) C d_M_begin_51 (by decide) (fun c_51 => ?_) (fun c_51 => ?_)
          · have c_51 : c = 43 := (nI_eq (a := c) (b := 43) (by omega) (by omega)).mp c_51
            refine z_iload_n C d_M_begin_60 rfl rfl ?_
            refine z_iconst (v := nI 1) C d_M_begin_61 (by decide) ?_
            refine z_icmp_eq (tgt := 67) C d_M_begin_62 (by decide) (fun c_62 => ?_) (fun c_62 => ?_)
            · have c_62 : s0 = 1 := (nI_eq (a := s0) (b := 1) (by omega) (by omega)).mp c_62
              refine z_aload_n C d_M_begin_67 rfl rfl ?_
              refine z_get C in_M H.1 rfl 4 (by decide) fl_M_85 rfl rfl d_M_begin_68 ?_
              refine z_bipush (v := nI 8) C d_M_begin_71 (by decide) ?_
              refine z_icmp_ne (tgt := 78) C d_M_begin_73 (by decide) (fun c_73 => ?_) (fun c_73 => ?_)
              · have c_73 : ¬ xlev = 8 := fun q => c_73 (congrArg nI q)
                refine z_iload_n C d_M_begin_78 rfl rfl ?_
                refine z_bipush (v := nI 100) C d_M_begin_79 (by decide) ?_
                refine z_icmp_ne (tgt := 87) C d_M_begin_81 (by decide) (fun c_81 => ?_) (fun c_81 => ?_)
                · have c_81 : ¬ c = 100 := fun q => c_81 (congrArg nI q)
                  refine z_iload_n C d_M_begin_87 rfl rfl ?_
                  refine z_bipush (v := nI 115) C d_M_begin_88 (by decide) ?_
                  refine z_icmp_ne (tgt := 96) C d_M_begin_90 (by decide) (fun c_90 => ?_) (fun c_90 => ?_)
                  · have c_90 : ¬ c = 115 := fun q => c_90 (congrArg nI q)
                    refine z_iload_n C d_M_begin_96 rfl rfl ?_
                    refine z_bipush (v := nI 40) C d_M_begin_97 (by decide) ?_
                    refine z_icmp_ne (tgt := 110) C d_M_begin_99 (by decide) (fun c_99 => ?_) (fun c_99 => ?_)
                    · have c_99 : ¬ c = 40 := fun q => c_99 (congrArg nI q)
                      refine z_iconst (v := -1) C d_M_begin_110 (by decide) ?_
                      have e_ : m_beg s0 c xlev xkd = none := by
                        first | (exfalso; omega) | (unfold m_beg; (repeat first | rw [if_pos (by omega)] | rw [if_neg (by omega)]); try rfl)
                      exact z_iret C (by unfold aPost; rw [e_]; exact ⟨rfl, zoutR_rf, rfl, H⟩) d_M_begin_111
                    · have c_99 : c = 40 := (nI_eq (a := c) (b := 40) (by omega) (by omega)).mp c_99
                      refine z_aload_n C d_M_begin_102 rfl rfl ?_
                      refine z_iconst (v := nI 1) C d_M_begin_103 (by decide) ?_
                      refine z_callV (rest := []) (n := 1) (As := [.int (nI 1)]) C (m_open1 E X.2.1 sz _ H 1 (by omega)) ⟨z_cb C k_M_open ml_M_74 ii_M rfl rfl (by decide +kernel) ⟨by decide, by decide⟩, C.2.2.2.2.1 _ im_M_open, C.2.2.2.2.1 _ se_M_open⟩ H.1 rfl rfl rfl (Nat.le_of_ble_eq_true rfl) d_M_begin_104 ⟨by decide, by decide⟩ ?_
                      intro v_104 s_104 M_104 hp_104
                      have e_ : m_beg s0 c xlev xkd = m_open 1 xlev xkd := by
                        first | (exfalso; omega) | (unfold m_beg; (repeat first | rw [if_pos (by omega)] | rw [if_neg (by omega)]); try rfl)
                      obtain ⟨rfl, ho_104, hq_104⟩ := hp_104
                      rcases er : m_open 1 xlev xkd with _ | a_
                      · rw [er] at hq_104
                        obtain ⟨rfl, H_104⟩ := hq_104
                        show Z _ _ _ _ _ _ _ _ 107 _ [.int (-1)]
                        refine z_goto (tgt := 111) C d_M_begin_107 (by decide) ?_
                        exact z_iret C (by unfold aPost; rw [e_, er]; exact ⟨rfl, ho_104, rfl, H_104⟩) d_M_begin_111
                      · rw [er] at hq_104
                        obtain ⟨rfl, H_104⟩ := hq_104
                        show Z _ _ _ _ _ _ _ _ 107 _ [.int (nI a_.1)]
                        refine z_goto (tgt := 111) C d_M_begin_107 (by decide) ?_
                        exact z_iret C (by unfold aPost; rw [e_, er]; exact ⟨rfl, ho_104, rfl, H_104⟩) d_M_begin_111
                  · have c_90 : c = 115 := (nI_eq (a := c) (b := 115) (by omega) (by omega)).mp c_90
                    refine z_bipush (v := nI 24) C d_M_begin_93 (by decide) ?_
                    have e_ : m_beg s0 c xlev xkd = some (24, xlev, xkd) := by
                      first | (exfalso; omega) | (unfold m_beg; (repeat first | rw [if_pos (by omega)] | rw [if_neg (by omega)]); try rfl)
                    exact z_iret C (by unfold aPost; rw [e_]; exact ⟨rfl, zoutR_rf, rfl, H⟩) d_M_begin_95
                · have c_81 : c = 100 := (nI_eq (a := c) (b := 100) (by omega) (by omega)).mp c_81
                  refine z_bipush (v := nI 23) C d_M_begin_84 (by decide) ?_
                  have e_ : m_beg s0 c xlev xkd = some (23, xlev, xkd) := by
                    first | (exfalso; omega) | (unfold m_beg; (repeat first | rw [if_pos (by omega)] | rw [if_neg (by omega)]); try rfl)
                  exact z_iret C (by unfold aPost; rw [e_]; exact ⟨rfl, zoutR_rf, rfl, H⟩) d_M_begin_86
              · have c_73 : xlev = 8 := (nI_eq (a := xlev) (b := 8) (by omega) (by omega)).mp c_73
                refine z_iconst (v := -1) C d_M_begin_76 (by decide) ?_
                have e_ : m_beg s0 c xlev xkd = none := by
                  first | (exfalso; omega) | (unfold m_beg; (repeat first | rw [if_pos (by omega)] | rw [if_neg (by omega)]); try rfl)
                exact z_iret C (by unfold aPost; rw [e_]; exact ⟨rfl, zoutR_rf, rfl, H⟩) d_M_begin_77
            · have c_62 : ¬ s0 = 1 := fun q => c_62 (congrArg nI q)
              refine z_iconst (v := nI 1) C d_M_begin_65 (by decide) ?_
              have e_ : m_beg s0 c xlev xkd = some (1, xlev, xkd) := by
                first | (exfalso; omega) | (unfold m_beg; (repeat first | rw [if_pos (by omega)] | rw [if_neg (by omega)]); try rfl)
              exact z_iret C (by unfold aPost; rw [e_]; exact ⟨rfl, zoutR_rf, rfl, H⟩) d_M_begin_66
          · have c_51 : ¬ c = 43 := fun q => c_51 (congrArg nI q)
            refine z_iload_n C d_M_begin_54 rfl rfl ?_
            refine z_bipush (v := nI 45) C d_M_begin_55 (by decide) ?_
            refine z_icmp_ne (tgt := 67) C d_M_begin_57 (by decide) (fun c_57 => ?_) (fun c_57 => ?_)
            · have c_57 : ¬ c = 45 := fun q => c_57 (congrArg nI q)
              refine z_aload_n C d_M_begin_67 rfl rfl ?_
              refine z_get C in_M H.1 rfl 4 (by decide) fl_M_85 rfl rfl d_M_begin_68 ?_
              refine z_bipush (v := nI 8) C d_M_begin_71 (by decide) ?_
              refine z_icmp_ne (tgt := 78) C d_M_begin_73 (by decide) (fun c_73 => ?_) (fun c_73 => ?_)
              · have c_73 : ¬ xlev = 8 := fun q => c_73 (congrArg nI q)
                refine z_iload_n C d_M_begin_78 rfl rfl ?_
                refine z_bipush (v := nI 100) C d_M_begin_79 (by decide) ?_
                refine z_icmp_ne (tgt := 87) C d_M_begin_81 (by decide) (fun c_81 => ?_) (fun c_81 => ?_)
                · have c_81 : ¬ c = 100 := fun q => c_81 (congrArg nI q)
                  refine z_iload_n C d_M_begin_87 rfl rfl ?_
                  refine z_bipush (v := nI 115) C d_M_begin_88 (by decide) ?_
                  refine z_icmp_ne (tgt := 96) C d_M_begin_90 (by decide) (fun c_90 => ?_) (fun c_90 => ?_)
                  · have c_90 : ¬ c = 115 := fun q => c_90 (congrArg nI q)
                    refine z_iload_n C d_M_begin_96 rfl rfl ?_
                    refine z_bipush (v := nI 40) C d_M_begin_97 (by decide) ?_
                    refine z_icmp_ne (tgt := 110) C d_M_begin_99 (by decide) (fun c_99 => ?_) (fun c_99 => ?_)
                    · have c_99 : ¬ c = 40 := fun q => c_99 (congrArg nI q)
                      refine z_iconst (v := -1) C d_M_begin_110 (by decide) ?_
                      have e_ : m_beg s0 c xlev xkd = none := by
                        first | (exfalso; omega) | (unfold m_beg; (repeat first | rw [if_pos (by omega)] | rw [if_neg (by omega)]); try rfl)
                      exact z_iret C (by unfold aPost; rw [e_]; exact ⟨rfl, zoutR_rf, rfl, H⟩) d_M_begin_111
                    · have c_99 : c = 40 := (nI_eq (a := c) (b := 40) (by omega) (by omega)).mp c_99
                      refine z_aload_n C d_M_begin_102 rfl rfl ?_
                      refine z_iconst (v := nI 1) C d_M_begin_103 (by decide) ?_
                      refine z_callV (rest := []) (n := 1) (As := [.int (nI 1)]) C (m_open1 E X.2.1 sz _ H 1 (by omega)) ⟨z_cb C k_M_open ml_M_74 ii_M rfl rfl (by decide +kernel) ⟨by decide, by decide⟩, C.2.2.2.2.1 _ im_M_open, C.2.2.2.2.1 _ se_M_open⟩ H.1 rfl rfl rfl (Nat.le_of_ble_eq_true rfl) d_M_begin_104 ⟨by decide, by decide⟩ ?_
                      intro v_104 s_104 M_104 hp_104
                      have e_ : m_beg s0 c xlev xkd = m_open 1 xlev xkd := by
                        first | (exfalso; omega) | (unfold m_beg; (repeat first | rw [if_pos (by omega)] | rw [if_neg (by omega)]); try rfl)
                      obtain ⟨rfl, ho_104, hq_104⟩ := hp_104
                      rcases er : m_open 1 xlev xkd with _ | a_
                      · rw [er] at hq_104
                        obtain ⟨rfl, H_104⟩ := hq_104
                        show Z _ _ _ _ _ _ _ _ 107 _ [.int (-1)]
                        refine z_goto (tgt := 111) C d_M_begin_107 (by decide) ?_
                        exact z_iret C (by unfold aPost; rw [e_, er]; exact ⟨rfl, ho_104, rfl, H_104⟩) d_M_begin_111
                      · rw [er] at hq_104
                        obtain ⟨rfl, H_104⟩ := hq_104
                        show Z _ _ _ _ _ _ _ _ 107 _ [.int (nI a_.1)]
                        refine z_goto (tgt := 111) C d_M_begin_107 (by decide) ?_
                        exact z_iret C (by unfold aPost; rw [e_, er]; exact ⟨rfl, ho_104, rfl, H_104⟩) d_M_begin_111
                  · have c_90 : c = 115 := (nI_eq (a := c) (b := 115) (by omega) (by omega)).mp c_90
                    refine z_bipush (v := nI 24) C d_M_begin_93 (by decide) ?_
                    have e_ : m_beg s0 c xlev xkd = some (24, xlev, xkd) := by
                      first | (exfalso; omega) | (unfold m_beg; (repeat first | rw [if_pos (by omega)] | rw [if_neg (by omega)]); try rfl)
                    exact z_iret C (by unfold aPost; rw [e_]; exact ⟨rfl, zoutR_rf, rfl, H⟩) d_M_begin_95
                · have c_81 : c = 100 := (nI_eq (a := c) (b := 100) (by omega) (by omega)).mp c_81
                  refine z_bipush (v := nI 23) C d_M_begin_84 (by decide) ?_
                  have e_ : m_beg s0 c xlev xkd = some (23, xlev, xkd) := by
                    first | (exfalso; omega) | (unfold m_beg; (repeat first | rw [if_pos (by omega)] | rw [if_neg (by omega)]); try rfl)
                  exact z_iret C (by unfold aPost; rw [e_]; exact ⟨rfl, zoutR_rf, rfl, H⟩) d_M_begin_86
              · have c_73 : xlev = 8 := (nI_eq (a := xlev) (b := 8) (by omega) (by omega)).mp c_73
                refine z_iconst (v := -1) C d_M_begin_76 (by decide) ?_
                have e_ : m_beg s0 c xlev xkd = none := by
                  first | (exfalso; omega) | (unfold m_beg; (repeat first | rw [if_pos (by omega)] | rw [if_neg (by omega)]); try rfl)
                exact z_iret C (by unfold aPost; rw [e_]; exact ⟨rfl, zoutR_rf, rfl, H⟩) d_M_begin_77
            · have c_57 : c = 45 := (nI_eq (a := c) (b := 45) (by omega) (by omega)).mp c_57
              refine z_iload_n C d_M_begin_60 rfl rfl ?_
              refine z_iconst (v := nI 1) C d_M_begin_61 (by decide) ?_
              refine z_icmp_eq (tgt := 67) C d_M_begin_62 (by decide) (fun c_62 => ?_) (fun c_62 => ?_)
              · have c_62 : s0 = 1 := (nI_eq (a := s0) (b := 1) (by omega) (by omega)).mp c_62
                refine z_aload_n C d_M_begin_67 rfl rfl ?_
                refine z_get C in_M H.1 rfl 4 (by decide) fl_M_85 rfl rfl d_M_begin_68 ?_
                refine z_bipush (v := nI 8) C d_M_begin_71 (by decide) ?_
                refine z_icmp_ne (tgt := 78) C d_M_begin_73 (by decide) (fun c_73 => ?_) (fun c_73 => ?_)
                · have c_73 : ¬ xlev = 8 := fun q => c_73 (congrArg nI q)
                  refine z_iload_n C d_M_begin_78 rfl rfl ?_
                  refine z_bipush (v := nI 100) C d_M_begin_79 (by decide) ?_
                  refine z_icmp_ne (tgt := 87) C d_M_begin_81 (by decide) (fun c_81 => ?_) (fun c_81 => ?_)
                  · have c_81 : ¬ c = 100 := fun q => c_81 (congrArg nI q)
                    refine z_iload_n C d_M_begin_87 rfl rfl ?_
                    refine z_bipush (v := nI 115) C d_M_begin_88 (by decide) ?_
                    refine z_icmp_ne (tgt := 96) C d_M_begin_90 (by decide) (fun c_90 => ?_) (fun c_90 => ?_)
                    · have c_90 : ¬ c = 115 := fun q => c_90 (congrArg nI q)
                      refine z_iload_n C d_M_begin_96 rfl rfl ?_
                      refine z_bipush (v := nI 40) C d_M_begin_97 (by decide) ?_
                      refine z_icmp_ne (tgt := 110) C d_M_begin_99 (by decide) (fun c_99 => ?_) (fun c_99 => ?_)
                      · have c_99 : ¬ c = 40 := fun q => c_99 (congrArg nI q)
                        refine z_iconst (v := -1) C d_M_begin_110 (by decide) ?_
                        have e_ : m_beg s0 c xlev xkd = none := by
                          first | (exfalso; omega) | (unfold m_beg; (repeat first | rw [if_pos (by omega)] | rw [if_neg (by omega)]); try rfl)
                        exact z_iret C (by unfold aPost; rw [e_]; exact ⟨rfl, zoutR_rf, rfl, H⟩) d_M_begin_111
                      · have c_99 : c = 40 := (nI_eq (a := c) (b := 40) (by omega) (by omega)).mp c_99
                        refine z_aload_n C d_M_begin_102 rfl rfl ?_
                        refine z_iconst (v := nI 1) C d_M_begin_103 (by decide) ?_
                        refine z_callV (rest := []) (n := 1) (As := [.int (nI 1)]) C (m_open1 E X.2.1 sz _ H 1 (by omega)) ⟨z_cb C k_M_open ml_M_74 ii_M rfl rfl (by decide +kernel) ⟨by decide, by decide⟩, C.2.2.2.2.1 _ im_M_open, C.2.2.2.2.1 _ se_M_open⟩ H.1 rfl rfl rfl (Nat.le_of_ble_eq_true rfl) d_M_begin_104 ⟨by decide, by decide⟩ ?_
                        intro v_104 s_104 M_104 hp_104
                        have e_ : m_beg s0 c xlev xkd = m_open 1 xlev xkd := by
                          first | (exfalso; omega) | (unfold m_beg; (repeat first | rw [if_pos (by omega)] | rw [if_neg (by omega)]); try rfl)
                        obtain ⟨rfl, ho_104, hq_104⟩ := hp_104
                        rcases er : m_open 1 xlev xkd with _ | a_
                        · rw [er] at hq_104
                          obtain ⟨rfl, H_104⟩ := hq_104
                          show Z _ _ _ _ _ _ _ _ 107 _ [.int (-1)]
                          refine z_goto (tgt := 111) C d_M_begin_107 (by decide) ?_
                          exact z_iret C (by unfold aPost; rw [e_, er]; exact ⟨rfl, ho_104, rfl, H_104⟩) d_M_begin_111
                        · rw [er] at hq_104
                          obtain ⟨rfl, H_104⟩ := hq_104
                          show Z _ _ _ _ _ _ _ _ 107 _ [.int (nI a_.1)]
                          refine z_goto (tgt := 111) C d_M_begin_107 (by decide) ?_
                          exact z_iret C (by unfold aPost; rw [e_, er]; exact ⟨rfl, ho_104, rfl, H_104⟩) d_M_begin_111
                    · have c_90 : c = 115 := (nI_eq (a := c) (b := 115) (by omega) (by omega)).mp c_90
                      refine z_bipush (v := nI 24) C d_M_begin_93 (by decide) ?_
                      have e_ : m_beg s0 c xlev xkd = some (24, xlev, xkd) := by
                        first | (exfalso; omega) | (unfold m_beg; (repeat first | rw [if_pos (by omega)] | rw [if_neg (by omega)]); try rfl)
                      exact z_iret C (by unfold aPost; rw [e_]; exact ⟨rfl, zoutR_rf, rfl, H⟩) d_M_begin_95
                  · have c_81 : c = 100 := (nI_eq (a := c) (b := 100) (by omega) (by omega)).mp c_81
                    refine z_bipush (v := nI 23) C d_M_begin_84 (by decide) ?_
                    have e_ : m_beg s0 c xlev xkd = some (23, xlev, xkd) := by
                      first | (exfalso; omega) | (unfold m_beg; (repeat first | rw [if_pos (by omega)] | rw [if_neg (by omega)]); try rfl)
                    exact z_iret C (by unfold aPost; rw [e_]; exact ⟨rfl, zoutR_rf, rfl, H⟩) d_M_begin_86
                · have c_73 : xlev = 8 := (nI_eq (a := xlev) (b := 8) (by omega) (by omega)).mp c_73
                  refine z_iconst (v := -1) C d_M_begin_76 (by decide) ?_
                  have e_ : m_beg s0 c xlev xkd = none := by
                    first | (exfalso; omega) | (unfold m_beg; (repeat first | rw [if_pos (by omega)] | rw [if_neg (by omega)]); try rfl)
                  exact z_iret C (by unfold aPost; rw [e_]; exact ⟨rfl, zoutR_rf, rfl, H⟩) d_M_begin_77
              · have c_62 : ¬ s0 = 1 := fun q => c_62 (congrArg nI q)
                refine z_iconst (v := nI 1) C d_M_begin_65 (by decide) ?_
                have e_ : m_beg s0 c xlev xkd = some (1, xlev, xkd) := by
                  first | (exfalso; omega) | (unfold m_beg; (repeat first | rw [if_pos (by omega)] | rw [if_neg (by omega)]); try rfl)
                exact z_iret C (by unfold aPost; rw [e_]; exact ⟨rfl, zoutR_rf, rfl, H⟩) d_M_begin_66
        · have c_42 : c = 37 := (nI_eq (a := c) (b := 37) (by omega) (by omega)).mp c_42
          refine z_bipush (v := nI 21) C d_M_begin_45 (by decide) ?_
          have e_ : m_beg s0 c xlev xkd = some (21, xlev, xkd) := by
            first | (exfalso; omega) | (unfold m_beg; (repeat first | rw [if_pos (by omega)] | rw [if_neg (by omega)]); try rfl)
          exact z_iret C (by unfold aPost; rw [e_]; exact ⟨rfl, zoutR_rf, rfl, H⟩) d_M_begin_47
      · have c_23 : (isNm c) := b01_ne c_23
        refine z_iload_n C d_M_begin_26 rfl rfl ?_
        refine z_bipush (v := nI 26) C d_M_begin_27 (by decide) ?_
        refine z_icmp_ne (tgt := 37) C d_M_begin_29 (by decide) (fun c_29 => ?_) (fun c_29 => ?_)
        · have c_29 : ¬ s0 = 26 := fun q => c_29 (congrArg nI q)
          refine z_iconst (v := nI 2) C d_M_begin_37 (by decide) ?_
          have e_ : m_beg s0 c xlev xkd = some (2, xlev, xkd) := by
            first | (exfalso; omega) | (unfold m_beg; (repeat first | rw [if_pos (by omega)] | rw [if_neg (by omega)]); try rfl)
          exact z_iret C (by unfold aPost; rw [e_]; exact ⟨rfl, zoutR_rf, rfl, H⟩) d_M_begin_38
        · have c_29 : s0 = 26 := (nI_eq (a := s0) (b := 26) (by omega) (by omega)).mp c_29
          refine z_bipush (v := nI 25) C d_M_begin_32 (by decide) ?_
          refine z_goto (tgt := 38) C d_M_begin_34 (by decide) ?_
          have e_ : m_beg s0 c xlev xkd = some (25, xlev, xkd) := by
            first | (exfalso; omega) | (unfold m_beg; (repeat first | rw [if_pos (by omega)] | rw [if_neg (by omega)]); try rfl)
          exact z_iret C (by unfold aPost; rw [e_]; exact ⟨rfl, zoutR_rf, rfl, H⟩) d_M_begin_38
    · have c_13 : c = 120 := (nI_eq (a := c) (b := 120) (by omega) (by omega)).mp c_13
      refine z_iconst (v := nI 2) C d_M_begin_16 (by decide) ?_
      have e_ : m_beg s0 c xlev xkd = some (2, xlev, xkd) := by
        first | (exfalso; omega) | (unfold m_beg; (repeat first | rw [if_pos (by omega)] | rw [if_neg (by omega)]); try rfl)
      exact z_iret C (by unfold aPost; rw [e_]; exact ⟨rfl, zoutR_rf, rfl, H⟩) d_M_begin_17
  · have c_5 : (isD c) := b01_ne c_5
    refine z_iconst (v := nI 4) C d_M_begin_8 (by decide) ?_
    have e_ : m_beg s0 c xlev xkd = some (4, xlev, xkd) := by
      first | (exfalso; omega) | (unfold m_beg; (repeat first | rw [if_pos (by omega)] | rw [if_neg (by omega)]); try rfl)
    exact z_iret C (by unfold aPost; rw [e_]; exact ⟨rfl, zoutR_rf, rfl, H⟩) d_M_begin_9
set_option maxHeartbeats 4000000 in
/-- M_stateAt -/
theorem m_stateAt (E : zE) (l : Launch) (sz : Nat) (M : zM) {m : Nat} {xln : Nat → Nat} {xlen : Nat} {xlab : Nat} {xbad : Int32} {xlev : Nat} {xtr : Int32} {xwa : Nat} {xpl : Nat} {xfo : Nat} {xsf : Nat → Nat} {xbf : Nat → Nat} {xF : Nat → FF} {xG : Nat → FF} {xP : Nat → FF} {xQ : Nat → FF} {xmm : Nat → FF} {xsl : Nat → Nat} {xkd : Nat → Nat} {xhs : Nat → Nat} {xht : Nat → Nat} {xsg : Nat → Nat} {xdv : Nat → Nat} (H : mw E M m xln xlen xlab xbad xlev xtr xwa xpl xfo xsf xbf xF xG xP xQ xmm xsl xkd xhs xht xsg xdv) (s0 c : Nat) (hc : c < 128) (hi : ainv s0 xlev) (hkd : ∀ j, xkd j < 100) : zMet E l y_M_stateAt c_M_stateAt 3 (some .int) { frames := 2, cells := 0, slots := 0, locals := 43 } 0 0 [.ref m, .int (nI s0), .int (nI c)] sz M (aPost E M sz m xln xlen xlab xbad xlev xtr xwa xpl xfo xsf xbf xF xG xP xQ xmm xsl xkd xhs xht xsg xdv (m_at s0 c xlev xkd)) := by
  obtain ⟨hs0, hlev, h8⟩ := id hi
  refine zMet.ofZ (by decide) (Nat.le_of_ble_eq_true rfl) ?_
  intro X hl hini C
  show Z X E 3 _ 0 0 sz M 0 [(0, .ref m), (1, .int (nI s0)), (2, .int (nI c))] []
  refine z_iload_n C d_M_stateAt_0 rfl rfl ?_
  refine z_bipush (v := nI 23) C d_M_stateAt_1 (by decide) ?_
  refine z_icmp_eq (tgt := 12) C d_M_stateAt_3 (by decide) (fun c_3 => ?_) (fun c_3 => ?_)
  · have c_3 : s0 = 23 := (nI_eq (a := s0) (b := 23) (by omega) (by omega)).mp c_3
    refine z_iload_n C d_M_stateAt_12 rfl rfl ?_
    refine z_bipush (v := nI 40) C d_M_stateAt_13 (by decide) ?_
    refine z_icmp_eq (tgt := 20) C d_M_stateAt_15 (by decide) (fun c_15 => ?_) (fun c_15 => ?_)
    · have c_15 : c = 40 := (nI_eq (a := c) (b := 40) (by omega) (by omega)).mp c_15
      refine z_aload_n C d_M_stateAt_20 rfl rfl ?_
      refine z_iload_n C d_M_stateAt_21 rfl rfl ?_
      refine z_bipush (v := nI 23) C d_M_stateAt_22 (by decide) ?_
      refine z_icmp_ne (tgt := 31) C d_M_stateAt_24 (by decide) (fun c_24 => ?_) (fun c_24 => ?_)
      · have c_24 : ¬ s0 = 23 := fun q => c_24 (congrArg nI q)
        refine z_iconst (v := nI 3) C d_M_stateAt_31 (by decide) ?_
        refine z_callV (rest := []) (n := 1) (As := [.int (nI 3)]) C (m_open1 E X.2.1 sz _ H 3 (by omega)) ⟨z_cb C k_M_open ml_M_74 ii_M rfl rfl (by decide +kernel) ⟨by decide, by decide⟩, C.2.2.2.2.1 _ im_M_open, C.2.2.2.2.1 _ se_M_open⟩ H.1 rfl rfl rfl (Nat.le_of_ble_eq_true rfl) d_M_stateAt_32 ⟨by decide, by decide⟩ ?_
        intro v_32 s_32 M_32 hp_32
        have e_ : m_at s0 c xlev xkd = m_open 3 xlev xkd := by
          first | (exfalso; omega) | (unfold m_at; (repeat first | rw [if_pos (by omega)] | rw [if_neg (by omega)]); try rfl)
        obtain ⟨rfl, ho_32, hq_32⟩ := hp_32
        rcases er : m_open 3 xlev xkd with _ | a_
        · rw [er] at hq_32
          obtain ⟨rfl, H_32⟩ := hq_32
          show Z _ _ _ _ _ _ _ _ 35 _ [.int (-1)]
          exact z_iret C (by unfold aPost; rw [e_, er]; exact ⟨rfl, ho_32, rfl, H_32⟩) d_M_stateAt_35
        · rw [er] at hq_32
          obtain ⟨rfl, H_32⟩ := hq_32
          show Z _ _ _ _ _ _ _ _ 35 _ [.int (nI a_.1)]
          exact z_iret C (by unfold aPost; rw [e_, er]; exact ⟨rfl, ho_32, rfl, H_32⟩) d_M_stateAt_35
      · have c_24 : s0 = 23 := (nI_eq (a := s0) (b := 23) (by omega) (by omega)).mp c_24
        refine z_iconst (v := nI 2) C d_M_stateAt_27 (by decide) ?_
        refine z_goto (tgt := 32) C d_M_stateAt_28 (by decide) ?_
        refine z_callV (rest := []) (n := 1) (As := [.int (nI 2)]) C (m_open1 E X.2.1 sz _ H 2 (by omega)) ⟨z_cb C k_M_open ml_M_74 ii_M rfl rfl (by decide +kernel) ⟨by decide, by decide⟩, C.2.2.2.2.1 _ im_M_open, C.2.2.2.2.1 _ se_M_open⟩ H.1 rfl rfl rfl (Nat.le_of_ble_eq_true rfl) d_M_stateAt_32 ⟨by decide, by decide⟩ ?_
        intro v_32 s_32 M_32 hp_32
        have e_ : m_at s0 c xlev xkd = m_open 2 xlev xkd := by
          first | (exfalso; omega) | (unfold m_at; (repeat first | rw [if_pos (by omega)] | rw [if_neg (by omega)]); try rfl)
        obtain ⟨rfl, ho_32, hq_32⟩ := hp_32
        rcases er : m_open 2 xlev xkd with _ | a_
        · rw [er] at hq_32
          obtain ⟨rfl, H_32⟩ := hq_32
          show Z _ _ _ _ _ _ _ _ 35 _ [.int (-1)]
          exact z_iret C (by unfold aPost; rw [e_, er]; exact ⟨rfl, ho_32, rfl, H_32⟩) d_M_stateAt_35
        · rw [er] at hq_32
          obtain ⟨rfl, H_32⟩ := hq_32
          show Z _ _ _ _ _ _ _ _ 35 _ [.int (nI a_.1)]
          exact z_iret C (by unfold aPost; rw [e_, er]; exact ⟨rfl, ho_32, rfl, H_32⟩) d_M_stateAt_35
    · have c_15 : ¬ c = 40 := fun q => c_15 (congrArg nI q)
      refine z_iconst (v := -1) C d_M_stateAt_18 (by decide) ?_
      have e_ : m_at s0 c xlev xkd = none := by
        first | (exfalso; omega) | (unfold m_at; (repeat first | rw [if_pos (by omega)] | rw [if_neg (by omega)]); try rfl)
      exact z_iret C (by unfold aPost; rw [e_]; exact ⟨rfl, zoutR_rf, rfl, H⟩) d_M_stateAt_19
  · have c_3 : ¬ s0 = 23 := fun q => c_3 (congrArg nI q)
    refine z_iload_n C d_M_stateAt_6 rfl rfl ?_
    refine z_bipush (v := nI 24) C d_M_stateAt_7 (by decide) ?_
    refine z_icmp_ne (tgt := 36) C d_M_stateAt_9 (by decide) (fun c_9 => ?_) (fun c_9 => ?_)
    · have c_9 : ¬ s0 = 24 := fun q => c_9 (congrArg nI q)
      refine z_iload_n C d_M_stateAt_36 rfl rfl ?_
      refine z_if_eq (tgt := 51) C d_M_stateAt_37 (by decide) (fun c_37 => ?_) (fun c_37 => ?_)
      · have c_37 : s0 = 0 := (nI_eq (a := s0) (b := 0) (by omega) (by omega)).mp c_37
        refine z_aload_n C d_M_stateAt_51 rfl rfl ?_
        refine z_iload_n C d_M_stateAt_52 rfl rfl ?_
        refine z_iload_n C d_M_stateAt_53 rfl rfl ?_
        refine z_callV (rest := []) (n := 2) (As := [.int (nI s0), .int (nI c)]) C (m_begin E X.2.1 sz _ H s0 c (by omega) (by omega) (by omega)) ⟨z_cb C k_M_begin ml_M_77 ii_M rfl rfl (by decide +kernel) ⟨by decide, by decide⟩, C.2.2.2.2.1 _ im_M_begin, C.2.2.2.2.1 _ se_M_begin⟩ H.1 rfl rfl rfl (Nat.le_of_ble_eq_true rfl) d_M_stateAt_54 ⟨by decide, by decide⟩ ?_
        intro v_54 s_54 M_54 hp_54
        have e_ : m_at s0 c xlev xkd = m_beg s0 c xlev xkd := by
          first | (exfalso; omega) | (unfold m_at; (repeat first | rw [if_pos (by omega)] | rw [if_neg (by omega)]); try rfl)
        obtain ⟨rfl, ho_54, hq_54⟩ := hp_54
        rcases er : m_beg s0 c xlev xkd with _ | a_
        · rw [er] at hq_54
          obtain ⟨rfl, H_54⟩ := hq_54
          show Z _ _ _ _ _ _ _ _ 57 _ [.int (-1)]
          exact z_iret C (by unfold aPost; rw [e_, er]; exact ⟨rfl, ho_54, rfl, H_54⟩) d_M_stateAt_57
        · rw [er] at hq_54
          obtain ⟨rfl, H_54⟩ := hq_54
          show Z _ _ _ _ _ _ _ _ 57 _ [.int (nI a_.1)]
          exact z_iret C (by unfold aPost; rw [e_, er]; exact ⟨rfl, ho_54, rfl, H_54⟩) d_M_stateAt_57
      · have c_37 : ¬ s0 = 0 := fun q => c_37 (congrArg nI q)
        refine z_iload_n C d_M_stateAt_40 rfl rfl ?_
        refine z_iconst (v := nI 1) C d_M_stateAt_41 (by decide) ?_
        refine z_icmp_eq (tgt := 51) C d_M_stateAt_42 (by decide) (fun c_42 => ?_) (fun c_42 => ?_)
        · have c_42 : s0 = 1 := (nI_eq (a := s0) (b := 1) (by omega) (by omega)).mp c_42
          refine z_aload_n C d_M_stateAt_51 rfl rfl ?_
          refine z_iload_n C d_M_stateAt_52 rfl rfl ?_
          refine z_iload_n C d_M_stateAt_53 rfl rfl ?_
          refine z_callV (rest := []) (n := 2) (As := [.int (nI s0), .int (nI c)]) C (m_begin E X.2.1 sz _ H s0 c (by omega) (by omega) (by omega)) ⟨z_cb C k_M_begin ml_M_77 ii_M rfl rfl (by decide +kernel) ⟨by decide, by decide⟩, C.2.2.2.2.1 _ im_M_begin, C.2.2.2.2.1 _ se_M_begin⟩ H.1 rfl rfl rfl (Nat.le_of_ble_eq_true rfl) d_M_stateAt_54 ⟨by decide, by decide⟩ ?_
          intro v_54 s_54 M_54 hp_54
          have e_ : m_at s0 c xlev xkd = m_beg s0 c xlev xkd := by
            first | (exfalso; omega) | (unfold m_at; (repeat first | rw [if_pos (by omega)] | rw [if_neg (by omega)]); try rfl)
          obtain ⟨rfl, ho_54, hq_54⟩ := hp_54
          rcases er : m_beg s0 c xlev xkd with _ | a_
          · rw [er] at hq_54
            obtain ⟨rfl, H_54⟩ := hq_54
            show Z _ _ _ _ _ _ _ _ 57 _ [.int (-1)]
            exact z_iret C (by unfold aPost; rw [e_, er]; exact ⟨rfl, ho_54, rfl, H_54⟩) d_M_stateAt_57
          · rw [er] at hq_54
            obtain ⟨rfl, H_54⟩ := hq_54
            show Z _ _ _ _ _ _ _ _ 57 _ [.int (nI a_.1)]
            exact z_iret C (by unfold aPost; rw [e_, er]; exact ⟨rfl, ho_54, rfl, H_54⟩) d_M_stateAt_57
        · have c_42 : ¬ s0 = 1 := fun q => c_42 (congrArg nI q)
          refine z_iload_n C d_M_stateAt_45 rfl rfl ?_
          refine z_bipush (v := nI 26) C d_M_stateAt_46 (by decide) ?_
          refine z_icmp_ne (tgt := 58) C d_M_stateAt_48 (by decide) (fun c_48 => ?_) (fun c_48 => ?_)
          · have c_48 : ¬ s0 = 26 := fun q => c_48 (congrArg nI q)
            refine z_iload_n C d_M_stateAt_58 rfl rfl ?_
            refine z_bipush (v := nI 9) C d_M_stateAt_59 (by decide) ?_
            refine z_icmp_eq (tgt := 70) C d_M_stateAt_61 (by decide) (fun c_61 => ?_) (fun c_61 => ?_)
            · have c_61 : s0 = 9 := (nI_eq (a := s0) (b := 9) (by omega) (by omega)).mp c_61
              refine z_aload_n C d_M_stateAt_70 rfl rfl ?_
              refine z_iload_n C d_M_stateAt_71 rfl rfl ?_
              refine z_callV (rest := []) (n := 1) (As := [.int (nI c)]) C (m_digitN E X.2.1 sz _ H c (by omega)) ⟨z_cb C k_M_digit ml_M_57 ii_M rfl rfl (by decide +kernel) ⟨by decide, by decide⟩, C.2.2.2.2.1 _ im_M_digit, C.2.2.2.2.1 _ se_M_digit⟩ H.1 rfl rfl rfl (Nat.le_of_ble_eq_true rfl) d_M_stateAt_72 ⟨by decide, by decide⟩ ?_
              intro v_72 s_72 M_72 hp_72
              obtain ⟨rfl, rfl, rfl⟩ := hp_72
              show Z _ _ _ _ _ _ _ _ 75 _ [.int (nI (b01 (isD c)))]
              refine z_if_eq (tgt := 86) C d_M_stateAt_75 (by decide) (fun c_75 => ?_) (fun c_75 => ?_)
              · have c_75 : ¬ (isD c) := b01_z c_75
                refine z_iload_n C d_M_stateAt_86 rfl rfl ?_
                refine z_bipush (v := nI 9) C d_M_stateAt_87 (by decide) ?_
                refine z_icmp_ne (tgt := 103) C d_M_stateAt_89 (by decide) (fun c_89 => ?_) (fun c_89 => ?_)
                · have c_89 : ¬ s0 = 9 := fun q => c_89 (congrArg nI q)
                  refine z_iconst (v := -1) C d_M_stateAt_103 (by decide) ?_
                  have e_ : m_at s0 c xlev xkd = none := by
                    first | (exfalso; omega) | (unfold m_at; (repeat first | rw [if_pos (by omega)] | rw [if_neg (by omega)]); try rfl)
                  exact z_iret C (by unfold aPost; rw [e_]; exact ⟨rfl, zoutR_rf, rfl, H⟩) d_M_stateAt_104
                · have c_89 : s0 = 9 := (nI_eq (a := s0) (b := 9) (by omega) (by omega)).mp c_89
                  refine z_iload_n C d_M_stateAt_92 rfl rfl ?_
                  refine z_bipush (v := nI 45) C d_M_stateAt_93 (by decide) ?_
                  refine z_icmp_ne (tgt := 103) C d_M_stateAt_95 (by decide) (fun c_95 => ?_) (fun c_95 => ?_)
                  · have c_95 : ¬ c = 45 := fun q => c_95 (congrArg nI q)
                    refine z_iconst (v := -1) C d_M_stateAt_103 (by decide) ?_
                    have e_ : m_at s0 c xlev xkd = none := by
                      first | (exfalso; omega) | (unfold m_at; (repeat first | rw [if_pos (by omega)] | rw [if_neg (by omega)]); try rfl)
                    exact z_iret C (by unfold aPost; rw [e_]; exact ⟨rfl, zoutR_rf, rfl, H⟩) d_M_stateAt_104
                  · have c_95 : c = 45 := (nI_eq (a := c) (b := 45) (by omega) (by omega)).mp c_95
                    refine z_bipush (v := nI 10) C d_M_stateAt_98 (by decide) ?_
                    refine z_goto (tgt := 104) C d_M_stateAt_100 (by decide) ?_
                    have e_ : m_at s0 c xlev xkd = some (10, xlev, xkd) := by
                      first | (exfalso; omega) | (unfold m_at; (repeat first | rw [if_pos (by omega)] | rw [if_neg (by omega)]); try rfl)
                    exact z_iret C (by unfold aPost; rw [e_]; exact ⟨rfl, zoutR_rf, rfl, H⟩) d_M_stateAt_104
              · have c_75 : (isD c) := b01_ne c_75
                refine z_bipush (v := nI 11) C d_M_stateAt_78 (by decide) ?_
                refine z_iload_n C d_M_stateAt_80 rfl rfl ?_
                refine z_iadd C d_M_stateAt_81 ?_
                refine z_top (y := nI (11 + c)) (nI_add _ _) ?_
                refine z_bipush (v := nI 48) C d_M_stateAt_82 (by decide) ?_
                refine z_isub C d_M_stateAt_84 ?_
                refine z_top (y := nI ((11 + c) - 48)) (pk_sub (by omega)) ?_
                have e_ : m_at s0 c xlev xkd = some (((11 + c) - 48), xlev, xkd) := by
                  first | (exfalso; omega) | (unfold m_at; (repeat first | rw [if_pos (by omega)] | rw [if_neg (by omega)]); try rfl)
                exact z_iret C (by unfold aPost; rw [e_]; exact ⟨rfl, zoutR_rf, rfl, H⟩) d_M_stateAt_85
            · have c_61 : ¬ s0 = 9 := fun q => c_61 (congrArg nI q)
              refine z_iload_n C d_M_stateAt_64 rfl rfl ?_
              refine z_bipush (v := nI 10) C d_M_stateAt_65 (by decide) ?_
              refine z_icmp_ne (tgt := 105) C d_M_stateAt_67 (by decide) (fun c_67 => ?_) (fun c_67 => ?_)
              · have c_67 : ¬ s0 = 10 := fun q => c_67 (congrArg nI q)
                refine z_iload_n C d_M_stateAt_105 rfl rfl ?_
                refine z_bipush (v := nI 21) C d_M_stateAt_106 (by decide) ?_
                refine z_icmp_ne (tgt := 126) C d_M_stateAt_108 (by decide) (fun c_108 => ?_) (fun c_108 => ?_)
                · have c_108 : ¬ s0 = 21 := fun q => c_108 (congrArg nI q)
                  refine z_aload_n C d_M_stateAt_126 rfl rfl ?_
                  refine z_iload_n C d_M_stateAt_127 rfl rfl ?_
                  refine z_callV (rest := []) (n := 1) (As := [.int (nI c)]) C (m_digitN E X.2.1 sz _ H c (by omega)) ⟨z_cb C k_M_digit ml_M_57 ii_M rfl rfl (by decide +kernel) ⟨by decide, by decide⟩, C.2.2.2.2.1 _ im_M_digit, C.2.2.2.2.1 _ se_M_digit⟩ H.1 rfl rfl rfl (Nat.le_of_ble_eq_true rfl) d_M_stateAt_128 ⟨by decide, by decide⟩ ?_
                  intro v_128 s_128 M_128 hp_128
                  obtain ⟨rfl, rfl, rfl⟩ := hp_128
                  show Z _ _ _ _ _ _ _ _ 131 _ [.int (nI (b01 (isD c)))]
                  refine z_if_eq (tgt := 192) C d_M_stateAt_131 (by decide) (fun c_131 => ?_) (fun c_131 => ?_)
                  · have c_131 : ¬ (isD c) := b01_z c_131
                    refine z_iload_n C d_M_stateAt_192 rfl rfl ?_
                    refine z_bipush (v := nI 58) C d_M_stateAt_193 (by decide) ?_
                    refine z_icmp_ne (tgt := 210) C d_M_stateAt_195 (by decide) (fun c_195 => ?_) (fun c_195 => ?_)
                    · have c_195 : ¬ c = 58 := fun q => c_195 (congrArg nI q)
                      refine z_iload_n C d_M_stateAt_210 rfl rfl ?_
                      refine z_bipush (v := nI 94) C d_M_stateAt_211 (by decide) ?_
                      refine z_icmp_ne (tgt := 240) C d_M_stateAt_213 (by decide) (fun c_213 => ?_) (fun c_213 => ?_)
                      · have c_213 : ¬ c = 94 := fun q => c_213 (congrArg nI q)
                        refine z_iload_n C d_M_stateAt_240 rfl rfl ?_
                        refine z_bipush (v := nI 43) C d_M_stateAt_241 (by decide) ?_
                        refine z_icmp_eq (tgt := 264) C d_M_stateAt_243 (by decide) (fun c_243 => ?_) (fun c_243 => ?_)
                        · have c_243 : c = 43 := (nI_eq (a := c) (b := 43) (by omega) (by omega)).mp c_243
                          refine z_iconst (v := nI 1) C d_M_stateAt_264 (by decide) ?_
                          have e_ : m_at s0 c xlev xkd = some (1, xlev, xkd) := by
                            first | (exfalso; omega) | (unfold m_at; (repeat first | rw [if_pos (by omega)] | rw [if_neg (by omega)]); try rfl)
                          exact z_iret C (by unfold aPost; rw [e_]; exact ⟨rfl, zoutR_rf, rfl, H⟩) d_M_stateAt_265
                        · have c_243 : ¬ c = 43 := fun q => c_243 (congrArg nI q)
                          refine z_iload_n C d_M_stateAt_246 rfl rfl ?_
                          refine z_bipush (v := nI 45) C d_M_stateAt_247 (by decide) ?_
                          refine z_icmp_eq (tgt := 264) C d_M_stateAt_249 (by decide) (fun c_249 => ?_) (fun c_249 => ?_)
                          · have c_249 : c = 45 := (nI_eq (a := c) (b := 45) (by omega) (by omega)).mp c_249
                            refine z_iconst (v := nI 1) C d_M_stateAt_264 (by decide) ?_
                            have e_ : m_at s0 c xlev xkd = some (1, xlev, xkd) := by
                              first | (exfalso; omega) | (unfold m_at; (repeat first | rw [if_pos (by omega)] | rw [if_neg (by omega)]); try rfl)
                            exact z_iret C (by unfold aPost; rw [e_]; exact ⟨rfl, zoutR_rf, rfl, H⟩) d_M_stateAt_265
                          · have c_249 : ¬ c = 45 := fun q => c_249 (congrArg nI q)
                            refine z_iload_n C d_M_stateAt_252 rfl rfl ?_
                            refine z_bipush (v := nI 42) C d_M_stateAt_253 (by decide) ?_
                            refine z_icmp_eq (tgt := 264) C d_M_stateAt_255 (by decide) (fun c_255 => ?_) (fun c_255 => ?_)
                            · have c_255 : c = 42 := (nI_eq (a := c) (b := 42) (by omega) (by omega)).mp c_255
                              refine z_iconst (v := nI 1) C d_M_stateAt_264 (by decide) ?_
                              have e_ : m_at s0 c xlev xkd = some (1, xlev, xkd) := by
                                first | (exfalso; omega) | (unfold m_at; (repeat first | rw [if_pos (by omega)] | rw [if_neg (by omega)]); try rfl)
                              exact z_iret C (by unfold aPost; rw [e_]; exact ⟨rfl, zoutR_rf, rfl, H⟩) d_M_stateAt_265
                            · have c_255 : ¬ c = 42 := fun q => c_255 (congrArg nI q)
                              refine z_iload_n C d_M_stateAt_258 rfl rfl ?_
                              refine z_bipush (v := nI 47) C d_M_stateAt_259 (by decide) ?_
                              refine z_icmp_ne (tgt := 266) C d_M_stateAt_261 (by decide) (fun c_261 => ?_) (fun c_261 => ?_)
                              · have c_261 : ¬ c = 47 := fun q => c_261 (congrArg nI q)
                                refine z_iload_n C d_M_stateAt_266 rfl rfl ?_
                                refine z_bipush (v := nI 41) C d_M_stateAt_267 (by decide) ?_
                                refine z_icmp_ne (tgt := 277) C d_M_stateAt_269 (by decide) (fun c_269 => ?_) (fun c_269 => ?_)
                                · have c_269 : ¬ c = 41 := fun q => c_269 (congrArg nI q)
                                  refine z_iload_n C d_M_stateAt_277 rfl rfl ?_
                                  refine z_bipush (v := nI 44) C d_M_stateAt_278 (by decide) ?_
                                  refine z_icmp_ne (tgt := 303) C d_M_stateAt_280 (by decide) (fun c_280 => ?_) (fun c_280 => ?_)
                                  · have c_280 : ¬ c = 44 := fun q => c_280 (congrArg nI q)
                                    refine z_iconst (v := -1) C d_M_stateAt_303 (by decide) ?_
                                    have e_ : m_at s0 c xlev xkd = none := by
                                      first | (exfalso; omega) | (unfold m_at; (repeat first | rw [if_pos (by omega)] | rw [if_neg (by omega)]); try rfl)
                                    exact z_iret C (by unfold aPost; rw [e_]; exact ⟨rfl, zoutR_rf, rfl, H⟩) d_M_stateAt_304
                                  · have c_280 : c = 44 := (nI_eq (a := c) (b := 44) (by omega) (by omega)).mp c_280
                                    refine z_aload_n C d_M_stateAt_283 rfl rfl ?_
                                    refine z_get C in_M H.1 rfl 4 (by decide) fl_M_85 rfl rfl d_M_stateAt_284 ?_
                                    refine z_if_eq (tgt := 303) C d_M_stateAt_287 (by decide) (fun c_287 => ?_) (fun c_287 => ?_)
                                    · have c_287 : xlev = 0 := (nI_eq (a := xlev) (b := 0) (by omega) (by omega)).mp c_287
                                      refine z_iconst (v := -1) C d_M_stateAt_303 (by decide) ?_
                                      have e_ : m_at s0 c xlev xkd = none := by
                                        first | (exfalso; omega) | (unfold m_at; (repeat first | rw [if_pos (by omega)] | rw [if_neg (by omega)]); try rfl)
                                      exact z_iret C (by unfold aPost; rw [e_]; exact ⟨rfl, zoutR_rf, rfl, H⟩) d_M_stateAt_304
                                    · have c_287 : ¬ xlev = 0 := fun q => c_287 (congrArg nI q)
                                      have hk0 := hkd xlev
                                      refine z_aload_n C d_M_stateAt_290 rfl rfl ?_
                                      refine z_get C in_M H.1 rfl 17 (by decide) fl_M_41 rfl rfl d_M_stateAt_291 ?_
                                      refine z_aload_n C d_M_stateAt_294 rfl rfl ?_
                                      refine z_get C in_M H.1 rfl 4 (by decide) fl_M_85 rfl rfl d_M_stateAt_295 ?_
                                      refine z_iald C H.2.2.2.2.2.2.2.2.2.2.1 0 rfl xlev (rfl) (by omega) (by omega) d_M_stateAt_298 ?_
                                      refine z_top (y := nI (xkd xlev)) rfl ?_
                                      refine z_iconst (v := nI 3) C d_M_stateAt_299 (by decide) ?_
                                      refine z_icmp_eq (tgt := 305) C d_M_stateAt_300 (by decide) (fun c_300 => ?_) (fun c_300 => ?_)
                                      · have c_300 : (xkd xlev) = 3 := (nI_eq (a := (xkd xlev)) (b := 3) (by omega) (by omega)).mp c_300
                                        refine z_aload_n C d_M_stateAt_305 rfl rfl ?_
                                        refine z_get C in_M H.1 rfl 17 (by decide) fl_M_41 rfl rfl d_M_stateAt_306 ?_
                                        refine z_aload_n C d_M_stateAt_309 rfl rfl ?_
                                        refine z_get C in_M H.1 rfl 4 (by decide) fl_M_85 rfl rfl d_M_stateAt_310 ?_
                                        refine z_iconst (v := nI 4) C d_M_stateAt_313 (by decide) ?_
                                        refine z_iast C H.2.2.2.2.2.2.2.2.2.2.1 0 rfl xlev (rfl) (by omega) (by omega) d_M_stateAt_314 ?_
                                        refine z_world (M' := zU M (m + 10) (.inl (E.2.1 0, 10, .inl (fun j => nI ((updN xkd xlev 4) j))))) (congrArg (fun e => zU M (m + 10) (.inl (E.2.1 0, 10, .inl e))) nI_upd) ?_
                                        refine z_iconst (v := nI 0) C d_M_stateAt_315 (by decide) ?_
                                        have e_ : m_at s0 c xlev xkd = some (0, xlev, (updN xkd xlev 4)) := by
                                          first | (exfalso; omega) | (unfold m_at; (repeat first | rw [if_pos (by omega)] | rw [if_neg (by omega)]); try rfl)
                                        exact z_iret C (by unfold aPost; rw [e_]; exact ⟨rfl, (zoutR_tr zoutR_rf (zo_u (by omega) (by omega))), rfl, (mw_a10 H (updN xkd xlev 4))⟩) d_M_stateAt_316
                                      · have c_300 : ¬ (xkd xlev) = 3 := fun q => c_300 (congrArg nI q)
                                        refine z_iconst (v := -1) C d_M_stateAt_303 (by decide) ?_
                                        have e_ : m_at s0 c xlev xkd = none := by
                                          first | (exfalso; omega) | (unfold m_at; (repeat first | rw [if_pos (by omega)] | rw [if_neg (by omega)]); try rfl)
                                        exact z_iret C (by unfold aPost; rw [e_]; exact ⟨rfl, zoutR_rf, rfl, H⟩) d_M_stateAt_304
                                · have c_269 : c = 41 := (nI_eq (a := c) (b := 41) (by omega) (by omega)).mp c_269
                                  refine z_aload_n C d_M_stateAt_272 rfl rfl ?_
                                  refine z_callV (rest := []) (n := 0) (As := []) C (m_close1 E X.2.1 sz _ H (by omega) hkd) ⟨z_cb C k_M_close ml_M_81 ii_M rfl rfl (by decide +kernel) ⟨by decide, by decide⟩, C.2.2.2.2.1 _ im_M_close, C.2.2.2.2.1 _ se_M_close⟩ H.1 rfl rfl rfl (Nat.le_of_ble_eq_true rfl) d_M_stateAt_273 ⟨by decide, by decide⟩ ?_
                                  intro v_273 s_273 M_273 hp_273
                                  have e_ : m_at s0 c xlev xkd = m_close xlev xkd := by
                                    first | (exfalso; omega) | (unfold m_at; (repeat first | rw [if_pos (by omega)] | rw [if_neg (by omega)]); try rfl)
                                  obtain ⟨rfl, ho_273, hq_273⟩ := hp_273
                                  rcases er : m_close xlev xkd with _ | a_
                                  · rw [er] at hq_273
                                    obtain ⟨rfl, H_273⟩ := hq_273
                                    show Z _ _ _ _ _ _ _ _ 276 _ [.int (-1)]
                                    exact z_iret C (by unfold aPost; rw [e_, er]; exact ⟨rfl, ho_273, rfl, H_273⟩) d_M_stateAt_276
                                  · rw [er] at hq_273
                                    obtain ⟨rfl, H_273⟩ := hq_273
                                    show Z _ _ _ _ _ _ _ _ 276 _ [.int (nI a_.1)]
                                    exact z_iret C (by unfold aPost; rw [e_, er]; exact ⟨rfl, ho_273, rfl, H_273⟩) d_M_stateAt_276
                              · have c_261 : c = 47 := (nI_eq (a := c) (b := 47) (by omega) (by omega)).mp c_261
                                refine z_iconst (v := nI 1) C d_M_stateAt_264 (by decide) ?_
                                have e_ : m_at s0 c xlev xkd = some (1, xlev, xkd) := by
                                  first | (exfalso; omega) | (unfold m_at; (repeat first | rw [if_pos (by omega)] | rw [if_neg (by omega)]); try rfl)
                                exact z_iret C (by unfold aPost; rw [e_]; exact ⟨rfl, zoutR_rf, rfl, H⟩) d_M_stateAt_265
                      · have c_213 : c = 94 := (nI_eq (a := c) (b := 94) (by omega) (by omega)).mp c_213
                        refine z_iload_n C d_M_stateAt_216 rfl rfl ?_
                        refine z_iconst (v := nI 3) C d_M_stateAt_217 (by decide) ?_
                        refine z_icmp_eq (tgt := 233) C d_M_stateAt_218 (by decide) (fun c_218 => ?_) (fun c_218 => ?_)
                        · have c_218 : s0 = 3 := (nI_eq (a := s0) (b := 3) (by omega) (by omega)).mp c_218
                          refine z_iconst (v := -1) C d_M_stateAt_233 (by decide) ?_
                          refine z_goto (tgt := 239) C d_M_stateAt_234 (by decide) ?_
                          have e_ : m_at s0 c xlev xkd = none := by
                            first | (exfalso; omega) | (unfold m_at; (repeat first | rw [if_pos (by omega)] | rw [if_neg (by omega)]); try rfl)
                          exact z_iret C (by unfold aPost; rw [e_]; exact ⟨rfl, zoutR_rf, rfl, H⟩) d_M_stateAt_239
                        · have c_218 : ¬ s0 = 3 := fun q => c_218 (congrArg nI q)
                          refine z_iload_n C d_M_stateAt_221 rfl rfl ?_
                          refine z_bipush (v := nI 11) C d_M_stateAt_222 (by decide) ?_
                          refine z_icmp_lt (tgt := 237) C d_M_stateAt_224 (by decide) (fun c_224 => ?_) (fun c_224 => ?_)
                          · have c_224 : s0 < 11 := (nI_ltI (a := s0) (b := 11) (by omega) (by omega)).mp c_224
                            refine z_bipush (v := nI 9) C d_M_stateAt_237 (by decide) ?_
                            have e_ : m_at s0 c xlev xkd = some (9, xlev, xkd) := by
                              first | (exfalso; omega) | (unfold m_at; (repeat first | rw [if_pos (by omega)] | rw [if_neg (by omega)]); try rfl)
                            exact z_iret C (by unfold aPost; rw [e_]; exact ⟨rfl, zoutR_rf, rfl, H⟩) d_M_stateAt_239
                          · have c_224 : 11 ≤ s0 := Nat.not_lt.mp (fun q => c_224 ((nI_ltI (a := s0) (b := 11) (by omega) (by omega)).mpr q))
                            refine z_iload_n C d_M_stateAt_227 rfl rfl ?_
                            refine z_bipush (v := nI 20) C d_M_stateAt_228 (by decide) ?_
                            refine z_icmp_gt (tgt := 237) C d_M_stateAt_230 (by decide) (fun c_230 => ?_) (fun c_230 => ?_)
                            · have c_230 : 20 < s0 := (nI_ltI (a := 20) (b := s0) (by omega) (by omega)).mp c_230
                              refine z_bipush (v := nI 9) C d_M_stateAt_237 (by decide) ?_
                              have e_ : m_at s0 c xlev xkd = some (9, xlev, xkd) := by
                                first | (exfalso; omega) | (unfold m_at; (repeat first | rw [if_pos (by omega)] | rw [if_neg (by omega)]); try rfl)
                              exact z_iret C (by unfold aPost; rw [e_]; exact ⟨rfl, zoutR_rf, rfl, H⟩) d_M_stateAt_239
                            · have c_230 : s0 ≤ 20 := Nat.not_lt.mp (fun q => c_230 ((nI_ltI (a := 20) (b := s0) (by omega) (by omega)).mpr q))
                              refine z_iconst (v := -1) C d_M_stateAt_233 (by decide) ?_
                              refine z_goto (tgt := 239) C d_M_stateAt_234 (by decide) ?_
                              have e_ : m_at s0 c xlev xkd = none := by
                                first | (exfalso; omega) | (unfold m_at; (repeat first | rw [if_pos (by omega)] | rw [if_neg (by omega)]); try rfl)
                              exact z_iret C (by unfold aPost; rw [e_]; exact ⟨rfl, zoutR_rf, rfl, H⟩) d_M_stateAt_239
                    · have c_195 : c = 58 := (nI_eq (a := c) (b := 58) (by omega) (by omega)).mp c_195
                      refine z_iload_n C d_M_stateAt_198 rfl rfl ?_
                      refine z_bipush (v := nI 25) C d_M_stateAt_199 (by decide) ?_
                      refine z_icmp_ne (tgt := 208) C d_M_stateAt_201 (by decide) (fun c_201 => ?_) (fun c_201 => ?_)
                      · have c_201 : ¬ s0 = 25 := fun q => c_201 (congrArg nI q)
                        refine z_iconst (v := -1) C d_M_stateAt_208 (by decide) ?_
                        have e_ : m_at s0 c xlev xkd = none := by
                          first | (exfalso; omega) | (unfold m_at; (repeat first | rw [if_pos (by omega)] | rw [if_neg (by omega)]); try rfl)
                        exact z_iret C (by unfold aPost; rw [e_]; exact ⟨rfl, zoutR_rf, rfl, H⟩) d_M_stateAt_209
                      · have c_201 : s0 = 25 := (nI_eq (a := s0) (b := 25) (by omega) (by omega)).mp c_201
                        refine z_iconst (v := nI 0) C d_M_stateAt_204 (by decide) ?_
                        refine z_goto (tgt := 209) C d_M_stateAt_205 (by decide) ?_
                        have e_ : m_at s0 c xlev xkd = some (0, xlev, xkd) := by
                          first | (exfalso; omega) | (unfold m_at; (repeat first | rw [if_pos (by omega)] | rw [if_neg (by omega)]); try rfl)
                        exact z_iret C (by unfold aPost; rw [e_]; exact ⟨rfl, zoutR_rf, rfl, H⟩) d_M_stateAt_209
                  · have c_131 : (isD c) := b01_ne c_131
                    refine z_iload_n C d_M_stateAt_134 rfl rfl ?_
                    refine z_iconst (v := nI 4) C d_M_stateAt_135 (by decide) ?_
                    refine z_icmp_lt (tgt := 149) C d_M_stateAt_136 (by decide) (fun c_136 => ?_) (fun c_136 => ?_)
                    · have c_136 : s0 < 4 := (nI_ltI (a := s0) (b := 4) (by omega) (by omega)).mp c_136
                      refine z_iload_n C d_M_stateAt_149 rfl rfl ?_
                      refine z_bipush (v := nI 22) C d_M_stateAt_150 (by decide) ?_
                      refine z_icmp_ne (tgt := 157) C d_M_stateAt_152 (by decide) (fun c_152 => ?_) (fun c_152 => ?_)
                      · have c_152 : ¬ s0 = 22 := fun q => c_152 (congrArg nI q)
                        refine z_iload_n C d_M_stateAt_157 rfl rfl ?_
                        refine z_bipush (v := nI 11) C d_M_stateAt_158 (by decide) ?_
                        refine z_icmp_lt (tgt := 190) C d_M_stateAt_160 (by decide) (fun c_160 => ?_) (fun c_160 => ?_)
                        · have c_160 : s0 < 11 := (nI_ltI (a := s0) (b := 11) (by omega) (by omega)).mp c_160
                          refine z_iconst (v := -1) C d_M_stateAt_190 (by decide) ?_
                          have e_ : m_at s0 c xlev xkd = none := by
                            first | (exfalso; omega) | (unfold m_at; (repeat first | rw [if_pos (by omega)] | rw [if_neg (by omega)]); try rfl)
                          exact z_iret C (by unfold aPost; rw [e_]; exact ⟨rfl, zoutR_rf, rfl, H⟩) d_M_stateAt_191
                        · have c_160 : 11 ≤ s0 := Nat.not_lt.mp (fun q => c_160 ((nI_ltI (a := s0) (b := 11) (by omega) (by omega)).mpr q))
                          refine z_iload_n C d_M_stateAt_163 rfl rfl ?_
                          refine z_bipush (v := nI 20) C d_M_stateAt_164 (by decide) ?_
                          refine z_icmp_gt (tgt := 190) C d_M_stateAt_166 (by decide) (fun c_166 => ?_) (fun c_166 => ?_)
                          · have c_166 : 20 < s0 := (nI_ltI (a := 20) (b := s0) (by omega) (by omega)).mp c_166
                            refine z_iconst (v := -1) C d_M_stateAt_190 (by decide) ?_
                            have e_ : m_at s0 c xlev xkd = none := by
                              first | (exfalso; omega) | (unfold m_at; (repeat first | rw [if_pos (by omega)] | rw [if_neg (by omega)]); try rfl)
                            exact z_iret C (by unfold aPost; rw [e_]; exact ⟨rfl, zoutR_rf, rfl, H⟩) d_M_stateAt_191
                          · have c_166 : s0 ≤ 20 := Nat.not_lt.mp (fun q => c_166 ((nI_ltI (a := 20) (b := s0) (by omega) (by omega)).mpr q))
                            refine z_iload_n C d_M_stateAt_169 rfl rfl ?_
                            refine z_bipush (v := nI 11) C d_M_stateAt_170 (by decide) ?_
                            refine z_isub C d_M_stateAt_172 ?_
                            refine z_top (y := nI (s0 - 11)) (pk_sub (by omega)) ?_
                            refine z_bipush (v := nI 10) C d_M_stateAt_173 (by decide) ?_
                            refine z_imul C d_M_stateAt_175 ?_
                            refine z_top (y := nI ((s0 - 11) * 10)) (pk_mul _ _) ?_
                            refine z_iload_n C d_M_stateAt_176 rfl rfl ?_
                            refine z_iadd C d_M_stateAt_177 ?_
                            refine z_top (y := nI (((s0 - 11) * 10) + c)) (nI_add _ _) ?_
                            refine z_bipush (v := nI 48) C d_M_stateAt_178 (by decide) ?_
                            refine z_isub C d_M_stateAt_180 ?_
                            refine z_top (y := nI ((((s0 - 11) * 10) + c) - 48)) (pk_sub (by omega)) ?_
                            refine z_bipush (v := nI 12) C d_M_stateAt_181 (by decide) ?_
                            refine z_icmp_gt (tgt := 190) C d_M_stateAt_183 (by decide) (fun c_183 => ?_) (fun c_183 => ?_)
                            · have c_183 : 12 < ((((s0 - 11) * 10) + c) - 48) := (nI_ltI (a := 12) (b := ((((s0 - 11) * 10) + c) - 48)) (by omega) (by omega)).mp c_183
                              refine z_iconst (v := -1) C d_M_stateAt_190 (by decide) ?_
                              have e_ : m_at s0 c xlev xkd = none := by
                                first | (exfalso; omega) | (unfold m_at; (repeat first | rw [if_pos (by omega)] | rw [if_neg (by omega)]); try rfl)
                              exact z_iret C (by unfold aPost; rw [e_]; exact ⟨rfl, zoutR_rf, rfl, H⟩) d_M_stateAt_191
                            · have c_183 : ((((s0 - 11) * 10) + c) - 48) ≤ 12 := Nat.not_lt.mp (fun q => c_183 ((nI_ltI (a := 12) (b := ((((s0 - 11) * 10) + c) - 48)) (by omega) (by omega)).mpr q))
                              refine z_iconst (v := nI 3) C d_M_stateAt_186 (by decide) ?_
                              refine z_goto (tgt := 191) C d_M_stateAt_187 (by decide) ?_
                              have e_ : m_at s0 c xlev xkd = some (3, xlev, xkd) := by
                                first | (exfalso; omega) | (unfold m_at; (repeat first | rw [if_pos (by omega)] | rw [if_neg (by omega)]); try rfl)
                              exact z_iret C (by unfold aPost; rw [e_]; exact ⟨rfl, zoutR_rf, rfl, H⟩) d_M_stateAt_191
                      · have c_152 : s0 = 22 := (nI_eq (a := s0) (b := 22) (by omega) (by omega)).mp c_152
                        refine z_iconst (v := nI 2) C d_M_stateAt_155 (by decide) ?_
                        have e_ : m_at s0 c xlev xkd = some (2, xlev, xkd) := by
                          first | (exfalso; omega) | (unfold m_at; (repeat first | rw [if_pos (by omega)] | rw [if_neg (by omega)]); try rfl)
                        exact z_iret C (by unfold aPost; rw [e_]; exact ⟨rfl, zoutR_rf, rfl, H⟩) d_M_stateAt_156
                    · have c_136 : 4 ≤ s0 := Nat.not_lt.mp (fun q => c_136 ((nI_ltI (a := s0) (b := 4) (by omega) (by omega)).mpr q))
                      refine z_iload_n C d_M_stateAt_139 rfl rfl ?_
                      refine z_bipush (v := nI 8) C d_M_stateAt_140 (by decide) ?_
                      refine z_icmp_ge (tgt := 149) C d_M_stateAt_142 (by decide) (fun c_142 => ?_) (fun c_142 => ?_)
                      · have c_142 : 8 ≤ s0 := (nI_leI (a := 8) (b := s0) (by omega) (by omega)).mp c_142
                        refine z_iload_n C d_M_stateAt_149 rfl rfl ?_
                        refine z_bipush (v := nI 22) C d_M_stateAt_150 (by decide) ?_
                        refine z_icmp_ne (tgt := 157) C d_M_stateAt_152 (by decide) (fun c_152 => ?_) (fun c_152 => ?_)
                        · have c_152 : ¬ s0 = 22 := fun q => c_152 (congrArg nI q)
                          refine z_iload_n C d_M_stateAt_157 rfl rfl ?_
                          refine z_bipush (v := nI 11) C d_M_stateAt_158 (by decide) ?_
                          refine z_icmp_lt (tgt := 190) C d_M_stateAt_160 (by decide) (fun c_160 => ?_) (fun c_160 => ?_)
                          · have c_160 : s0 < 11 := (nI_ltI (a := s0) (b := 11) (by omega) (by omega)).mp c_160
                            refine z_iconst (v := -1) C d_M_stateAt_190 (by decide) ?_
                            have e_ : m_at s0 c xlev xkd = none := by
                              first | (exfalso; omega) | (unfold m_at; (repeat first | rw [if_pos (by omega)] | rw [if_neg (by omega)]); try rfl)
                            exact z_iret C (by unfold aPost; rw [e_]; exact ⟨rfl, zoutR_rf, rfl, H⟩) d_M_stateAt_191
                          · have c_160 : 11 ≤ s0 := Nat.not_lt.mp (fun q => c_160 ((nI_ltI (a := s0) (b := 11) (by omega) (by omega)).mpr q))
                            refine z_iload_n C d_M_stateAt_163 rfl rfl ?_
                            refine z_bipush (v := nI 20) C d_M_stateAt_164 (by decide) ?_
                            refine z_icmp_gt (tgt := 190) C d_M_stateAt_166 (by decide) (fun c_166 => ?_) (fun c_166 => ?_)
                            · have c_166 : 20 < s0 := (nI_ltI (a := 20) (b := s0) (by omega) (by omega)).mp c_166
                              refine z_iconst (v := -1) C d_M_stateAt_190 (by decide) ?_
                              have e_ : m_at s0 c xlev xkd = none := by
                                first | (exfalso; omega) | (unfold m_at; (repeat first | rw [if_pos (by omega)] | rw [if_neg (by omega)]); try rfl)
                              exact z_iret C (by unfold aPost; rw [e_]; exact ⟨rfl, zoutR_rf, rfl, H⟩) d_M_stateAt_191
                            · have c_166 : s0 ≤ 20 := Nat.not_lt.mp (fun q => c_166 ((nI_ltI (a := 20) (b := s0) (by omega) (by omega)).mpr q))
                              refine z_iload_n C d_M_stateAt_169 rfl rfl ?_
                              refine z_bipush (v := nI 11) C d_M_stateAt_170 (by decide) ?_
                              refine z_isub C d_M_stateAt_172 ?_
                              refine z_top (y := nI (s0 - 11)) (pk_sub (by omega)) ?_
                              refine z_bipush (v := nI 10) C d_M_stateAt_173 (by decide) ?_
                              refine z_imul C d_M_stateAt_175 ?_
                              refine z_top (y := nI ((s0 - 11) * 10)) (pk_mul _ _) ?_
                              refine z_iload_n C d_M_stateAt_176 rfl rfl ?_
                              refine z_iadd C d_M_stateAt_177 ?_
                              refine z_top (y := nI (((s0 - 11) * 10) + c)) (nI_add _ _) ?_
                              refine z_bipush (v := nI 48) C d_M_stateAt_178 (by decide) ?_
                              refine z_isub C d_M_stateAt_180 ?_
                              refine z_top (y := nI ((((s0 - 11) * 10) + c) - 48)) (pk_sub (by omega)) ?_
                              refine z_bipush (v := nI 12) C d_M_stateAt_181 (by decide) ?_
                              refine z_icmp_gt (tgt := 190) C d_M_stateAt_183 (by decide) (fun c_183 => ?_) (fun c_183 => ?_)
                              · have c_183 : 12 < ((((s0 - 11) * 10) + c) - 48) := (nI_ltI (a := 12) (b := ((((s0 - 11) * 10) + c) - 48)) (by omega) (by omega)).mp c_183
                                refine z_iconst (v := -1) C d_M_stateAt_190 (by decide) ?_
                                have e_ : m_at s0 c xlev xkd = none := by
                                  first | (exfalso; omega) | (unfold m_at; (repeat first | rw [if_pos (by omega)] | rw [if_neg (by omega)]); try rfl)
                                exact z_iret C (by unfold aPost; rw [e_]; exact ⟨rfl, zoutR_rf, rfl, H⟩) d_M_stateAt_191
                              · have c_183 : ((((s0 - 11) * 10) + c) - 48) ≤ 12 := Nat.not_lt.mp (fun q => c_183 ((nI_ltI (a := 12) (b := ((((s0 - 11) * 10) + c) - 48)) (by omega) (by omega)).mpr q))
                                refine z_iconst (v := nI 3) C d_M_stateAt_186 (by decide) ?_
                                refine z_goto (tgt := 191) C d_M_stateAt_187 (by decide) ?_
                                have e_ : m_at s0 c xlev xkd = some (3, xlev, xkd) := by
                                  first | (exfalso; omega) | (unfold m_at; (repeat first | rw [if_pos (by omega)] | rw [if_neg (by omega)]); try rfl)
                                exact z_iret C (by unfold aPost; rw [e_]; exact ⟨rfl, zoutR_rf, rfl, H⟩) d_M_stateAt_191
                        · have c_152 : s0 = 22 := (nI_eq (a := s0) (b := 22) (by omega) (by omega)).mp c_152
                          refine z_iconst (v := nI 2) C d_M_stateAt_155 (by decide) ?_
                          have e_ : m_at s0 c xlev xkd = some (2, xlev, xkd) := by
                            first | (exfalso; omega) | (unfold m_at; (repeat first | rw [if_pos (by omega)] | rw [if_neg (by omega)]); try rfl)
                          exact z_iret C (by unfold aPost; rw [e_]; exact ⟨rfl, zoutR_rf, rfl, H⟩) d_M_stateAt_156
                      · have c_142 : s0 < 8 := Nat.not_le.mp (fun q => c_142 ((nI_leI (a := 8) (b := s0) (by omega) (by omega)).mpr q))
                        refine z_iload_n C d_M_stateAt_145 rfl rfl ?_
                        refine z_iconst (v := nI 1) C d_M_stateAt_146 (by decide) ?_
                        refine z_iadd C d_M_stateAt_147 ?_
                        refine z_top (y := nI (s0 + 1)) (nI_add _ _) ?_
                        have e_ : m_at s0 c xlev xkd = some ((s0 + 1), xlev, xkd) := by
                          first | (exfalso; omega) | (unfold m_at; (repeat first | rw [if_pos (by omega)] | rw [if_neg (by omega)]); try rfl)
                        exact z_iret C (by unfold aPost; rw [e_]; exact ⟨rfl, zoutR_rf, rfl, H⟩) d_M_stateAt_148
                · have c_108 : s0 = 21 := (nI_eq (a := s0) (b := 21) (by omega) (by omega)).mp c_108
                  refine z_aload_n C d_M_stateAt_111 rfl rfl ?_
                  refine z_iload_n C d_M_stateAt_112 rfl rfl ?_
                  refine z_callV (rest := []) (n := 1) (As := [.int (nI c)]) C (m_digitN E X.2.1 sz _ H c (by omega)) ⟨z_cb C k_M_digit ml_M_57 ii_M rfl rfl (by decide +kernel) ⟨by decide, by decide⟩, C.2.2.2.2.1 _ im_M_digit, C.2.2.2.2.1 _ se_M_digit⟩ H.1 rfl rfl rfl (Nat.le_of_ble_eq_true rfl) d_M_stateAt_113 ⟨by decide, by decide⟩ ?_
                  intro v_113 s_113 M_113 hp_113
                  obtain ⟨rfl, rfl, rfl⟩ := hp_113
                  show Z _ _ _ _ _ _ _ _ 116 _ [.int (nI (b01 (isD c)))]
                  refine z_if_eq (tgt := 124) C d_M_stateAt_116 (by decide) (fun c_116 => ?_) (fun c_116 => ?_)
                  · have c_116 : ¬ (isD c) := b01_z c_116
                    refine z_iconst (v := -1) C d_M_stateAt_124 (by decide) ?_
                    have e_ : m_at s0 c xlev xkd = none := by
                      first | (exfalso; omega) | (unfold m_at; (repeat first | rw [if_pos (by omega)] | rw [if_neg (by omega)]); try rfl)
                    exact z_iret C (by unfold aPost; rw [e_]; exact ⟨rfl, zoutR_rf, rfl, H⟩) d_M_stateAt_125
                  · have c_116 : (isD c) := b01_ne c_116
                    refine z_bipush (v := nI 22) C d_M_stateAt_119 (by decide) ?_
                    refine z_goto (tgt := 125) C d_M_stateAt_121 (by decide) ?_
                    have e_ : m_at s0 c xlev xkd = some (22, xlev, xkd) := by
                      first | (exfalso; omega) | (unfold m_at; (repeat first | rw [if_pos (by omega)] | rw [if_neg (by omega)]); try rfl)
                    exact z_iret C (by unfold aPost; rw [e_]; exact ⟨rfl, zoutR_rf, rfl, H⟩) d_M_stateAt_125
              · have c_67 : s0 = 10 := (nI_eq (a := s0) (b := 10) (by omega) (by omega)).mp c_67
                refine z_aload_n C d_M_stateAt_70 rfl rfl ?_
                refine z_iload_n C d_M_stateAt_71 rfl rfl ?_
                refine z_callV (rest := []) (n := 1) (As := [.int (nI c)]) C (m_digitN E X.2.1 sz _ H c (by omega)) ⟨z_cb C k_M_digit ml_M_57 ii_M rfl rfl (by decide +kernel) ⟨by decide, by decide⟩, C.2.2.2.2.1 _ im_M_digit, C.2.2.2.2.1 _ se_M_digit⟩ H.1 rfl rfl rfl (Nat.le_of_ble_eq_true rfl) d_M_stateAt_72 ⟨by decide, by decide⟩ ?_
                intro v_72 s_72 M_72 hp_72
                obtain ⟨rfl, rfl, rfl⟩ := hp_72
                show Z _ _ _ _ _ _ _ _ 75 _ [.int (nI (b01 (isD c)))]
                refine z_if_eq (tgt := 86) C d_M_stateAt_75 (by decide) (fun c_75 => ?_) (fun c_75 => ?_)
                · have c_75 : ¬ (isD c) := b01_z c_75
                  refine z_iload_n C d_M_stateAt_86 rfl rfl ?_
                  refine z_bipush (v := nI 9) C d_M_stateAt_87 (by decide) ?_
                  refine z_icmp_ne (tgt := 103) C d_M_stateAt_89 (by decide) (fun c_89 => ?_) (fun c_89 => ?_)
                  · have c_89 : ¬ s0 = 9 := fun q => c_89 (congrArg nI q)
                    refine z_iconst (v := -1) C d_M_stateAt_103 (by decide) ?_
                    have e_ : m_at s0 c xlev xkd = none := by
                      first | (exfalso; omega) | (unfold m_at; (repeat first | rw [if_pos (by omega)] | rw [if_neg (by omega)]); try rfl)
                    exact z_iret C (by unfold aPost; rw [e_]; exact ⟨rfl, zoutR_rf, rfl, H⟩) d_M_stateAt_104
                  · have c_89 : s0 = 9 := (nI_eq (a := s0) (b := 9) (by omega) (by omega)).mp c_89
                    refine z_iload_n C d_M_stateAt_92 rfl rfl ?_
                    refine z_bipush (v := nI 45) C d_M_stateAt_93 (by decide) ?_
                    refine z_icmp_ne (tgt := 103) C d_M_stateAt_95 (by decide) (fun c_95 => ?_) (fun c_95 => ?_)
                    · have c_95 : ¬ c = 45 := fun q => c_95 (congrArg nI q)
                      refine z_iconst (v := -1) C d_M_stateAt_103 (by decide) ?_
                      have e_ : m_at s0 c xlev xkd = none := by
                        first | (exfalso; omega) | (unfold m_at; (repeat first | rw [if_pos (by omega)] | rw [if_neg (by omega)]); try rfl)
                      exact z_iret C (by unfold aPost; rw [e_]; exact ⟨rfl, zoutR_rf, rfl, H⟩) d_M_stateAt_104
                    · have c_95 : c = 45 := (nI_eq (a := c) (b := 45) (by omega) (by omega)).mp c_95
                      refine z_bipush (v := nI 10) C d_M_stateAt_98 (by decide) ?_
                      refine z_goto (tgt := 104) C d_M_stateAt_100 (by decide) ?_
                      have e_ : m_at s0 c xlev xkd = some (10, xlev, xkd) := by
                        first | (exfalso; omega) | (unfold m_at; (repeat first | rw [if_pos (by omega)] | rw [if_neg (by omega)]); try rfl)
                      exact z_iret C (by unfold aPost; rw [e_]; exact ⟨rfl, zoutR_rf, rfl, H⟩) d_M_stateAt_104
                · have c_75 : (isD c) := b01_ne c_75
                  refine z_bipush (v := nI 11) C d_M_stateAt_78 (by decide) ?_
                  refine z_iload_n C d_M_stateAt_80 rfl rfl ?_
                  refine z_iadd C d_M_stateAt_81 ?_
                  refine z_top (y := nI (11 + c)) (nI_add _ _) ?_
                  refine z_bipush (v := nI 48) C d_M_stateAt_82 (by decide) ?_
                  refine z_isub C d_M_stateAt_84 ?_
                  refine z_top (y := nI ((11 + c) - 48)) (pk_sub (by omega)) ?_
                  have e_ : m_at s0 c xlev xkd = some (((11 + c) - 48), xlev, xkd) := by
                    first | (exfalso; omega) | (unfold m_at; (repeat first | rw [if_pos (by omega)] | rw [if_neg (by omega)]); try rfl)
                  exact z_iret C (by unfold aPost; rw [e_]; exact ⟨rfl, zoutR_rf, rfl, H⟩) d_M_stateAt_85
          · have c_48 : s0 = 26 := (nI_eq (a := s0) (b := 26) (by omega) (by omega)).mp c_48
            refine z_aload_n C d_M_stateAt_51 rfl rfl ?_
            refine z_iload_n C d_M_stateAt_52 rfl rfl ?_
            refine z_iload_n C d_M_stateAt_53 rfl rfl ?_
            refine z_callV (rest := []) (n := 2) (As := [.int (nI s0), .int (nI c)]) C (m_begin E X.2.1 sz _ H s0 c (by omega) (by omega) (by omega)) ⟨z_cb C k_M_begin ml_M_77 ii_M rfl rfl (by decide +kernel) ⟨by decide, by decide⟩, C.2.2.2.2.1 _ im_M_begin, C.2.2.2.2.1 _ se_M_begin⟩ H.1 rfl rfl rfl (Nat.le_of_ble_eq_true rfl) d_M_stateAt_54 ⟨by decide, by decide⟩ ?_
            intro v_54 s_54 M_54 hp_54
            have e_ : m_at s0 c xlev xkd = m_beg s0 c xlev xkd := by
              first | (exfalso; omega) | (unfold m_at; (repeat first | rw [if_pos (by omega)] | rw [if_neg (by omega)]); try rfl)
            obtain ⟨rfl, ho_54, hq_54⟩ := hp_54
            rcases er : m_beg s0 c xlev xkd with _ | a_
            · rw [er] at hq_54
              obtain ⟨rfl, H_54⟩ := hq_54
              show Z _ _ _ _ _ _ _ _ 57 _ [.int (-1)]
              exact z_iret C (by unfold aPost; rw [e_, er]; exact ⟨rfl, ho_54, rfl, H_54⟩) d_M_stateAt_57
            · rw [er] at hq_54
              obtain ⟨rfl, H_54⟩ := hq_54
              show Z _ _ _ _ _ _ _ _ 57 _ [.int (nI a_.1)]
              exact z_iret C (by unfold aPost; rw [e_, er]; exact ⟨rfl, ho_54, rfl, H_54⟩) d_M_stateAt_57
    · have c_9 : s0 = 24 := (nI_eq (a := s0) (b := 24) (by omega) (by omega)).mp c_9
      refine z_iload_n C d_M_stateAt_12 rfl rfl ?_
      refine z_bipush (v := nI 40) C d_M_stateAt_13 (by decide) ?_
      refine z_icmp_eq (tgt := 20) C d_M_stateAt_15 (by decide) (fun c_15 => ?_) (fun c_15 => ?_)
      · have c_15 : c = 40 := (nI_eq (a := c) (b := 40) (by omega) (by omega)).mp c_15
        refine z_aload_n C d_M_stateAt_20 rfl rfl ?_
        refine z_iload_n C d_M_stateAt_21 rfl rfl ?_
        refine z_bipush (v := nI 23) C d_M_stateAt_22 (by decide) ?_
        refine z_icmp_ne (tgt := 31) C d_M_stateAt_24 (by decide) (fun c_24 => ?_) (fun c_24 => ?_)
        · have c_24 : ¬ s0 = 23 := fun q => c_24 (congrArg nI q)
          refine z_iconst (v := nI 3) C d_M_stateAt_31 (by decide) ?_
          refine z_callV (rest := []) (n := 1) (As := [.int (nI 3)]) C (m_open1 E X.2.1 sz _ H 3 (by omega)) ⟨z_cb C k_M_open ml_M_74 ii_M rfl rfl (by decide +kernel) ⟨by decide, by decide⟩, C.2.2.2.2.1 _ im_M_open, C.2.2.2.2.1 _ se_M_open⟩ H.1 rfl rfl rfl (Nat.le_of_ble_eq_true rfl) d_M_stateAt_32 ⟨by decide, by decide⟩ ?_
          intro v_32 s_32 M_32 hp_32
          have e_ : m_at s0 c xlev xkd = m_open 3 xlev xkd := by
            first | (exfalso; omega) | (unfold m_at; (repeat first | rw [if_pos (by omega)] | rw [if_neg (by omega)]); try rfl)
          obtain ⟨rfl, ho_32, hq_32⟩ := hp_32
          rcases er : m_open 3 xlev xkd with _ | a_
          · rw [er] at hq_32
            obtain ⟨rfl, H_32⟩ := hq_32
            show Z _ _ _ _ _ _ _ _ 35 _ [.int (-1)]
            exact z_iret C (by unfold aPost; rw [e_, er]; exact ⟨rfl, ho_32, rfl, H_32⟩) d_M_stateAt_35
          · rw [er] at hq_32
            obtain ⟨rfl, H_32⟩ := hq_32
            show Z _ _ _ _ _ _ _ _ 35 _ [.int (nI a_.1)]
            exact z_iret C (by unfold aPost; rw [e_, er]; exact ⟨rfl, ho_32, rfl, H_32⟩) d_M_stateAt_35
        · have c_24 : s0 = 23 := (nI_eq (a := s0) (b := 23) (by omega) (by omega)).mp c_24
          refine z_iconst (v := nI 2) C d_M_stateAt_27 (by decide) ?_
          refine z_goto (tgt := 32) C d_M_stateAt_28 (by decide) ?_
          refine z_callV (rest := []) (n := 1) (As := [.int (nI 2)]) C (m_open1 E X.2.1 sz _ H 2 (by omega)) ⟨z_cb C k_M_open ml_M_74 ii_M rfl rfl (by decide +kernel) ⟨by decide, by decide⟩, C.2.2.2.2.1 _ im_M_open, C.2.2.2.2.1 _ se_M_open⟩ H.1 rfl rfl rfl (Nat.le_of_ble_eq_true rfl) d_M_stateAt_32 ⟨by decide, by decide⟩ ?_
          intro v_32 s_32 M_32 hp_32
          have e_ : m_at s0 c xlev xkd = m_open 2 xlev xkd := by
            first | (exfalso; omega) | (unfold m_at; (repeat first | rw [if_pos (by omega)] | rw [if_neg (by omega)]); try rfl)
          obtain ⟨rfl, ho_32, hq_32⟩ := hp_32
          rcases er : m_open 2 xlev xkd with _ | a_
          · rw [er] at hq_32
            obtain ⟨rfl, H_32⟩ := hq_32
            show Z _ _ _ _ _ _ _ _ 35 _ [.int (-1)]
            exact z_iret C (by unfold aPost; rw [e_, er]; exact ⟨rfl, ho_32, rfl, H_32⟩) d_M_stateAt_35
          · rw [er] at hq_32
            obtain ⟨rfl, H_32⟩ := hq_32
            show Z _ _ _ _ _ _ _ _ 35 _ [.int (nI a_.1)]
            exact z_iret C (by unfold aPost; rw [e_, er]; exact ⟨rfl, ho_32, rfl, H_32⟩) d_M_stateAt_35
      · have c_15 : ¬ c = 40 := fun q => c_15 (congrArg nI q)
        refine z_iconst (v := -1) C d_M_stateAt_18 (by decide) ?_
        have e_ : m_at s0 c xlev xkd = none := by
          first | (exfalso; omega) | (unfold m_at; (repeat first | rw [if_pos (by omega)] | rw [if_neg (by omega)]); try rfl)
        exact z_iret C (by unfold aPost; rw [e_]; exact ⟨rfl, zoutR_rf, rfl, H⟩) d_M_stateAt_19
