/-- the flags of the levels, before a token -/
def advF (cs : List Nat) (i : Nat) : ME → Prop
  | (_, l, _, hs, ht, _, dv) => (∀ j, j ≤ l → hs j ≤ 1 ∧ ht j ≤ 1) ∧ (∀ j, j < l → ht j = 1 → dv j ≤ 1) ∧ (¬ (cs.getD i 0 = 42 ∨ cs.getD i 0 = 47 ∨ cs.getD i 0 = 43 ∨ cs.getD i 0 = 45 ∨ cs.getD i 0 = 44 ∨ cs.getD i 0 = 41) → ht l = 1 → dv l ≤ 1)
theorem LV_flg {w : Nat} {o a b : Nat → Nat} {n : Nat} {R : Nat → PS × PS} {l : Nat} {kd hs ht sg dv : Nat → Nat} (hw : w = 0 ∨ w = 1) (H : LV w o a b n (R, l, kd, hs, ht, sg, dv)) : (∀ j, j ≤ l → hs j ≤ 1 ∧ ht j ≤ 1) ∧ (∀ j, j < l → ht j = 1 → dv j ≤ 1) ∧ (w = 1 → ht l = 1 → dv l ≤ 1) := by
  obtain ⟨rfl, -, -, -, hA, hB, h1, h0, -⟩ := H
  have key : ∀ j, LVb b ht j → LVa a b hs sg dv j → ht j ≤ 1 ∧ (ht j = 1 → dv j ≤ 1) := by
    intro j hb ha
    unfold LVb at hb
    unfold LVa at ha
    omega
  have hhs : ∀ j, j ≤ l → hs j ≤ 1 := by
    intro j hj
    have := (hA j hj).1
    omega
  refine ⟨fun j hj => ⟨hhs j hj, ?_⟩, fun j hj => (key j (hB j hj) (hA j (by omega))).2, fun w1 => (key l (h1 w1) (hA l (Nat.le_refl l))).2⟩
  rcases Nat.lt_or_ge j l with q | q
  · exact (key j (hB j q) (hA j hj)).1
  · have : j = l := by omega
    subst this
    rcases hw with e | e
    · rw [h0 e]; decide
    · exact (key j (h1 e) (hA j hj)).1
theorem ev_flg {cs : List Nat} {fs : List (PS × PS)} {nb : Nat → Nat} {m : Nat} {s : RS} {x : ME} (hc : cs.length ≤ 32) (H : gd cs m s) (hb : bnd cs s) (J : J3 fs nb s x) (hi : rdI s < cs.length) : advF cs (rdI s) x := by
  obtain ⟨o, a, b, n, i, k, w, y, h, ps, t⟩ := s
  obtain ⟨R, l, kd, hs, ht, sg, dv⟩ := x
  have hw : w ≤ 1 := H.1.2.2.2.2.2.2.2.2.1
  obtain ⟨f1, f2, f3⟩ := LV_flg (by omega) J.1
  refine ⟨f1, f2, fun hn => ?_⟩
  rcases (by omega : w = 0 ∨ w = 1) with q | q
  · exfalso
    subst q
    obtain ⟨m', -, ⟨-, h2, -⟩, -⟩ := gd_step hc H hi
    have hb' : h = 1 → cs.getD i 0 ≠ 94 := hb rfl
    have hn' : ¬ (cs.getD i 0 = 42 ∨ cs.getD i 0 = 47 ∨ cs.getD i 0 = 43 ∨ cs.getD i 0 = 45 ∨ cs.getD i 0 = 44 ∨ cs.getD i 0 = 41) := hn
    have e : r_step cs (o, a, b, n, i, k, 0, y, h, ps, t) = (o, a, b, n, i, 1, 0, y, h, ps, t) := by
      simp only [r_step]
      rw [if_neg (by decide)]
      simp only [r_aft]
      rw [if_neg (fun q => hb' q.2 q.1), if_neg (by omega), if_neg (by omega), if_neg (by omega), if_neg (by omega)]
    rw [e] at h2
    cases h2
  · exact f3 q
set_option maxHeartbeats 4000000 in
/-- raise behind a trouble -/
theorem m_raiseT (E : zE) (l : Launch) (sz : Nat) (M : zM) {m : Nat} {xln : Nat → Nat} {xlen : Nat} {xlab : Nat} {xbad : Int32} {xlev : Nat} {xtr : Int32} {xwa : Nat} {xpl : Nat} {xfo : Nat} {xsf : Nat → Nat} {xbf : Nat → Nat} {xF : Nat → FF} {xG : Nat → FF} {xP : Nat → FF} {xQ : Nat → FF} {xmm : Nat → FF} {xsl : Nat → Nat} {xkd : Nat → Nat} {xhs : Nat → Nat} {xht : Nat → Nat} {xsg : Nat → Nat} {xdv : Nat → Nat} (H : mw E M m xln xlen xlab xbad xlev xtr xwa xpl xfo xsf xbf xF xG xP xQ xmm xsl xkd xhs xht xsg xdv) (htr : ¬ xtr = 0) (cs : List Nat) (hlen : xlen = cs.length) (h32 : cs.length ≤ 32) (hln : ∀ i, i < cs.length → xln i = cs.getD i 0) (hch : ∀ i, xln i < 128) (i0 : Nat) (hi0 : i0 ≤ cs.length) (hrai : raiOK cs i0)  : zMet E l y_M_raise c_M_raise 6 (some .int) { frames := 6, cells := 0, slots := 0, locals := 150 } 0 0 [.ref m, .int (nI i0)] sz M (zRet (some (.int (nI (m_end cs i0)))) sz M) := by
  refine zMet.ofZ (by decide) (Nat.le_of_ble_eq_true rfl) ?_
  intro X hl hini C
  show Z X E 6 _ 0 0 sz M 0 [(0, .ref m), (1, .int (nI i0))] []
  refine z_iload_n C d_M_raise_0 rfl rfl ?_
  refine z_aload_n C d_M_raise_1 rfl rfl ?_
  refine z_get C in_M H.1 rfl 1 (by decide) fl_M_67 rfl rfl d_M_raise_2 ?_
  refine z_icmp_ge (tgt := 23) C d_M_raise_5 (by decide) (fun c_5 => ?_) (fun c_5 => ?_)
  · have c_5 : xlen ≤ i0 := (nI_leI (a := xlen) (b := i0) (by omega) (by omega)).mp c_5
    have hn94 : ¬ cs.getD i0 0 = 94 := by rw [getD_out (by omega)]; decide
    have een : m_end cs i0 = i0 := by unfold m_end; rw [if_neg hn94]
    refine z_iconst (v := nI 0) C d_M_raise_23 (by decide) ?_
    refine z_istore_n (L' := [(0, .ref m), (1, .int (nI i0)), (2, .int (nI 0))]) C d_M_raise_24 rfl (by decide) rfl ?_
    refine z_iload_n C d_M_raise_25 rfl rfl ?_
    refine z_if_eq (tgt := 46) C d_M_raise_26 (by decide) (fun _ => ?_) (fun c_26 => absurd (rfl) c_26)
    refine z_iconst (v := nI 0) C d_M_raise_46 (by decide) ?_
    refine z_istore_n (L' := [(0, .ref m), (1, .int (nI i0)), (2, .int (nI 0)), (3, .int (nI 0))]) C d_M_raise_47 rfl (by decide) rfl ?_
    refine z_iload_n C d_M_raise_48 rfl rfl ?_
    refine z_if_eq (tgt := 68) C d_M_raise_49 (by decide) (fun _ => ?_) (fun c_49 => absurd (rfl) c_49)
    refine z_iload_n C d_M_raise_68 rfl rfl ?_
    refine z_istore (L' := [(0, .ref m), (1, .int (nI i0)), (2, .int (nI 0)), (3, .int (nI 0)), (4, .int (nI i0))]) C d_M_raise_69 (by decide) rfl ?_
    refine z_iload_n C d_M_raise_71 rfl rfl ?_
    refine z_if_eq (tgt := 84) C d_M_raise_72 (by decide) (fun _ => ?_) (fun c_72 => absurd (rfl) c_72)
    refine z_iload_n C d_M_raise_84 rfl rfl ?_
    refine z_istore (L' := [(0, .ref m), (1, .int (nI i0)), (2, .int (nI 0)), (3, .int (nI 0)), (4, .int (nI i0)), (5, .int (nI i0))]) C d_M_raise_85 (by decide) rfl ?_
    refine z_iload_n C d_M_raise_87 rfl rfl ?_
    refine z_if_eq (tgt := 104) C d_M_raise_88 (by decide) (fun _ => ?_) (fun c_88 => absurd (rfl) c_88)
    refine z_aload_n C d_M_raise_104 rfl rfl ?_
    refine z_callV (rest := []) (n := 0) (As := []) C (m_factorT E X.2.1 sz _ H htr) ⟨z_cb C k_M_factor ml_M_174 ii_M rfl rfl (by decide +kernel) ⟨by decide, by decide⟩, C.2.2.2.2.1 _ im_M_factor, C.2.2.2.2.1 _ se_M_factor⟩ H.1 rfl rfl rfl (Nat.le_of_ble_eq_true rfl) d_M_raise_105 ⟨by decide, by decide⟩ ?_
    intro v_105 s_105 M_105 hp_105
    obtain ⟨rfl, rfl, rfl⟩ := hp_105
    show Z _ _ _ _ _ _ _ _ 108 _ []
    refine z_iload C d_M_raise_108 rfl ?_
    exact z_iret C ⟨by rw [een], rfl, rfl⟩ d_M_raise_110
  · have c_5 : i0 < xlen := Nat.not_le.mp (fun q => c_5 ((nI_leI (a := xlen) (b := i0) (by omega) (by omega)).mpr q))
    have hc0 := hch i0
    refine z_aload_n C d_M_raise_8 rfl rfl ?_
    refine z_get C in_M H.1 rfl 0 (by decide) fl_M_7 rfl rfl d_M_raise_9 ?_
    refine z_iload_n C d_M_raise_12 rfl rfl ?_
    refine z_iald C H.2.1 0 rfl i0 (rfl) (by omega) (by omega) d_M_raise_13 ?_
    refine z_top (y := nI (xln i0)) rfl ?_
    refine z_bipush (v := nI 94) C d_M_raise_14 (by decide) ?_
    refine z_icmp_ne (tgt := 23) C d_M_raise_16 (by decide) (fun c_16 => ?_) (fun c_16 => ?_)
    · have c_16 : ¬ (xln i0) = 94 := fun q => c_16 (congrArg nI q)
      have hn94 : ¬ cs.getD i0 0 = 94 := by rw [← hln i0 (by omega)]; exact c_16
      have een : m_end cs i0 = i0 := by unfold m_end; rw [if_neg hn94]
      refine z_iconst (v := nI 0) C d_M_raise_23 (by decide) ?_
      refine z_istore_n (L' := [(0, .ref m), (1, .int (nI i0)), (2, .int (nI 0))]) C d_M_raise_24 rfl (by decide) rfl ?_
      refine z_iload_n C d_M_raise_25 rfl rfl ?_
      refine z_if_eq (tgt := 46) C d_M_raise_26 (by decide) (fun _ => ?_) (fun c_26 => absurd (rfl) c_26)
      refine z_iconst (v := nI 0) C d_M_raise_46 (by decide) ?_
      refine z_istore_n (L' := [(0, .ref m), (1, .int (nI i0)), (2, .int (nI 0)), (3, .int (nI 0))]) C d_M_raise_47 rfl (by decide) rfl ?_
      refine z_iload_n C d_M_raise_48 rfl rfl ?_
      refine z_if_eq (tgt := 68) C d_M_raise_49 (by decide) (fun _ => ?_) (fun c_49 => absurd (rfl) c_49)
      refine z_iload_n C d_M_raise_68 rfl rfl ?_
      refine z_istore (L' := [(0, .ref m), (1, .int (nI i0)), (2, .int (nI 0)), (3, .int (nI 0)), (4, .int (nI i0))]) C d_M_raise_69 (by decide) rfl ?_
      refine z_iload_n C d_M_raise_71 rfl rfl ?_
      refine z_if_eq (tgt := 84) C d_M_raise_72 (by decide) (fun _ => ?_) (fun c_72 => absurd (rfl) c_72)
      refine z_iload_n C d_M_raise_84 rfl rfl ?_
      refine z_istore (L' := [(0, .ref m), (1, .int (nI i0)), (2, .int (nI 0)), (3, .int (nI 0)), (4, .int (nI i0)), (5, .int (nI i0))]) C d_M_raise_85 (by decide) rfl ?_
      refine z_iload_n C d_M_raise_87 rfl rfl ?_
      refine z_if_eq (tgt := 104) C d_M_raise_88 (by decide) (fun _ => ?_) (fun c_88 => absurd (rfl) c_88)
      refine z_aload_n C d_M_raise_104 rfl rfl ?_
      refine z_callV (rest := []) (n := 0) (As := []) C (m_factorT E X.2.1 sz _ H htr) ⟨z_cb C k_M_factor ml_M_174 ii_M rfl rfl (by decide +kernel) ⟨by decide, by decide⟩, C.2.2.2.2.1 _ im_M_factor, C.2.2.2.2.1 _ se_M_factor⟩ H.1 rfl rfl rfl (Nat.le_of_ble_eq_true rfl) d_M_raise_105 ⟨by decide, by decide⟩ ?_
      intro v_105 s_105 M_105 hp_105
      obtain ⟨rfl, rfl, rfl⟩ := hp_105
      show Z _ _ _ _ _ _ _ _ 108 _ []
      refine z_iload C d_M_raise_108 rfl ?_
      exact z_iret C ⟨by rw [een], rfl, rfl⟩ d_M_raise_110
    · have c_16 : (xln i0) = 94 := (nI_eq (a := (xln i0)) (b := 94) (by omega) (by omega)).mp c_16
      have h94 : cs.getD i0 0 = 94 := by rw [← hln i0 (by omega)]; exact c_16
      obtain ⟨r1, r2, r3, r4⟩ := hrai h94
      have hc1 := hch (i0 + 1)
      refine z_iconst (v := nI 1) C d_M_raise_19 (by decide) ?_
      refine z_goto (tgt := 24) C d_M_raise_20 (by decide) ?_
      refine z_istore_n (L' := [(0, .ref m), (1, .int (nI i0)), (2, .int (nI 1))]) C d_M_raise_24 rfl (by decide) rfl ?_
      refine z_iload_n C d_M_raise_25 rfl rfl ?_
      refine z_if_eq (tgt := 46) C d_M_raise_26 (by decide) (fun c_26 => absurd c_26 (by decide)) (fun _ => ?_)
      refine z_aload_n C d_M_raise_29 rfl rfl ?_
      refine z_get C in_M H.1 rfl 0 (by decide) fl_M_7 rfl rfl d_M_raise_30 ?_
      refine z_iload_n C d_M_raise_33 rfl rfl ?_
      refine z_iconst (v := nI 1) C d_M_raise_34 (by decide) ?_
      refine z_iadd C d_M_raise_35 ?_
      refine z_top (y := nI (i0 + 1)) (nI_add _ _) ?_
      refine z_iald C H.2.1 0 rfl (i0 + 1) (rfl) (by omega) (by omega) d_M_raise_36 ?_
      refine z_top (y := nI (xln (i0 + 1))) rfl ?_
      refine z_bipush (v := nI 45) C d_M_raise_37 (by decide) ?_
      refine z_icmp_ne (tgt := 46) C d_M_raise_39 (by decide) (fun c_39 => ?_) (fun c_39 => ?_)
      · have c_39 : ¬ (xln (i0 + 1)) = 45 := fun q => c_39 (congrArg nI q)
        have hn45 : ¬ cs.getD (i0 + 1) 0 = 45 := by rw [← hln (i0 + 1) (by omega)]; exact c_39
        have efr : m_from cs i0 = i0 + 1 := by unfold m_from; rw [if_pos h94, if_neg hn45]
        have een : m_end cs i0 = dgs cs 32 (i0 + 1) := by unfold m_end; rw [if_pos h94, efr]
        rw [efr, een] at r2 r4
        rw [een] at r3
        refine z_iconst (v := nI 0) C d_M_raise_46 (by decide) ?_
        refine z_istore_n (L' := [(0, .ref m), (1, .int (nI i0)), (2, .int (nI 1)), (3, .int (nI 0))]) C d_M_raise_47 rfl (by decide) rfl ?_
        refine z_iload_n C d_M_raise_48 rfl rfl ?_
        refine z_if_eq (tgt := 68) C d_M_raise_49 (by decide) (fun c_49 => absurd c_49 (by decide)) (fun _ => ?_)
        refine z_iload_n C d_M_raise_52 rfl rfl ?_
        refine z_if_eq (tgt := 62) C d_M_raise_53 (by decide) (fun _ => ?_) (fun c_53 => absurd (rfl) c_53)
        refine z_iload_n C d_M_raise_62 rfl rfl ?_
        refine z_iconst (v := nI 1) C d_M_raise_63 (by decide) ?_
        refine z_iadd C d_M_raise_64 ?_
        refine z_top (y := nI (i0 + 1)) (nI_add _ _) ?_
        refine z_goto (tgt := 69) C d_M_raise_65 (by decide) ?_
        refine z_istore (L' := [(0, .ref m), (1, .int (nI i0)), (2, .int (nI 1)), (3, .int (nI 0)), (4, .int (nI (i0 + 1)))]) C d_M_raise_69 (by decide) rfl ?_
        refine z_iload_n C d_M_raise_71 rfl rfl ?_
        refine z_if_eq (tgt := 84) C d_M_raise_72 (by decide) (fun c_72 => absurd c_72 (by decide)) (fun _ => ?_)
        refine z_aload_n C d_M_raise_75 rfl rfl ?_
        refine z_iload C d_M_raise_76 rfl ?_
        refine z_callV (rest := []) (n := 1) (As := [.int (nI (i0 + 1))]) C (m_digits E X.2.1 sz _ H cs hlen h32 hln hch (i0 + 1) (by omega)) ⟨z_cb C k_M_digits ml_M_161 ii_M rfl rfl (by decide +kernel) ⟨by decide, by decide⟩, C.2.2.2.2.1 _ im_M_digits, C.2.2.2.2.1 _ se_M_digits⟩ H.1 rfl rfl rfl (Nat.le_of_ble_eq_true rfl) d_M_raise_78 ⟨by decide, by decide⟩ ?_
        intro v_78 s_78 M_78 hp_78
        obtain ⟨rfl, rfl, rfl⟩ := hp_78
        show Z _ _ _ _ _ _ _ _ 81 _ [.int (nI (dgs cs 32 (i0 + 1)))]
        refine z_goto (tgt := 85) C d_M_raise_81 (by decide) ?_
        refine z_istore (L' := [(0, .ref m), (1, .int (nI i0)), (2, .int (nI 1)), (3, .int (nI 0)), (4, .int (nI (i0 + 1))), (5, .int (nI (dgs cs 32 (i0 + 1))))]) C d_M_raise_85 (by decide) rfl ?_
        refine z_iload_n C d_M_raise_87 rfl rfl ?_
        refine z_if_eq (tgt := 104) C d_M_raise_88 (by decide) (fun c_88 => absurd c_88 (by decide)) (fun _ => ?_)
        refine z_aload_n C d_M_raise_91 rfl rfl ?_
        refine z_aload_n C d_M_raise_92 rfl rfl ?_
        refine z_iload C d_M_raise_93 rfl ?_
        refine z_iload C d_M_raise_95 rfl ?_
        refine z_callV (rest := [.ref m]) (n := 2) (As := [.int (nI (i0 + 1)), .int (nI (dgs cs 32 (i0 + 1)))]) C (m_worth E X.2.1 sz _ H cs hlen h32 hln hch (i0 + 1) (dgs cs 32 (i0 + 1)) r2 r3 (fun i h1 h2 => dgs_dig cs 32 (i0 + 1) i h1 h2)) ⟨z_cb C k_M_worth ml_M_164 ii_M rfl rfl (by decide +kernel) ⟨by decide, by decide⟩, C.2.2.2.2.1 _ im_M_worth, C.2.2.2.2.1 _ se_M_worth⟩ H.1 rfl rfl rfl (Nat.le_of_ble_eq_true rfl) d_M_raise_97 ⟨by decide, by decide⟩ ?_
        intro v_97 s_97 M_97 hp_97
        obtain ⟨rfl, rfl, rfl⟩ := hp_97
        show Z _ _ _ _ _ _ _ _ 100 _ [.int (nI (wth cs (dgs cs 32 (i0 + 1) - (i0 + 1)) 0 (i0 + 1))), .ref m]
        refine z_iload_n C d_M_raise_100 rfl rfl ?_
        refine z_callV (rest := []) (n := 2) (As := [.int (nI (wth cs (dgs cs 32 (i0 + 1) - (i0 + 1)) 0 (i0 + 1))), .int (nI 0)]) C (m_powerT E X.2.1 sz _ H ((wth cs (dgs cs 32 (i0 + 1) - (i0 + 1)) 0 (i0 + 1))) 0 htr) ⟨z_cb C k_M_power ml_M_170 ii_M rfl rfl (by decide +kernel) ⟨by decide, by decide⟩, C.2.2.2.2.1 _ im_M_power, C.2.2.2.2.1 _ se_M_power⟩ H.1 rfl rfl rfl (Nat.le_of_ble_eq_true rfl) d_M_raise_101 ⟨by decide, by decide⟩ ?_
        intro v_101 s_101 M_101 hp_101
        obtain ⟨rfl, rfl, rfl⟩ := hp_101
        show Z _ _ _ _ _ _ _ _ 104 _ []
        refine z_aload_n C d_M_raise_104 rfl rfl ?_
        refine z_callV (rest := []) (n := 0) (As := []) C (m_factorT E X.2.1 sz _ H htr) ⟨z_cb C k_M_factor ml_M_174 ii_M rfl rfl (by decide +kernel) ⟨by decide, by decide⟩, C.2.2.2.2.1 _ im_M_factor, C.2.2.2.2.1 _ se_M_factor⟩ H.1 rfl rfl rfl (Nat.le_of_ble_eq_true rfl) d_M_raise_105 ⟨by decide, by decide⟩ ?_
        intro v_105 s_105 M_105 hp_105
        obtain ⟨rfl, rfl, rfl⟩ := hp_105
        show Z _ _ _ _ _ _ _ _ 108 _ []
        refine z_iload C d_M_raise_108 rfl ?_
        exact z_iret C ⟨by rw [een], rfl, rfl⟩ d_M_raise_110
      · have c_39 : (xln (i0 + 1)) = 45 := (nI_eq (a := (xln (i0 + 1))) (b := 45) (by omega) (by omega)).mp c_39
        have h45 : cs.getD (i0 + 1) 0 = 45 := by rw [← hln (i0 + 1) (by omega)]; exact c_39
        have efr : m_from cs i0 = i0 + 2 := by unfold m_from; rw [if_pos h94, if_pos h45]
        have een : m_end cs i0 = dgs cs 32 (i0 + 2) := by unfold m_end; rw [if_pos h94, efr]
        rw [efr, een] at r2 r4
        rw [een] at r3
        refine z_iconst (v := nI 1) C d_M_raise_42 (by decide) ?_
        refine z_goto (tgt := 47) C d_M_raise_43 (by decide) ?_
        refine z_istore_n (L' := [(0, .ref m), (1, .int (nI i0)), (2, .int (nI 1)), (3, .int (nI 1))]) C d_M_raise_47 rfl (by decide) rfl ?_
        refine z_iload_n C d_M_raise_48 rfl rfl ?_
        refine z_if_eq (tgt := 68) C d_M_raise_49 (by decide) (fun c_49 => absurd c_49 (by decide)) (fun _ => ?_)
        refine z_iload_n C d_M_raise_52 rfl rfl ?_
        refine z_if_eq (tgt := 62) C d_M_raise_53 (by decide) (fun c_53 => absurd c_53 (by decide)) (fun _ => ?_)
        refine z_iload_n C d_M_raise_56 rfl rfl ?_
        refine z_iconst (v := nI 2) C d_M_raise_57 (by decide) ?_
        refine z_iadd C d_M_raise_58 ?_
        refine z_top (y := nI (i0 + 2)) (nI_add _ _) ?_
        refine z_goto (tgt := 69) C d_M_raise_59 (by decide) ?_
        refine z_istore (L' := [(0, .ref m), (1, .int (nI i0)), (2, .int (nI 1)), (3, .int (nI 1)), (4, .int (nI (i0 + 2)))]) C d_M_raise_69 (by decide) rfl ?_
        refine z_iload_n C d_M_raise_71 rfl rfl ?_
        refine z_if_eq (tgt := 84) C d_M_raise_72 (by decide) (fun c_72 => absurd c_72 (by decide)) (fun _ => ?_)
        refine z_aload_n C d_M_raise_75 rfl rfl ?_
        refine z_iload C d_M_raise_76 rfl ?_
        refine z_callV (rest := []) (n := 1) (As := [.int (nI (i0 + 2))]) C (m_digits E X.2.1 sz _ H cs hlen h32 hln hch (i0 + 2) (by omega)) ⟨z_cb C k_M_digits ml_M_161 ii_M rfl rfl (by decide +kernel) ⟨by decide, by decide⟩, C.2.2.2.2.1 _ im_M_digits, C.2.2.2.2.1 _ se_M_digits⟩ H.1 rfl rfl rfl (Nat.le_of_ble_eq_true rfl) d_M_raise_78 ⟨by decide, by decide⟩ ?_
        intro v_78 s_78 M_78 hp_78
        obtain ⟨rfl, rfl, rfl⟩ := hp_78
        show Z _ _ _ _ _ _ _ _ 81 _ [.int (nI (dgs cs 32 (i0 + 2)))]
        refine z_goto (tgt := 85) C d_M_raise_81 (by decide) ?_
        refine z_istore (L' := [(0, .ref m), (1, .int (nI i0)), (2, .int (nI 1)), (3, .int (nI 1)), (4, .int (nI (i0 + 2))), (5, .int (nI (dgs cs 32 (i0 + 2))))]) C d_M_raise_85 (by decide) rfl ?_
        refine z_iload_n C d_M_raise_87 rfl rfl ?_
        refine z_if_eq (tgt := 104) C d_M_raise_88 (by decide) (fun c_88 => absurd c_88 (by decide)) (fun _ => ?_)
        refine z_aload_n C d_M_raise_91 rfl rfl ?_
        refine z_aload_n C d_M_raise_92 rfl rfl ?_
        refine z_iload C d_M_raise_93 rfl ?_
        refine z_iload C d_M_raise_95 rfl ?_
        refine z_callV (rest := [.ref m]) (n := 2) (As := [.int (nI (i0 + 2)), .int (nI (dgs cs 32 (i0 + 2)))]) C (m_worth E X.2.1 sz _ H cs hlen h32 hln hch (i0 + 2) (dgs cs 32 (i0 + 2)) r2 r3 (fun i h1 h2 => dgs_dig cs 32 (i0 + 2) i h1 h2)) ⟨z_cb C k_M_worth ml_M_164 ii_M rfl rfl (by decide +kernel) ⟨by decide, by decide⟩, C.2.2.2.2.1 _ im_M_worth, C.2.2.2.2.1 _ se_M_worth⟩ H.1 rfl rfl rfl (Nat.le_of_ble_eq_true rfl) d_M_raise_97 ⟨by decide, by decide⟩ ?_
        intro v_97 s_97 M_97 hp_97
        obtain ⟨rfl, rfl, rfl⟩ := hp_97
        show Z _ _ _ _ _ _ _ _ 100 _ [.int (nI (wth cs (dgs cs 32 (i0 + 2) - (i0 + 2)) 0 (i0 + 2))), .ref m]
        refine z_iload_n C d_M_raise_100 rfl rfl ?_
        refine z_callV (rest := []) (n := 2) (As := [.int (nI (wth cs (dgs cs 32 (i0 + 2) - (i0 + 2)) 0 (i0 + 2))), .int (nI 1)]) C (m_powerT E X.2.1 sz _ H ((wth cs (dgs cs 32 (i0 + 2) - (i0 + 2)) 0 (i0 + 2))) 1 htr) ⟨z_cb C k_M_power ml_M_170 ii_M rfl rfl (by decide +kernel) ⟨by decide, by decide⟩, C.2.2.2.2.1 _ im_M_power, C.2.2.2.2.1 _ se_M_power⟩ H.1 rfl rfl rfl (Nat.le_of_ble_eq_true rfl) d_M_raise_101 ⟨by decide, by decide⟩ ?_
        intro v_101 s_101 M_101 hp_101
        obtain ⟨rfl, rfl, rfl⟩ := hp_101
        show Z _ _ _ _ _ _ _ _ 104 _ []
        refine z_aload_n C d_M_raise_104 rfl rfl ?_
        refine z_callV (rest := []) (n := 0) (As := []) C (m_factorT E X.2.1 sz _ H htr) ⟨z_cb C k_M_factor ml_M_174 ii_M rfl rfl (by decide +kernel) ⟨by decide, by decide⟩, C.2.2.2.2.1 _ im_M_factor, C.2.2.2.2.1 _ se_M_factor⟩ H.1 rfl rfl rfl (Nat.le_of_ble_eq_true rfl) d_M_raise_105 ⟨by decide, by decide⟩ ?_
        intro v_105 s_105 M_105 hp_105
        obtain ⟨rfl, rfl, rfl⟩ := hp_105
        show Z _ _ _ _ _ _ _ _ 108 _ []
        refine z_iload C d_M_raise_108 rfl ?_
        exact z_iret C ⟨by rw [een], rfl, rfl⟩ d_M_raise_110
set_option maxHeartbeats 4000000 in
/-- raise -/
theorem m_raise (E : zE) (l : Launch) (sz : Nat) (M : zM) {m : Nat} {xln : Nat → Nat} {xlen : Nat} {xlab : Nat} {xbad : Int32} {xlev : Nat} {xtr : Int32} {xwa : Nat} {xpl : Nat} {xfo : Nat} {xsf : Nat → Nat} {xbf : Nat → Nat} {xF : Nat → FF} {xG : Nat → FF} {xP : Nat → FF} {xQ : Nat → FF} {xmm : Nat → FF} {xsl : Nat → Nat} {xkd : Nat → Nat} {xhs : Nat → Nat} {xht : Nat → Nat} {xsg : Nat → Nat} {xdv : Nat → Nat} (H : mw E M m xln xlen xlab xbad xlev xtr xwa xpl xfo xsf xbf xF xG xP xQ xmm xsl xkd xhs xht xsg xdv) (R : Nat → PS × PS) (hR : relR R xF xG) (htr : xtr = 0) (hlev : xlev ≤ 8) (hkd : ∀ j, xkd j < 100) (cs : List Nat) (hlen : xlen = cs.length) (h32 : cs.length ≤ 32) (hln : ∀ i, i < cs.length → xln i = cs.getD i 0) (hch : ∀ i, xln i < 128) (i0 : Nat) (hi0 : i0 ≤ cs.length) (hrai : raiOK cs i0) (hht : xht xlev ≤ 1) (hdv : xht xlev = 1 → xdv xlev ≤ 1) (ok71 : okF (R 71)) (ok53 : xht xlev = 1 → okF (R (53 + xlev))) : zMet E l y_M_raise c_M_raise 6 (some .int) { frames := 6, cells := 0, slots := 0, locals := 150 } 0 0 [.ref m, .int (nI i0)] sz M (eP E M sz m xln xlen xlab xbad xlev xtr xwa xpl xfo xsf xbf xF xG xP xQ xmm xsl xkd xhs xht xsg xdv (some (.int (nI (m_end cs i0)))) ((m_rai cs i0 (.inr (R, xlev, xkd, xhs, xht, xsg, xdv))).2)) := by
  refine zMet.ofZ (by decide) (Nat.le_of_ble_eq_true rfl) ?_
  intro X hl hini C
  show Z X E 6 _ 0 0 sz M 0 [(0, .ref m), (1, .int (nI i0))] []
  refine z_iload_n C d_M_raise_0 rfl rfl ?_
  refine z_aload_n C d_M_raise_1 rfl rfl ?_
  refine z_get C in_M H.1 rfl 1 (by decide) fl_M_67 rfl rfl d_M_raise_2 ?_
  refine z_icmp_ge (tgt := 23) C d_M_raise_5 (by decide) (fun c_5 => ?_) (fun c_5 => ?_)
  · have c_5 : xlen ≤ i0 := (nI_leI (a := xlen) (b := i0) (by omega) (by omega)).mp c_5
    have hn94 : ¬ cs.getD i0 0 = 94 := by rw [getD_out (by omega)]; decide
    have een : m_end cs i0 = i0 := by unfold m_end; rw [if_neg hn94]
    refine z_iconst (v := nI 0) C d_M_raise_23 (by decide) ?_
    refine z_istore_n (L' := [(0, .ref m), (1, .int (nI i0)), (2, .int (nI 0))]) C d_M_raise_24 rfl (by decide) rfl ?_
    refine z_iload_n C d_M_raise_25 rfl rfl ?_
    refine z_if_eq (tgt := 46) C d_M_raise_26 (by decide) (fun _ => ?_) (fun c_26 => absurd (rfl) c_26)
    refine z_iconst (v := nI 0) C d_M_raise_46 (by decide) ?_
    refine z_istore_n (L' := [(0, .ref m), (1, .int (nI i0)), (2, .int (nI 0)), (3, .int (nI 0))]) C d_M_raise_47 rfl (by decide) rfl ?_
    refine z_iload_n C d_M_raise_48 rfl rfl ?_
    refine z_if_eq (tgt := 68) C d_M_raise_49 (by decide) (fun _ => ?_) (fun c_49 => absurd (rfl) c_49)
    refine z_iload_n C d_M_raise_68 rfl rfl ?_
    refine z_istore (L' := [(0, .ref m), (1, .int (nI i0)), (2, .int (nI 0)), (3, .int (nI 0)), (4, .int (nI i0))]) C d_M_raise_69 (by decide) rfl ?_
    refine z_iload_n C d_M_raise_71 rfl rfl ?_
    refine z_if_eq (tgt := 84) C d_M_raise_72 (by decide) (fun _ => ?_) (fun c_72 => absurd (rfl) c_72)
    refine z_iload_n C d_M_raise_84 rfl rfl ?_
    refine z_istore (L' := [(0, .ref m), (1, .int (nI i0)), (2, .int (nI 0)), (3, .int (nI 0)), (4, .int (nI i0)), (5, .int (nI i0))]) C d_M_raise_85 (by decide) rfl ?_
    refine z_iload_n C d_M_raise_87 rfl rfl ?_
    refine z_if_eq (tgt := 104) C d_M_raise_88 (by decide) (fun _ => ?_) (fun c_88 => absurd (rfl) c_88)
    refine z_aload_n C d_M_raise_104 rfl rfl ?_
    refine z_callV (rest := []) (n := 0) (As := []) C (m_factor E X.2.1 sz _ H R hR htr (by omega) hkd (by omega) hdv (by have h9 := ok71.1; rw [hR _ (by omega)] at h9; exact h9) (fun q => by have h9 := (ok53 q).1; rw [hR _ (by omega)] at h9; exact h9)) ⟨z_cb C k_M_factor ml_M_174 ii_M rfl rfl (by decide +kernel) ⟨by decide, by decide⟩, C.2.2.2.2.1 _ im_M_factor, C.2.2.2.2.1 _ se_M_factor⟩ H.1 rfl rfl rfl (Nat.le_of_ble_eq_true rfl) d_M_raise_105 ⟨by decide, by decide⟩ ?_
    intro v_105 s_105 M_105 hp_105
    obtain ⟨rfl, rfl, ho_105, lev_105, tr_105, F_105, G_105, P_105, Q_105, mm_105, sl_105, kd_105, hs_105, ht_105, sg_105, dv_105, H_105, hk_105, hkd_105, hlv_105, hr_105⟩ := hp_105
    have hz_105 : zoutR M M_105 m (m + 15) := zoutR_tr zoutR_rf ho_105
    show Z _ _ _ _ _ _ _ _ 108 _ []
    refine z_iload C d_M_raise_108 rfl ?_
    have er_ : (m_rai cs i0 (.inr (R, xlev, xkd, xhs, xht, xsg, xdv))).2 = m_fac (R, xlev, xkd, xhs, xht, xsg, xdv) := by
      show m_bind (if cs.getD i0 0 = 94 then _ else _) m_fac = _
      rw [if_neg hn94]; rfl
    exact z_iret C ⟨by rw [een], rfl, hz_105, lev_105, tr_105, F_105, G_105, P_105, Q_105, mm_105, sl_105, kd_105, hs_105, ht_105, sg_105, dv_105, H_105, hk_105, hkd_105, hlv_105, by rw [er_]; exact hr_105⟩ d_M_raise_110
  · have c_5 : i0 < xlen := Nat.not_le.mp (fun q => c_5 ((nI_leI (a := xlen) (b := i0) (by omega) (by omega)).mpr q))
    have hc0 := hch i0
    refine z_aload_n C d_M_raise_8 rfl rfl ?_
    refine z_get C in_M H.1 rfl 0 (by decide) fl_M_7 rfl rfl d_M_raise_9 ?_
    refine z_iload_n C d_M_raise_12 rfl rfl ?_
    refine z_iald C H.2.1 0 rfl i0 (rfl) (by omega) (by omega) d_M_raise_13 ?_
    refine z_top (y := nI (xln i0)) rfl ?_
    refine z_bipush (v := nI 94) C d_M_raise_14 (by decide) ?_
    refine z_icmp_ne (tgt := 23) C d_M_raise_16 (by decide) (fun c_16 => ?_) (fun c_16 => ?_)
    · have c_16 : ¬ (xln i0) = 94 := fun q => c_16 (congrArg nI q)
      have hn94 : ¬ cs.getD i0 0 = 94 := by rw [← hln i0 (by omega)]; exact c_16
      have een : m_end cs i0 = i0 := by unfold m_end; rw [if_neg hn94]
      refine z_iconst (v := nI 0) C d_M_raise_23 (by decide) ?_
      refine z_istore_n (L' := [(0, .ref m), (1, .int (nI i0)), (2, .int (nI 0))]) C d_M_raise_24 rfl (by decide) rfl ?_
      refine z_iload_n C d_M_raise_25 rfl rfl ?_
      refine z_if_eq (tgt := 46) C d_M_raise_26 (by decide) (fun _ => ?_) (fun c_26 => absurd (rfl) c_26)
      refine z_iconst (v := nI 0) C d_M_raise_46 (by decide) ?_
      refine z_istore_n (L' := [(0, .ref m), (1, .int (nI i0)), (2, .int (nI 0)), (3, .int (nI 0))]) C d_M_raise_47 rfl (by decide) rfl ?_
      refine z_iload_n C d_M_raise_48 rfl rfl ?_
      refine z_if_eq (tgt := 68) C d_M_raise_49 (by decide) (fun _ => ?_) (fun c_49 => absurd (rfl) c_49)
      refine z_iload_n C d_M_raise_68 rfl rfl ?_
      refine z_istore (L' := [(0, .ref m), (1, .int (nI i0)), (2, .int (nI 0)), (3, .int (nI 0)), (4, .int (nI i0))]) C d_M_raise_69 (by decide) rfl ?_
      refine z_iload_n C d_M_raise_71 rfl rfl ?_
      refine z_if_eq (tgt := 84) C d_M_raise_72 (by decide) (fun _ => ?_) (fun c_72 => absurd (rfl) c_72)
      refine z_iload_n C d_M_raise_84 rfl rfl ?_
      refine z_istore (L' := [(0, .ref m), (1, .int (nI i0)), (2, .int (nI 0)), (3, .int (nI 0)), (4, .int (nI i0)), (5, .int (nI i0))]) C d_M_raise_85 (by decide) rfl ?_
      refine z_iload_n C d_M_raise_87 rfl rfl ?_
      refine z_if_eq (tgt := 104) C d_M_raise_88 (by decide) (fun _ => ?_) (fun c_88 => absurd (rfl) c_88)
      refine z_aload_n C d_M_raise_104 rfl rfl ?_
      refine z_callV (rest := []) (n := 0) (As := []) C (m_factor E X.2.1 sz _ H R hR htr (by omega) hkd (by omega) hdv (by have h9 := ok71.1; rw [hR _ (by omega)] at h9; exact h9) (fun q => by have h9 := (ok53 q).1; rw [hR _ (by omega)] at h9; exact h9)) ⟨z_cb C k_M_factor ml_M_174 ii_M rfl rfl (by decide +kernel) ⟨by decide, by decide⟩, C.2.2.2.2.1 _ im_M_factor, C.2.2.2.2.1 _ se_M_factor⟩ H.1 rfl rfl rfl (Nat.le_of_ble_eq_true rfl) d_M_raise_105 ⟨by decide, by decide⟩ ?_
      intro v_105 s_105 M_105 hp_105
      obtain ⟨rfl, rfl, ho_105, lev_105, tr_105, F_105, G_105, P_105, Q_105, mm_105, sl_105, kd_105, hs_105, ht_105, sg_105, dv_105, H_105, hk_105, hkd_105, hlv_105, hr_105⟩ := hp_105
      have hz_105 : zoutR M M_105 m (m + 15) := zoutR_tr zoutR_rf ho_105
      show Z _ _ _ _ _ _ _ _ 108 _ []
      refine z_iload C d_M_raise_108 rfl ?_
      have er_ : (m_rai cs i0 (.inr (R, xlev, xkd, xhs, xht, xsg, xdv))).2 = m_fac (R, xlev, xkd, xhs, xht, xsg, xdv) := by
        show m_bind (if cs.getD i0 0 = 94 then _ else _) m_fac = _
        rw [if_neg hn94]; rfl
      exact z_iret C ⟨by rw [een], rfl, hz_105, lev_105, tr_105, F_105, G_105, P_105, Q_105, mm_105, sl_105, kd_105, hs_105, ht_105, sg_105, dv_105, H_105, hk_105, hkd_105, hlv_105, by rw [er_]; exact hr_105⟩ d_M_raise_110
    · have c_16 : (xln i0) = 94 := (nI_eq (a := (xln i0)) (b := 94) (by omega) (by omega)).mp c_16
      have h94 : cs.getD i0 0 = 94 := by rw [← hln i0 (by omega)]; exact c_16
      obtain ⟨r1, r2, r3, r4⟩ := hrai h94
      have hc1 := hch (i0 + 1)
      refine z_iconst (v := nI 1) C d_M_raise_19 (by decide) ?_
      refine z_goto (tgt := 24) C d_M_raise_20 (by decide) ?_
      refine z_istore_n (L' := [(0, .ref m), (1, .int (nI i0)), (2, .int (nI 1))]) C d_M_raise_24 rfl (by decide) rfl ?_
      refine z_iload_n C d_M_raise_25 rfl rfl ?_
      refine z_if_eq (tgt := 46) C d_M_raise_26 (by decide) (fun c_26 => absurd c_26 (by decide)) (fun _ => ?_)
      refine z_aload_n C d_M_raise_29 rfl rfl ?_
      refine z_get C in_M H.1 rfl 0 (by decide) fl_M_7 rfl rfl d_M_raise_30 ?_
      refine z_iload_n C d_M_raise_33 rfl rfl ?_
      refine z_iconst (v := nI 1) C d_M_raise_34 (by decide) ?_
      refine z_iadd C d_M_raise_35 ?_
      refine z_top (y := nI (i0 + 1)) (nI_add _ _) ?_
      refine z_iald C H.2.1 0 rfl (i0 + 1) (rfl) (by omega) (by omega) d_M_raise_36 ?_
      refine z_top (y := nI (xln (i0 + 1))) rfl ?_
      refine z_bipush (v := nI 45) C d_M_raise_37 (by decide) ?_
      refine z_icmp_ne (tgt := 46) C d_M_raise_39 (by decide) (fun c_39 => ?_) (fun c_39 => ?_)
      · have c_39 : ¬ (xln (i0 + 1)) = 45 := fun q => c_39 (congrArg nI q)
        have hn45 : ¬ cs.getD (i0 + 1) 0 = 45 := by rw [← hln (i0 + 1) (by omega)]; exact c_39
        have efr : m_from cs i0 = i0 + 1 := by unfold m_from; rw [if_pos h94, if_neg hn45]
        have een : m_end cs i0 = dgs cs 32 (i0 + 1) := by unfold m_end; rw [if_pos h94, efr]
        rw [efr, een] at r2 r4
        rw [een] at r3
        refine z_iconst (v := nI 0) C d_M_raise_46 (by decide) ?_
        refine z_istore_n (L' := [(0, .ref m), (1, .int (nI i0)), (2, .int (nI 1)), (3, .int (nI 0))]) C d_M_raise_47 rfl (by decide) rfl ?_
        refine z_iload_n C d_M_raise_48 rfl rfl ?_
        refine z_if_eq (tgt := 68) C d_M_raise_49 (by decide) (fun c_49 => absurd c_49 (by decide)) (fun _ => ?_)
        refine z_iload_n C d_M_raise_52 rfl rfl ?_
        refine z_if_eq (tgt := 62) C d_M_raise_53 (by decide) (fun _ => ?_) (fun c_53 => absurd (rfl) c_53)
        refine z_iload_n C d_M_raise_62 rfl rfl ?_
        refine z_iconst (v := nI 1) C d_M_raise_63 (by decide) ?_
        refine z_iadd C d_M_raise_64 ?_
        refine z_top (y := nI (i0 + 1)) (nI_add _ _) ?_
        refine z_goto (tgt := 69) C d_M_raise_65 (by decide) ?_
        refine z_istore (L' := [(0, .ref m), (1, .int (nI i0)), (2, .int (nI 1)), (3, .int (nI 0)), (4, .int (nI (i0 + 1)))]) C d_M_raise_69 (by decide) rfl ?_
        refine z_iload_n C d_M_raise_71 rfl rfl ?_
        refine z_if_eq (tgt := 84) C d_M_raise_72 (by decide) (fun c_72 => absurd c_72 (by decide)) (fun _ => ?_)
        refine z_aload_n C d_M_raise_75 rfl rfl ?_
        refine z_iload C d_M_raise_76 rfl ?_
        refine z_callV (rest := []) (n := 1) (As := [.int (nI (i0 + 1))]) C (m_digits E X.2.1 sz _ H cs hlen h32 hln hch (i0 + 1) (by omega)) ⟨z_cb C k_M_digits ml_M_161 ii_M rfl rfl (by decide +kernel) ⟨by decide, by decide⟩, C.2.2.2.2.1 _ im_M_digits, C.2.2.2.2.1 _ se_M_digits⟩ H.1 rfl rfl rfl (Nat.le_of_ble_eq_true rfl) d_M_raise_78 ⟨by decide, by decide⟩ ?_
        intro v_78 s_78 M_78 hp_78
        obtain ⟨rfl, rfl, rfl⟩ := hp_78
        show Z _ _ _ _ _ _ _ _ 81 _ [.int (nI (dgs cs 32 (i0 + 1)))]
        refine z_goto (tgt := 85) C d_M_raise_81 (by decide) ?_
        refine z_istore (L' := [(0, .ref m), (1, .int (nI i0)), (2, .int (nI 1)), (3, .int (nI 0)), (4, .int (nI (i0 + 1))), (5, .int (nI (dgs cs 32 (i0 + 1))))]) C d_M_raise_85 (by decide) rfl ?_
        refine z_iload_n C d_M_raise_87 rfl rfl ?_
        refine z_if_eq (tgt := 104) C d_M_raise_88 (by decide) (fun c_88 => absurd c_88 (by decide)) (fun _ => ?_)
        refine z_aload_n C d_M_raise_91 rfl rfl ?_
        refine z_aload_n C d_M_raise_92 rfl rfl ?_
        refine z_iload C d_M_raise_93 rfl ?_
        refine z_iload C d_M_raise_95 rfl ?_
        refine z_callV (rest := [.ref m]) (n := 2) (As := [.int (nI (i0 + 1)), .int (nI (dgs cs 32 (i0 + 1)))]) C (m_worth E X.2.1 sz _ H cs hlen h32 hln hch (i0 + 1) (dgs cs 32 (i0 + 1)) r2 r3 (fun i h1 h2 => dgs_dig cs 32 (i0 + 1) i h1 h2)) ⟨z_cb C k_M_worth ml_M_164 ii_M rfl rfl (by decide +kernel) ⟨by decide, by decide⟩, C.2.2.2.2.1 _ im_M_worth, C.2.2.2.2.1 _ se_M_worth⟩ H.1 rfl rfl rfl (Nat.le_of_ble_eq_true rfl) d_M_raise_97 ⟨by decide, by decide⟩ ?_
        intro v_97 s_97 M_97 hp_97
        obtain ⟨rfl, rfl, rfl⟩ := hp_97
        show Z _ _ _ _ _ _ _ _ 100 _ [.int (nI (wth cs (dgs cs 32 (i0 + 1) - (i0 + 1)) 0 (i0 + 1))), .ref m]
        refine z_iload_n C d_M_raise_100 rfl rfl ?_
        refine z_callV (rest := []) (n := 2) (As := [.int (nI (wth cs (dgs cs 32 (i0 + 1) - (i0 + 1)) 0 (i0 + 1))), .int (nI 0)]) C (m_powerP E X.2.1 sz _ H ((wth cs (dgs cs 32 (i0 + 1) - (i0 + 1)) 0 (i0 + 1))) r4 htr (by have h9 := ok71.1; rw [hR _ (by omega)] at h9; exact h9)) ⟨z_cb C k_M_power ml_M_170 ii_M rfl rfl (by decide +kernel) ⟨by decide, by decide⟩, C.2.2.2.2.1 _ im_M_power, C.2.2.2.2.1 _ se_M_power⟩ H.1 rfl rfl rfl (Nat.le_of_ble_eq_true rfl) d_M_raise_101 ⟨by decide, by decide⟩ ?_
        intro v_101 s_101 M_101 hp_101
        obtain ⟨rfl, rfl, ho_101, tr_101, F_101, G_101, P_101, Q_101, mm_101, sl_101, H_101, hR_101⟩ := hp_101
        have hz_101 : zoutR M M_101 m (m + 15) := zoutR_tr zoutR_rf ho_101
        have ex_ : m_exp cs i0 = (((wth cs (dgs cs 32 (i0 + 1) - (i0 + 1)) 0 (i0 + 1)) : Nat) : Int) := by unfold m_exp; rw [if_neg hn45, een, efr]
        have hR2 : oR (fun q => q ≠ 71 ∧ q ≠ 72) xF xG F_101 G_101 tr_101 71 (op1 5 (((wth cs (dgs cs 32 (i0 + 1) - (i0 + 1)) 0 (i0 + 1)) : Nat) : Int) (pg xF 71, pg xG 71)) := hR_101
        rw [← hR 71 (by decide)] at hR2
        obtain ⟨hk1, hr1⟩ := hR2
        have er_ : (m_rai cs i0 (.inr (R, xlev, xkd, xhs, xht, xsg, xdv))).2 = m_bind (m_put (op1 5 (((wth cs (dgs cs 32 (i0 + 1) - (i0 + 1)) 0 (i0 + 1)) : Nat) : Int) (R 71)) (R, xlev, xkd, xhs, xht, xsg, xdv)) m_fac := by
          show m_bind (if cs.getD i0 0 = 94 then m_put (op1 5 (m_exp cs i0) (R 71)) (R, xlev, xkd, xhs, xht, xsg, xdv) else _) m_fac = _
          rw [if_pos h94, ex_]
        rcases eo : op1 5 (((wth cs (dgs cs 32 (i0 + 1) - (i0 + 1)) 0 (i0 + 1)) : Nat) : Int) (R 71) with t9 | g9
        · rw [eo] at hr1 er_
          have hne9 : ¬ tr_101 = 0 := by rw [show tr_101 = t9 from hr1]; exact pow_ne0 eo
          show Z _ _ _ _ _ _ _ _ 104 _ []
          refine z_aload_n C d_M_raise_104 rfl rfl ?_
          refine z_callV (rest := []) (n := 0) (As := []) C (m_factorT E X.2.1 sz _ H_101 hne9) ⟨z_cb C k_M_factor ml_M_174 ii_M rfl rfl (by decide +kernel) ⟨by decide, by decide⟩, C.2.2.2.2.1 _ im_M_factor, C.2.2.2.2.1 _ se_M_factor⟩ H_101.1 rfl rfl rfl (Nat.le_of_ble_eq_true rfl) d_M_raise_105 ⟨by decide, by decide⟩ ?_
          intro v_105 s_105 M_105 hp_105
          obtain ⟨rfl, rfl, rfl⟩ := hp_105
          show Z _ _ _ _ _ _ _ _ 108 _ []
          refine z_iload C d_M_raise_108 rfl ?_
          exact z_iret C ⟨by rw [een], rfl, hz_101, xlev, tr_101, F_101, G_101, P_101, Q_101, mm_101, sl_101, xkd, xhs, xht, xsg, xdv, H_101, fun q hq => hk1 q ⟨by omega, by omega⟩, hkd, by omega, by rw [er_]; exact ⟨hr1, pow_ne0 eo⟩⟩ d_M_raise_110
        · rw [eo] at hr1 er_
          obtain ⟨rfl, g1, g2⟩ := hr1
          have hR3 : relR (updR R 71 g9) F_101 G_101 := by
            intro q hq
            by_cases e9 : q = 71
            · rw [e9, updR_eq, g1, g2]
            · rw [updR_ne e9, hR q hq, (hk1 q ⟨e9, by omega⟩).1, (hk1 q ⟨e9, by omega⟩).2]
          have ok9 := ok_pow ok71 eo
          show Z _ _ _ _ _ _ _ _ 104 _ []
          refine z_aload_n C d_M_raise_104 rfl rfl ?_
          refine z_callV (rest := []) (n := 0) (As := []) C (m_factor E X.2.1 sz _ H_101 (updR R 71 g9) hR3 rfl (by omega) hkd (by omega) hdv (by have h9 := ok9.1; unfold okR; rw [g1, g2]; exact h9) (fun q => by have h9 := (ok53 q).1; rw [← updR_ne (R := R) (k := 71) (x := g9) (show 53 + xlev ≠ 71 by omega), hR3 _ (by omega)] at h9; exact h9)) ⟨z_cb C k_M_factor ml_M_174 ii_M rfl rfl (by decide +kernel) ⟨by decide, by decide⟩, C.2.2.2.2.1 _ im_M_factor, C.2.2.2.2.1 _ se_M_factor⟩ H_101.1 rfl rfl rfl (Nat.le_of_ble_eq_true rfl) d_M_raise_105 ⟨by decide, by decide⟩ ?_
          intro v_105 s_105 M_105 hp_105
          obtain ⟨rfl, rfl, ho_105, lev_105, tr_105, F_105, G_105, P_105, Q_105, mm_105, sl_105, kd_105, hs_105, ht_105, sg_105, dv_105, H_105, hk_105, hkd_105, hlv_105, hr_105⟩ := hp_105
          have hz_105 : zoutR M M_105 m (m + 15) := zoutR_tr hz_101 ho_105
          show Z _ _ _ _ _ _ _ _ 108 _ []
          refine z_iload C d_M_raise_108 rfl ?_
          exact z_iret C ⟨by rw [een], rfl, hz_105, lev_105, tr_105, F_105, G_105, P_105, Q_105, mm_105, sl_105, kd_105, hs_105, ht_105, sg_105, dv_105, H_105, fun q hq => ⟨by rw [(hk_105 q hq).1]; exact (hk1 q ⟨by omega, by omega⟩).1, by rw [(hk_105 q hq).2]; exact (hk1 q ⟨by omega, by omega⟩).2⟩, hkd_105, hlv_105, by rw [er_]; exact hr_105⟩ d_M_raise_110
      · have c_39 : (xln (i0 + 1)) = 45 := (nI_eq (a := (xln (i0 + 1))) (b := 45) (by omega) (by omega)).mp c_39
        have h45 : cs.getD (i0 + 1) 0 = 45 := by rw [← hln (i0 + 1) (by omega)]; exact c_39
        have efr : m_from cs i0 = i0 + 2 := by unfold m_from; rw [if_pos h94, if_pos h45]
        have een : m_end cs i0 = dgs cs 32 (i0 + 2) := by unfold m_end; rw [if_pos h94, efr]
        rw [efr, een] at r2 r4
        rw [een] at r3
        refine z_iconst (v := nI 1) C d_M_raise_42 (by decide) ?_
        refine z_goto (tgt := 47) C d_M_raise_43 (by decide) ?_
        refine z_istore_n (L' := [(0, .ref m), (1, .int (nI i0)), (2, .int (nI 1)), (3, .int (nI 1))]) C d_M_raise_47 rfl (by decide) rfl ?_
        refine z_iload_n C d_M_raise_48 rfl rfl ?_
        refine z_if_eq (tgt := 68) C d_M_raise_49 (by decide) (fun c_49 => absurd c_49 (by decide)) (fun _ => ?_)
        refine z_iload_n C d_M_raise_52 rfl rfl ?_
        refine z_if_eq (tgt := 62) C d_M_raise_53 (by decide) (fun c_53 => absurd c_53 (by decide)) (fun _ => ?_)
        refine z_iload_n C d_M_raise_56 rfl rfl ?_
        refine z_iconst (v := nI 2) C d_M_raise_57 (by decide) ?_
        refine z_iadd C d_M_raise_58 ?_
        refine z_top (y := nI (i0 + 2)) (nI_add _ _) ?_
        refine z_goto (tgt := 69) C d_M_raise_59 (by decide) ?_
        refine z_istore (L' := [(0, .ref m), (1, .int (nI i0)), (2, .int (nI 1)), (3, .int (nI 1)), (4, .int (nI (i0 + 2)))]) C d_M_raise_69 (by decide) rfl ?_
        refine z_iload_n C d_M_raise_71 rfl rfl ?_
        refine z_if_eq (tgt := 84) C d_M_raise_72 (by decide) (fun c_72 => absurd c_72 (by decide)) (fun _ => ?_)
        refine z_aload_n C d_M_raise_75 rfl rfl ?_
        refine z_iload C d_M_raise_76 rfl ?_
        refine z_callV (rest := []) (n := 1) (As := [.int (nI (i0 + 2))]) C (m_digits E X.2.1 sz _ H cs hlen h32 hln hch (i0 + 2) (by omega)) ⟨z_cb C k_M_digits ml_M_161 ii_M rfl rfl (by decide +kernel) ⟨by decide, by decide⟩, C.2.2.2.2.1 _ im_M_digits, C.2.2.2.2.1 _ se_M_digits⟩ H.1 rfl rfl rfl (Nat.le_of_ble_eq_true rfl) d_M_raise_78 ⟨by decide, by decide⟩ ?_
        intro v_78 s_78 M_78 hp_78
        obtain ⟨rfl, rfl, rfl⟩ := hp_78
        show Z _ _ _ _ _ _ _ _ 81 _ [.int (nI (dgs cs 32 (i0 + 2)))]
        refine z_goto (tgt := 85) C d_M_raise_81 (by decide) ?_
        refine z_istore (L' := [(0, .ref m), (1, .int (nI i0)), (2, .int (nI 1)), (3, .int (nI 1)), (4, .int (nI (i0 + 2))), (5, .int (nI (dgs cs 32 (i0 + 2))))]) C d_M_raise_85 (by decide) rfl ?_
        refine z_iload_n C d_M_raise_87 rfl rfl ?_
        refine z_if_eq (tgt := 104) C d_M_raise_88 (by decide) (fun c_88 => absurd c_88 (by decide)) (fun _ => ?_)
        refine z_aload_n C d_M_raise_91 rfl rfl ?_
        refine z_aload_n C d_M_raise_92 rfl rfl ?_
        refine z_iload C d_M_raise_93 rfl ?_
        refine z_iload C d_M_raise_95 rfl ?_
        refine z_callV (rest := [.ref m]) (n := 2) (As := [.int (nI (i0 + 2)), .int (nI (dgs cs 32 (i0 + 2)))]) C (m_worth E X.2.1 sz _ H cs hlen h32 hln hch (i0 + 2) (dgs cs 32 (i0 + 2)) r2 r3 (fun i h1 h2 => dgs_dig cs 32 (i0 + 2) i h1 h2)) ⟨z_cb C k_M_worth ml_M_164 ii_M rfl rfl (by decide +kernel) ⟨by decide, by decide⟩, C.2.2.2.2.1 _ im_M_worth, C.2.2.2.2.1 _ se_M_worth⟩ H.1 rfl rfl rfl (Nat.le_of_ble_eq_true rfl) d_M_raise_97 ⟨by decide, by decide⟩ ?_
        intro v_97 s_97 M_97 hp_97
        obtain ⟨rfl, rfl, rfl⟩ := hp_97
        show Z _ _ _ _ _ _ _ _ 100 _ [.int (nI (wth cs (dgs cs 32 (i0 + 2) - (i0 + 2)) 0 (i0 + 2))), .ref m]
        refine z_iload_n C d_M_raise_100 rfl rfl ?_
        refine z_callV (rest := []) (n := 2) (As := [.int (nI (wth cs (dgs cs 32 (i0 + 2) - (i0 + 2)) 0 (i0 + 2))), .int (nI 1)]) C (m_powerN E X.2.1 sz _ H ((wth cs (dgs cs 32 (i0 + 2) - (i0 + 2)) 0 (i0 + 2))) r4 htr (by have h9 := ok71.1; rw [hR _ (by omega)] at h9; exact h9)) ⟨z_cb C k_M_power ml_M_170 ii_M rfl rfl (by decide +kernel) ⟨by decide, by decide⟩, C.2.2.2.2.1 _ im_M_power, C.2.2.2.2.1 _ se_M_power⟩ H.1 rfl rfl rfl (Nat.le_of_ble_eq_true rfl) d_M_raise_101 ⟨by decide, by decide⟩ ?_
        intro v_101 s_101 M_101 hp_101
        obtain ⟨rfl, rfl, ho_101, tr_101, F_101, G_101, P_101, Q_101, mm_101, sl_101, H_101, hR_101⟩ := hp_101
        have hz_101 : zoutR M M_101 m (m + 15) := zoutR_tr zoutR_rf ho_101
        have ex_ : m_exp cs i0 = (-(((wth cs (dgs cs 32 (i0 + 2) - (i0 + 2)) 0 (i0 + 2)) : Nat) : Int)) := by unfold m_exp; rw [if_pos h45, een, efr]
        have hR2 : oR (fun q => q ≠ 71 ∧ q ≠ 72) xF xG F_101 G_101 tr_101 71 (op1 5 (-(((wth cs (dgs cs 32 (i0 + 2) - (i0 + 2)) 0 (i0 + 2)) : Nat) : Int)) (pg xF 71, pg xG 71)) := hR_101
        rw [← hR 71 (by decide)] at hR2
        obtain ⟨hk1, hr1⟩ := hR2
        have er_ : (m_rai cs i0 (.inr (R, xlev, xkd, xhs, xht, xsg, xdv))).2 = m_bind (m_put (op1 5 (-(((wth cs (dgs cs 32 (i0 + 2) - (i0 + 2)) 0 (i0 + 2)) : Nat) : Int)) (R 71)) (R, xlev, xkd, xhs, xht, xsg, xdv)) m_fac := by
          show m_bind (if cs.getD i0 0 = 94 then m_put (op1 5 (m_exp cs i0) (R 71)) (R, xlev, xkd, xhs, xht, xsg, xdv) else _) m_fac = _
          rw [if_pos h94, ex_]
        rcases eo : op1 5 (-(((wth cs (dgs cs 32 (i0 + 2) - (i0 + 2)) 0 (i0 + 2)) : Nat) : Int)) (R 71) with t9 | g9
        · rw [eo] at hr1 er_
          have hne9 : ¬ tr_101 = 0 := by rw [show tr_101 = t9 from hr1]; exact pow_ne0 eo
          show Z _ _ _ _ _ _ _ _ 104 _ []
          refine z_aload_n C d_M_raise_104 rfl rfl ?_
          refine z_callV (rest := []) (n := 0) (As := []) C (m_factorT E X.2.1 sz _ H_101 hne9) ⟨z_cb C k_M_factor ml_M_174 ii_M rfl rfl (by decide +kernel) ⟨by decide, by decide⟩, C.2.2.2.2.1 _ im_M_factor, C.2.2.2.2.1 _ se_M_factor⟩ H_101.1 rfl rfl rfl (Nat.le_of_ble_eq_true rfl) d_M_raise_105 ⟨by decide, by decide⟩ ?_
          intro v_105 s_105 M_105 hp_105
          obtain ⟨rfl, rfl, rfl⟩ := hp_105
          show Z _ _ _ _ _ _ _ _ 108 _ []
          refine z_iload C d_M_raise_108 rfl ?_
          exact z_iret C ⟨by rw [een], rfl, hz_101, xlev, tr_101, F_101, G_101, P_101, Q_101, mm_101, sl_101, xkd, xhs, xht, xsg, xdv, H_101, fun q hq => hk1 q ⟨by omega, by omega⟩, hkd, by omega, by rw [er_]; exact ⟨hr1, pow_ne0 eo⟩⟩ d_M_raise_110
        · rw [eo] at hr1 er_
          obtain ⟨rfl, g1, g2⟩ := hr1
          have hR3 : relR (updR R 71 g9) F_101 G_101 := by
            intro q hq
            by_cases e9 : q = 71
            · rw [e9, updR_eq, g1, g2]
            · rw [updR_ne e9, hR q hq, (hk1 q ⟨e9, by omega⟩).1, (hk1 q ⟨e9, by omega⟩).2]
          have ok9 := ok_pow ok71 eo
          show Z _ _ _ _ _ _ _ _ 104 _ []
          refine z_aload_n C d_M_raise_104 rfl rfl ?_
          refine z_callV (rest := []) (n := 0) (As := []) C (m_factor E X.2.1 sz _ H_101 (updR R 71 g9) hR3 rfl (by omega) hkd (by omega) hdv (by have h9 := ok9.1; unfold okR; rw [g1, g2]; exact h9) (fun q => by have h9 := (ok53 q).1; rw [← updR_ne (R := R) (k := 71) (x := g9) (show 53 + xlev ≠ 71 by omega), hR3 _ (by omega)] at h9; exact h9)) ⟨z_cb C k_M_factor ml_M_174 ii_M rfl rfl (by decide +kernel) ⟨by decide, by decide⟩, C.2.2.2.2.1 _ im_M_factor, C.2.2.2.2.1 _ se_M_factor⟩ H_101.1 rfl rfl rfl (Nat.le_of_ble_eq_true rfl) d_M_raise_105 ⟨by decide, by decide⟩ ?_
          intro v_105 s_105 M_105 hp_105
          obtain ⟨rfl, rfl, ho_105, lev_105, tr_105, F_105, G_105, P_105, Q_105, mm_105, sl_105, kd_105, hs_105, ht_105, sg_105, dv_105, H_105, hk_105, hkd_105, hlv_105, hr_105⟩ := hp_105
          have hz_105 : zoutR M M_105 m (m + 15) := zoutR_tr hz_101 ho_105
          show Z _ _ _ _ _ _ _ _ 108 _ []
          refine z_iload C d_M_raise_108 rfl ?_
          exact z_iret C ⟨by rw [een], rfl, hz_105, lev_105, tr_105, F_105, G_105, P_105, Q_105, mm_105, sl_105, kd_105, hs_105, ht_105, sg_105, dv_105, H_105, fun q hq => ⟨by rw [(hk_105 q hq).1]; exact (hk1 q ⟨by omega, by omega⟩).1, by rw [(hk_105 q hq).2]; exact (hk1 q ⟨by omega, by omega⟩).2⟩, hkd_105, hlv_105, by rw [er_]; exact hr_105⟩ d_M_raise_110
