def okK (r : Option AS) : Prop := ∀ a, r = some a → ∀ j, a.2.2 j < 100
theorem okK_i {p : Prop} [Decidable p] {A B : Option AS} (h1 : okK A) (h2 : okK B) : okK (if p then A else B) := by
  by_cases q : p
  · rw [if_pos q]; exact h1
  · rw [if_neg q]; exact h2
theorem okK_n : okK none := fun _ q => by cases q
theorem okK_s {s lev : Nat} {kd : Nat → Nat} (h : ∀ j, kd j < 100) : okK (some (s, lev, kd)) := fun a q => by
  rw [← Option.some.inj q]; exact h
theorem m_at_kd {s c lev : Nat} {kd : Nat → Nat} {a : AS} (h : ∀ j, kd j < 100) (e : m_at s c lev kd = some a) : ∀ j, a.2.2 j < 100 := by
  have key : okK (m_at s c lev kd) := by
    unfold m_at m_beg m_open m_close
    repeat' first | exact okK_n | exact okK_s h | exact okK_s (updN_b h (by first | decide | (split <;> decide))) | refine okK_i ?_ ?_
  exact key a e
set_option maxHeartbeats 4000000 in
/-- badPlaceOf -/
theorem m_badPlaceOf (E : zE) (l : Launch) (sz : Nat) (M : zM) {m : Nat} {xln : Nat → Nat} {xlen : Nat} {xlab : Nat} {xbad : Int32} {xlev : Nat} {xtr : Int32} {xwa : Nat} {xpl : Nat} {xfo : Nat} {xsf : Nat → Nat} {xbf : Nat → Nat} {xF : Nat → FF} {xG : Nat → FF} {xP : Nat → FF} {xQ : Nat → FF} {xmm : Nat → FF} {xsl : Nat → Nat} {xkd : Nat → Nat} {xhs : Nat → Nat} {xht : Nat → Nat} {xsg : Nat → Nat} {xdv : Nat → Nat} (H : mw E M m xln xlen xlab xbad xlev xtr xwa xpl xfo xsf xbf xF xG xP xQ xmm xsl xkd xhs xht xsg xdv) (cs : List Nat) (hlen : xlen = cs.length) (h32 : cs.length ≤ 32) (hln : ∀ i, i < cs.length → xln i = cs.getD i 0) (hch : ∀ i, xln i < 128) (hkd : ∀ j, xkd j < 100) : zMet E l y_M_badPlaceOf c_M_badPlaceOf 3 (some .int) { frames := 3, cells := 0, slots := 0, locals := 65 } 0 0 [.ref m] sz M (fun v s M' => some (.int (verd (m_bad cs xkd))) = v ∧ sz = s ∧ zoutR M M' m (m + 15) ∧ ∃ (lev' : Nat) (kd' : Nat → Nat), mw E M' m xln xlen xlab xbad lev' xtr xwa xpl xfo xsf xbf xF xG xP xQ xmm xsl kd' xhs xht xsg xdv ∧ ∀ j, kd' j < 100) := by
  refine zMet.ofZ (by decide) (Nat.le_of_ble_eq_true rfl) ?_
  intro X hl hini C
  have loop : ∀ (e i s0 lev1 : Nat) (kd1 : Nat → Nat) (M1 : zM), i + e = cs.length → ainv s0 lev1 → (∀ j, kd1 j < 100) → mw E M1 m xln xlen xlab xbad lev1 xtr xwa xpl xfo xsf xbf xF xG xP xQ xmm xsl kd1 xhs xht xsg xdv → zoutR M M1 m (m + 15) → m_bl cs e i (s0, lev1, kd1) = m_bad cs xkd → Z X E 3 (zQ X E 0 0 (fun v s M' => some (.int (verd (m_bad cs xkd))) = v ∧ sz = s ∧ zoutR M M' m (m + 15) ∧ ∃ (lev' : Nat) (kd' : Nat → Nat), mw E M' m xln xlen xlab xbad lev' xtr xwa xpl xfo xsf xbf xF xG xP xQ xmm xsl kd' xhs xht xsg xdv ∧ ∀ j, kd' j < 100)) 0 0 sz M1 10 [(0, .ref m), (1, .int (nI s0)), (2, .int (nI i))] [] := by
    intro e
    induction e with
    | zero =>
      intro i s0 lev1 kd1 M1 hi ha hk1 H1 hz1 he
      have hi : i = cs.length := by omega
      subst hi
      obtain ⟨ha1, ha2, ha3⟩ := ha
      refine z_iload_n C d_M_badPlaceOf_10 rfl rfl ?_
      refine z_aload_n C d_M_badPlaceOf_11 rfl rfl ?_
      refine z_get C in_M H1.1 rfl 1 (by decide) fl_M_67 rfl rfl d_M_badPlaceOf_12 ?_
      refine z_icmp_ge (tgt := 42) C d_M_badPlaceOf_15 (by decide) (fun _ => ?_) (fun c_15 => absurd (by rw [hlen]; exact Int32.le_refl _) c_15)
      refine z_aload_n C d_M_badPlaceOf_42 rfl rfl ?_
      refine z_get C in_M H1.1 rfl 4 (by decide) fl_M_85 rfl rfl d_M_badPlaceOf_43 ?_
      refine z_if_ne (tgt := 61) C d_M_badPlaceOf_46 (by decide) (fun c_46 => ?_) (fun c_46 => ?_)
      · have c_46 : ¬ lev1 = 0 := fun q => c_46 (congrArg nI q)
        refine z_aload_n C d_M_badPlaceOf_61 rfl rfl ?_
        refine z_get C in_M H1.1 rfl 1 (by decide) fl_M_67 rfl rfl d_M_badPlaceOf_62 ?_
        have e9 : m_bad cs xkd = some cs.length := by rw [← he]; exact if_neg (by first | exact (fun q => c_46 q.1) | exact (fun q => c_54 q.2))
        exact z_iret C ⟨by rw [e9, hlen]; rfl, rfl, hz1, lev1, kd1, H1, hk1⟩ d_M_badPlaceOf_65
      · have c_46 : lev1 = 0 := (nI_eq (a := lev1) (b := 0) (by omega) (by omega)).mp c_46
        refine z_aload_n C d_M_badPlaceOf_49 rfl rfl ?_
        refine z_iload_n C d_M_badPlaceOf_50 rfl rfl ?_
        refine z_callV (rest := []) (n := 1) (As := [.int (nI s0)]) C (m_complete E X.2.1 sz _ H1 s0 (by omega)) ⟨z_cb C k_M_complete ml_M_91 ii_M rfl rfl (by decide +kernel) ⟨by decide, by decide⟩, C.2.2.2.2.1 _ im_M_complete, C.2.2.2.2.1 _ se_M_complete⟩ H1.1 rfl rfl rfl (Nat.le_of_ble_eq_true rfl) d_M_badPlaceOf_51 ⟨by decide, by decide⟩ ?_
        intro v_51 s_51 M_51 hp_51
        obtain ⟨rfl, rfl, rfl⟩ := hp_51
        show Z _ _ _ _ _ _ _ _ 54 _ [.int (nI (b01 (cpl s0)))]
        refine z_if_eq (tgt := 61) C d_M_badPlaceOf_54 (by decide) (fun c_54 => ?_) (fun c_54 => ?_)
        · have c_54 : ¬ (cpl s0) := b01_z c_54
          refine z_aload_n C d_M_badPlaceOf_61 rfl rfl ?_
          refine z_get C in_M H1.1 rfl 1 (by decide) fl_M_67 rfl rfl d_M_badPlaceOf_62 ?_
          have e9 : m_bad cs xkd = some cs.length := by rw [← he]; exact if_neg (by first | exact (fun q => c_46 q.1) | exact (fun q => c_54 q.2))
          exact z_iret C ⟨by rw [e9, hlen]; rfl, rfl, hz1, lev1, kd1, H1, hk1⟩ d_M_badPlaceOf_65
        · have c_54 : (cpl s0) := b01_ne c_54
          refine z_iconst (v := -1) C d_M_badPlaceOf_57 (by decide) ?_
          refine z_goto (tgt := 65) C d_M_badPlaceOf_58 (by decide) ?_
          have e9 : m_bad cs xkd = none := by rw [← he]; exact if_pos ⟨by omega, c_54⟩
          exact z_iret C ⟨by rw [e9]; rfl, rfl, hz1, lev1, kd1, H1, hk1⟩ d_M_badPlaceOf_65
    | succ e ih =>
      intro i s0 lev1 kd1 M1 hi ha hk1 H1 hz1 he
      have hc0 := hch i
      have hl0 := hln i (by omega)
      refine z_iload_n C d_M_badPlaceOf_10 rfl rfl ?_
      refine z_aload_n C d_M_badPlaceOf_11 rfl rfl ?_
      refine z_get C in_M H1.1 rfl 1 (by decide) fl_M_67 rfl rfl d_M_badPlaceOf_12 ?_
      refine z_icmp_ge (tgt := 42) C d_M_badPlaceOf_15 (by decide) (fun c_15 => absurd c_15 (fun q => by rw [hlen] at q; exact absurd ((nI_leI (a := cs.length) (b := i) (by omega) (by omega)).mp q) (by omega))) (fun _ => ?_)
      refine z_aload_n C d_M_badPlaceOf_18 rfl rfl ?_
      refine z_iload_n C d_M_badPlaceOf_19 rfl rfl ?_
      refine z_aload_n C d_M_badPlaceOf_20 rfl rfl ?_
      refine z_get C in_M H1.1 rfl 0 (by decide) fl_M_7 rfl rfl d_M_badPlaceOf_21 ?_
      refine z_iload_n C d_M_badPlaceOf_24 rfl rfl ?_
      refine z_iald C H1.2.1 0 rfl i (rfl) (by omega) (by omega) d_M_badPlaceOf_25 ?_
      refine z_top (y := nI (xln i)) rfl ?_
      refine z_callV (rest := []) (n := 2) (As := [.int (nI s0), .int (nI (xln i))]) C (m_stateAt E X.2.1 sz _ H1 s0 (xln i) (by omega) ha hk1) ⟨z_cb C k_M_stateAt ml_M_88 ii_M rfl rfl (by decide +kernel) ⟨by decide, by decide⟩, C.2.2.2.2.1 _ im_M_stateAt, C.2.2.2.2.1 _ se_M_stateAt⟩ H1.1 rfl rfl rfl (Nat.le_of_ble_eq_true rfl) d_M_badPlaceOf_26 ⟨by decide, by decide⟩ ?_
      intro v_26 s_26 M_26 hp_26
      obtain ⟨rfl, ho_26, hq_26⟩ := hp_26
      have hz_26 : zoutR M M_26 m (m + 15) := zoutR_tr hz1 ho_26
      rw [hl0] at hq_26
      rcases er : m_at s0 (cs.getD i 0) lev1 kd1 with _ | a_
      · rw [er] at hq_26
        obtain ⟨rfl, H_26⟩ := hq_26
        show Z _ _ _ _ _ _ _ _ 29 _ [.int (-1)]
        refine z_istore_n (L' := [(0, .ref m), (1, .int (-1)), (2, .int (nI i))]) C d_M_badPlaceOf_29 rfl (by decide) rfl ?_
        refine z_iload_n C d_M_badPlaceOf_30 rfl rfl ?_
        refine z_if_ge (tgt := 36) C d_M_badPlaceOf_31 (by decide) (fun c_31 => absurd c_31 (by decide)) (fun _ => ?_)
        refine z_iload_n C d_M_badPlaceOf_34 rfl rfl ?_
        have e9 : m_bad cs xkd = some i := by rw [← he]; simp only [m_bl]; rw [er]
        exact z_iret C ⟨by rw [e9]; rfl, rfl, hz_26, lev1, kd1, H_26, hk1⟩ d_M_badPlaceOf_35
      · rw [er] at hq_26
        obtain ⟨rfl, H_26⟩ := hq_26
        have i9 := m_at_inv ha er
        have k9 := m_at_kd hk1 er
        show Z _ _ _ _ _ _ _ _ 29 _ [.int (nI a_.1)]
        refine z_istore_n (L' := [(0, .ref m), (1, .int (nI a_.1)), (2, .int (nI i))]) C d_M_badPlaceOf_29 rfl (by decide) rfl ?_
        refine z_iload_n C d_M_badPlaceOf_30 rfl rfl ?_
        refine z_if_ge (tgt := 36) C d_M_badPlaceOf_31 (by decide) (fun _ => ?_) (fun c_31 => absurd ((nI_leI (a := 0) (b := a_.1) (by omega) (by have := i9.1; omega)).mpr (by omega)) c_31)
        refine z_iinc (v := nI (i + 1)) (L' := [(0, .ref m), (1, .int (nI a_.1)), (2, .int (nI (i + 1)))]) C d_M_badPlaceOf_36 rfl (nI_add _ 1) (by decide) rfl ?_
        refine z_goto (tgt := 10) C d_M_badPlaceOf_39 (by decide) ?_
        exact ih (i + 1) a_.1 a_.2.1 a_.2.2 M_26 (by omega) i9 k9 H_26 hz_26 (by rw [← he]; simp only [m_bl]; rw [er])
  show Z X E 3 _ 0 0 sz M 0 [(0, .ref m)] []
  refine z_bipush (v := nI 26) C d_M_badPlaceOf_0 (by decide) ?_
  refine z_istore_n (L' := [(0, .ref m), (1, .int (nI 26))]) C d_M_badPlaceOf_2 rfl (by decide) rfl ?_
  refine z_aload_n C d_M_badPlaceOf_3 rfl rfl ?_
  refine z_iconst (v := nI 0) C d_M_badPlaceOf_4 (by decide) ?_
  refine z_put C in_M ty_M tok_M nm_M H.1 rfl 4 (by decide) fl_M_85 rfl rfl rfl (rfl) (rfl) (Nat.le_of_ble_eq_true rfl) d_M_badPlaceOf_5 ?_
  show Z _ _ _ _ _ _ _ (zU M m (.inr (10, [.ref (m + 1), .int (nI xlen), .int (nI xlab), .int xbad, .int (nI 0), .int xtr, .int (nI xwa), .int (nI xpl), .int (nI xfo), .ref (m + 2), .ref (m + 3), .ref (m + 4), .ref (m + 5), .ref (m + 6), .ref (m + 7), .ref (m + 8), .ref (m + 9), .ref (m + 10), .ref (m + 11), .ref (m + 12), .ref (m + 13), .ref (m + 14)]))) _ _ _
  refine z_iconst (v := nI 0) C d_M_badPlaceOf_8 (by decide) ?_
  refine z_istore_n (L' := [(0, .ref m), (1, .int (nI 26)), (2, .int (nI 0))]) C d_M_badPlaceOf_9 rfl (by decide) rfl ?_
  exact loop cs.length 0 26 0 xkd _ (by omega) ⟨by omega, by omega, by omega⟩ hkd (mw_o H xlen xlab xbad 0 xtr xwa xpl xfo) (zoutR_tr zoutR_rf (zo_u (by omega) (by omega))) rfl
set_option maxHeartbeats 4000000 in
/-- alike -/
theorem m_alike (E : zE) (l : Launch) (sz : Nat) (M : zM) {m : Nat} {xln : Nat → Nat} {xlen : Nat} {xlab : Nat} {xbad : Int32} {xlev : Nat} {xtr : Int32} {xwa : Nat} {xpl : Nat} {xfo : Nat} {xsf : Nat → Nat} {xbf : Nat → Nat} {xF : Nat → FF} {xG : Nat → FF} {xP : Nat → FF} {xQ : Nat → FF} {xmm : Nat → FF} {xsl : Nat → Nat} {xkd : Nat → Nat} {xhs : Nat → Nat} {xht : Nat → Nat} {xsg : Nat → Nat} {xdv : Nat → Nat} (H : mw E M m xln xlen xlab xbad xlev xtr xwa xpl xfo xsf xbf xF xG xP xQ xmm xsl xkd xhs xht xsg xdv) (a b : Nat) (ha : a < 78) (hb : b < 78) : zMet E l y_M_alike c_M_alike 4 (some .boolean) { frames := 0, cells := 0, slots := 0, locals := 0 } 0 0 [.ref m, .int (nI a), .int (nI b)] sz M (fun v s M' => ∃ r, some (.int (nI r)) = v ∧ sz = s ∧ M = M' ∧ (r = 1 ∧ (pg xF a = pg xF b ∧ pg xG a = pg xG b) ∨ r = 0 ∧ ¬ (pg xF a = pg xF b ∧ pg xG a = pg xG b))) := by
  refine zMet.ofZ (by decide) (Nat.le_of_ble_eq_true rfl) ?_
  intro X hl hini C
  have loop : ∀ (e i : Nat), i + e = 13 → (∀ k, k < i → xF (a * 13 + k) = xF (b * 13 + k) ∧ xG (a * 13 + k) = xG (b * 13 + k)) → Z X E 4 (zQ X E 0 0 (fun v s M' => ∃ r, some (.int (nI r)) = v ∧ sz = s ∧ M = M' ∧ (r = 1 ∧ (pg xF a = pg xF b ∧ pg xG a = pg xG b) ∨ r = 0 ∧ ¬ (pg xF a = pg xF b ∧ pg xG a = pg xG b)))) 0 0 sz M 2 [(0, .ref m), (1, .int (nI a)), (2, .int (nI b)), (3, .int (nI i))] [] := by
    intro e
    induction e with
    | zero =>
      intro i hi he
      have hi : i = 13 := by omega
      subst hi
      refine z_iload_n C d_M_alike_2 rfl rfl ?_
      refine z_bipush (v := nI 13) C d_M_alike_3 (by decide) ?_
      refine z_icmp_ge (tgt := 66) C d_M_alike_5 (by decide) (fun _ => ?_) (fun c_5 => absurd (by decide) c_5)
      refine z_iconst (v := nI 1) C d_M_alike_66 (by decide) ?_
      refine z_zret C (by first | rfl | decide) ⟨1, rfl, rfl, rfl, Or.inl ⟨rfl, ?_, ?_⟩⟩ d_M_alike_67
      · funext k; unfold pg; split
        · next q => exact (he k q).1
        · rfl
      · funext k; unfold pg; split
        · next q => exact (he k q).2
        · rfl
    | succ e ih =>
      intro i hi he
      refine z_iload_n C d_M_alike_2 rfl rfl ?_
      refine z_bipush (v := nI 13) C d_M_alike_3 (by decide) ?_
      refine z_icmp_ge (tgt := 66) C d_M_alike_5 (by decide) (fun c_5 => absurd c_5 (fun q => absurd ((nI_leI (a := 13) (b := i) (by omega) (by omega)).mp q) (by omega))) (fun _ => ?_)
      refine z_aload_n C d_M_alike_8 rfl rfl ?_
      refine z_get C in_M H.1 rfl 11 (by decide) fl_M_23 rfl rfl d_M_alike_9 ?_
      refine z_iload_n C d_M_alike_12 rfl rfl ?_
      refine z_bipush (v := nI 13) C d_M_alike_13 (by decide) ?_
      refine z_imul C d_M_alike_15 ?_
      refine z_top (y := nI (a * 13)) (pk_mul _ _) ?_
      refine z_iload_n C d_M_alike_16 rfl rfl ?_
      refine z_iadd C d_M_alike_17 ?_
      refine z_top (y := nI ((a * 13) + i)) (nI_add _ _) ?_
      refine z_iald C H.2.2.2.2.1 0 rfl ((a * 13) + i) (rfl) (by omega) (by omega) d_M_alike_18 ?_
      refine z_top (y := fI (xF ((a * 13) + i))) rfl ?_
      refine z_aload_n C d_M_alike_19 rfl rfl ?_
      refine z_get C in_M H.1 rfl 11 (by decide) fl_M_23 rfl rfl d_M_alike_20 ?_
      refine z_iload_n C d_M_alike_23 rfl rfl ?_
      refine z_bipush (v := nI 13) C d_M_alike_24 (by decide) ?_
      refine z_imul C d_M_alike_26 ?_
      refine z_top (y := nI (b * 13)) (pk_mul _ _) ?_
      refine z_iload_n C d_M_alike_27 rfl rfl ?_
      refine z_iadd C d_M_alike_28 ?_
      refine z_top (y := nI ((b * 13) + i)) (nI_add _ _) ?_
      refine z_iald C H.2.2.2.2.1 0 rfl ((b * 13) + i) (rfl) (by omega) (by omega) d_M_alike_29 ?_
      refine z_top (y := fI (xF ((b * 13) + i))) rfl ?_
      refine z_icmp_ne (tgt := 58) C d_M_alike_30 (by decide) (fun c_30 => ?_) (fun c_30 => ?_)
      · have c_30 : ¬ xF (a * 13 + i) = xF (b * 13 + i) := fun q => c_30 (by rw [q])
        refine z_iconst (v := nI 0) C d_M_alike_58 (by decide) ?_
        have hne : ¬ (pg xF a = pg xF b ∧ pg xG a = pg xG b) := by
          rintro ⟨q1, q2⟩
          have q3 := congrFun q1 i
          have q4 := congrFun q2 i
          rw [pg_at (by omega), pg_at (by omega)] at q3 q4
          first | exact c_30 q3 | exact c_55 q4
        exact z_zret C (by first | rfl | decide) ⟨0, rfl, rfl, rfl, Or.inr ⟨rfl, hne⟩⟩ d_M_alike_59
      · have c_30 : xF (a * 13 + i) = xF (b * 13 + i) := fI_inj.mp c_30
        refine z_aload_n C d_M_alike_33 rfl rfl ?_
        refine z_get C in_M H.1 rfl 12 (by decide) fl_M_26 rfl rfl d_M_alike_34 ?_
        refine z_iload_n C d_M_alike_37 rfl rfl ?_
        refine z_bipush (v := nI 13) C d_M_alike_38 (by decide) ?_
        refine z_imul C d_M_alike_40 ?_
        refine z_top (y := nI (a * 13)) (pk_mul _ _) ?_
        refine z_iload_n C d_M_alike_41 rfl rfl ?_
        refine z_iadd C d_M_alike_42 ?_
        refine z_top (y := nI ((a * 13) + i)) (nI_add _ _) ?_
        refine z_iald C H.2.2.2.2.2.1 0 rfl ((a * 13) + i) (rfl) (by omega) (by omega) d_M_alike_43 ?_
        refine z_top (y := fI (xG ((a * 13) + i))) rfl ?_
        refine z_aload_n C d_M_alike_44 rfl rfl ?_
        refine z_get C in_M H.1 rfl 12 (by decide) fl_M_26 rfl rfl d_M_alike_45 ?_
        refine z_iload_n C d_M_alike_48 rfl rfl ?_
        refine z_bipush (v := nI 13) C d_M_alike_49 (by decide) ?_
        refine z_imul C d_M_alike_51 ?_
        refine z_top (y := nI (b * 13)) (pk_mul _ _) ?_
        refine z_iload_n C d_M_alike_52 rfl rfl ?_
        refine z_iadd C d_M_alike_53 ?_
        refine z_top (y := nI ((b * 13) + i)) (nI_add _ _) ?_
        refine z_iald C H.2.2.2.2.2.1 0 rfl ((b * 13) + i) (rfl) (by omega) (by omega) d_M_alike_54 ?_
        refine z_top (y := fI (xG ((b * 13) + i))) rfl ?_
        refine z_icmp_eq (tgt := 60) C d_M_alike_55 (by decide) (fun c_55 => ?_) (fun c_55 => ?_)
        · have c_55 : xG (a * 13 + i) = xG (b * 13 + i) := fI_inj.mp c_55
          refine z_iinc (v := nI (i + 1)) (L' := [(0, .ref m), (1, .int (nI a)), (2, .int (nI b)), (3, .int (nI (i + 1)))]) C d_M_alike_60 rfl (nI_add _ 1) (by decide) rfl ?_
          refine z_goto (tgt := 2) C d_M_alike_63 (by decide) ?_
          refine ih (i + 1) (by omega) (fun k hk => ?_)
          by_cases e9 : k = i
          · rw [e9]; exact ⟨c_30, c_55⟩
          · exact he k (by omega)
        · have c_55 : ¬ xG (a * 13 + i) = xG (b * 13 + i) := fun q => c_55 (by rw [q])
          refine z_iconst (v := nI 0) C d_M_alike_58 (by decide) ?_
          have hne : ¬ (pg xF a = pg xF b ∧ pg xG a = pg xG b) := by
            rintro ⟨q1, q2⟩
            have q3 := congrFun q1 i
            have q4 := congrFun q2 i
            rw [pg_at (by omega), pg_at (by omega)] at q3 q4
            first | exact c_30 q3 | exact c_55 q4
          exact z_zret C (by first | rfl | decide) ⟨0, rfl, rfl, rfl, Or.inr ⟨rfl, hne⟩⟩ d_M_alike_59
  show Z X E 4 _ 0 0 sz M 0 [(0, .ref m), (1, .int (nI a)), (2, .int (nI b))] []
  refine z_iconst (v := nI 0) C d_M_alike_0 (by decide) ?_
  refine z_istore_n (L' := [(0, .ref m), (1, .int (nI a)), (2, .int (nI b)), (3, .int (nI 0))]) C d_M_alike_1 rfl (by decide) rfl ?_
  exact loop 13 0 (by omega) (fun k hk => by omega)
def mxs (f : Nat → Nat) : Nat → Nat
  | 0 => 0
  | n + 1 => max (mxs f n) (f (n + 1))
theorem mxs_cg {f g : Nat → Nat} : ∀ {n : Nat}, (∀ j, 1 ≤ j → j ≤ n → f j = g j) → mxs f n = mxs g n := by
  intro n
  induction n with
  | zero => intro _; rfl
  | succ n ih => intro h; simp only [mxs]; rw [ih (fun j h1 h2 => h j h1 (by omega)), h (n + 1) (by omega) (Nat.le_refl _)]
theorem mxs_b {f : Nat → Nat} {b : Nat} (h : ∀ j, f j < b) (hb : 0 < b) : ∀ n, mxs f n < b := by
  intro n
  induction n with
  | zero => exact hb
  | succ n ih => simp only [mxs]; have := h (n + 1); omega
theorem mxs_le {f : Nat → Nat} : ∀ {n j : Nat}, 1 ≤ j → j ≤ n → f j ≤ mxs f n := by
  intro n
  induction n with
  | zero => intro j h1 h2; omega
  | succ n ih =>
    intro j h1 h2
    simp only [mxs]
    by_cases e : j = n + 1
    · rw [e]; omega
    · have := ih h1 (show j ≤ n by omega); omega
set_option maxHeartbeats 4000000 in
/-- shapes -/
theorem m_shapes (E : zE) (l : Launch) (sz : Nat) (M : zM) {m : Nat} {xln : Nat → Nat} {xlen : Nat} {xlab : Nat} {xbad : Int32} {xlev : Nat} {xtr : Int32} {xwa : Nat} {xpl : Nat} {xfo : Nat} {xsf : Nat → Nat} {xbf : Nat → Nat} {xF : Nat → FF} {xG : Nat → FF} {xP : Nat → FF} {xQ : Nat → FF} {xmm : Nat → FF} {xsl : Nat → Nat} {xkd : Nat → Nat} {xhs : Nat → Nat} {xht : Nat → Nat} {xsg : Nat → Nat} {xdv : Nat → Nat} (H : mw E M m xln xlen xlab xbad xlev xtr xwa xpl xfo xsf xbf xF xG xP xQ xmm xsl xkd xhs xht xsg xdv) (hlab : xlab ≤ 40) (hsf : ∀ j, xsf j < 100) : zMet E l y_M_shapes c_M_shapes 3 (some .int) { frames := 0, cells := 0, slots := 0, locals := 0 } 0 0 [.ref m] sz M (zRet (some (.int (nI (mxs xsf xlab)))) sz M) := by
  refine zMet.ofZ (by decide) (Nat.le_of_ble_eq_true rfl) ?_
  intro X hl hini C
  have loop : ∀ (e k : Nat), k + e = xlab → Z X E 3 (zQ X E 0 0 (zRet (some (.int (nI (mxs xsf xlab)))) sz M)) 0 0 sz M 4 [(0, .ref m), (1, .int (nI (mxs xsf k))), (2, .int (nI (k + 1)))] [] := by
    intro e
    induction e with
    | zero =>
      intro k hk
      have hk : k = xlab := by omega
      rw [hk]
      refine z_iload_n C d_M_shapes_4 rfl rfl ?_
      refine z_aload_n C d_M_shapes_5 rfl rfl ?_
      refine z_get C in_M H.1 rfl 2 (by decide) fl_M_167 rfl rfl d_M_shapes_6 ?_
      refine z_icmp_gt (tgt := 35) C d_M_shapes_9 (by decide) (fun _ => ?_) (fun c_9 => absurd ((nI_ltI (a := xlab) (b := xlab + 1) (by omega) (by omega)).mpr (by omega)) c_9)
      refine z_iload_n C d_M_shapes_35 rfl rfl ?_
      exact z_iret C ⟨rfl, rfl, rfl⟩ d_M_shapes_36
    | succ e ih =>
      intro k hk
      have hm := mxs_b hsf (by decide) k
      have hs := hsf (k + 1)
      refine z_iload_n C d_M_shapes_4 rfl rfl ?_
      refine z_aload_n C d_M_shapes_5 rfl rfl ?_
      refine z_get C in_M H.1 rfl 2 (by decide) fl_M_167 rfl rfl d_M_shapes_6 ?_
      refine z_icmp_gt (tgt := 35) C d_M_shapes_9 (by decide) (fun c_9 => absurd c_9 (fun q => absurd ((nI_ltI (a := xlab) (b := k + 1) (by omega) (by omega)).mp q) (by omega))) (fun _ => ?_)
      refine z_aload_n C d_M_shapes_12 rfl rfl ?_
      refine z_get C in_M H.1 rfl 9 (by decide) fl_M_17 rfl rfl d_M_shapes_13 ?_
      refine z_iload_n C d_M_shapes_16 rfl rfl ?_
      refine z_iald C H.2.2.1 0 rfl (k + 1) (rfl) (by omega) (by omega) d_M_shapes_17 ?_
      refine z_top (y := nI (xsf (k + 1))) rfl ?_
      refine z_iload_n C d_M_shapes_18 rfl rfl ?_
      refine z_icmp_le (tgt := 29) C d_M_shapes_19 (by decide) (fun c_19 => ?_) (fun c_19 => ?_)
      · have c_19 : (xsf (k + 1)) ≤ (mxs xsf k) := (nI_leI (a := (xsf (k + 1))) (b := (mxs xsf k)) (by omega) (by omega)).mp c_19
        refine z_iinc (v := nI ((k + 1) + 1)) (L' := [(0, .ref m), (1, .int (nI (mxs xsf k))), (2, .int (nI ((k + 1) + 1)))]) C d_M_shapes_29 rfl (nI_add _ 1) (by decide) rfl ?_
        refine z_goto (tgt := 4) C d_M_shapes_32 (by decide) ?_
        have e9 : nI (mxs xsf k) = nI (mxs xsf (k + 1)) := by
          simp only [mxs]; congr 1; omega
        rw [e9]
        exact ih (k + 1) (by omega)
      · have c_19 : (mxs xsf k) < (xsf (k + 1)) := Nat.not_le.mp (fun q => c_19 ((nI_leI (a := (xsf (k + 1))) (b := (mxs xsf k)) (by omega) (by omega)).mpr q))
        refine z_aload_n C d_M_shapes_22 rfl rfl ?_
        refine z_get C in_M H.1 rfl 9 (by decide) fl_M_17 rfl rfl d_M_shapes_23 ?_
        refine z_iload_n C d_M_shapes_26 rfl rfl ?_
        refine z_iald C H.2.2.1 0 rfl (k + 1) (rfl) (by omega) (by omega) d_M_shapes_27 ?_
        refine z_top (y := nI (xsf (k + 1))) rfl ?_
        refine z_istore_n (L' := [(0, .ref m), (1, .int (nI (xsf (k + 1)))), (2, .int (nI (k + 1)))]) C d_M_shapes_28 rfl (by decide) rfl ?_
        refine z_iinc (v := nI ((k + 1) + 1)) (L' := [(0, .ref m), (1, .int (nI (xsf (k + 1)))), (2, .int (nI ((k + 1) + 1)))]) C d_M_shapes_29 rfl (nI_add _ 1) (by decide) rfl ?_
        refine z_goto (tgt := 4) C d_M_shapes_32 (by decide) ?_
        have e9 : nI (xsf (k + 1)) = nI (mxs xsf (k + 1)) := by
          simp only [mxs]; congr 1; omega
        rw [e9]
        exact ih (k + 1) (by omega)
  show Z X E 3 _ 0 0 sz M 0 [(0, .ref m)] []
  refine z_iconst (v := nI (mxs xsf 0)) C d_M_shapes_0 (rfl) ?_
  refine z_istore_n (L' := [(0, .ref m), (1, .int (nI (mxs xsf 0)))]) C d_M_shapes_1 rfl (by decide) rfl ?_
  refine z_iconst (v := nI (0 + 1)) C d_M_shapes_2 (by decide) ?_
  refine z_istore_n (L' := [(0, .ref m), (1, .int (nI (mxs xsf 0))), (2, .int (nI (0 + 1)))]) C d_M_shapes_3 rfl (by decide) rfl ?_
  exact loop xlab 0 (by omega)
