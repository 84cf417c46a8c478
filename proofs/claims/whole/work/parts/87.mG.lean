theorem setl_ne {N D : PS} {t : Int32} (h : setl N D = .inl t) : ¬ t = 0 := by
  unfold setl at h
  by_cases q : bigF (fOf N D)
  · rw [pif_t q] at h; rw [← Sum.inl.inj h]; decide
  · rw [pif_f q] at h; cases h
theorem div_ne {l r : PS × PS} {t : Int32} (h : oDiv l r = .inl t) : ¬ t = 0 := by
  unfold oDiv at h
  by_cases q : ∀ i, r.1 i = 0
  · rw [pif_t q] at h; rw [← Sum.inl.inj h]; decide
  · rw [pif_f q] at h; exact setl_ne h
theorem comp_ne {l r : PS × PS} {t : Int32} (h : oComp l r = .inl t) : ¬ t = 0 := by
  unfold oComp at h
  by_cases q : 12 < hgt l * hgt r
  · rw [pif_t q] at h; rw [← Sum.inl.inj h]; decide
  · rw [pif_f q] at h
    by_cases q2 : ∀ i, hom (hgt l) l.2 r.1 r.2 i = 0
    · rw [pif_t q2] at h; rw [← Sum.inl.inj h]; decide
    · rw [pif_f q2] at h; exact setl_ne h
theorem pow_ne0 {e : Int} {l : PS × PS} {t : Int32} (h : op1 5 e l = .inl t) : ¬ t = 0 := by
  simp only [op1] at h
  split at h
  · unfold oPowP at h
    by_cases q : 12 < e.toNat * hgt l
    · rw [pif_t q] at h; rw [← Sum.inl.inj h]; decide
    · rw [pif_f q] at h; exact setl_ne h
  · unfold oPowN at h
    by_cases q : ∀ i, l.1 i = 0
    · rw [pif_t q] at h; rw [← Sum.inl.inj h]; decide
    · rw [pif_f q] at h
      by_cases q2 : 12 < (-e).toNat * hgt l
      · rw [pif_t q2] at h; rw [← Sum.inl.inj h]; decide
      · rw [pif_f q2] at h; exact setl_ne h
/-- the state behind some products of a power -/
def pwS (F G : Nat → FF) (tr : Int32) (r : Res) : Prop := match r with
  | .inl t => tr = t ∧ ¬ t = 0
  | .inr y => tr = 0 ∧ pg F 71 = y.1 ∧ pg G 71 = y.2 ∧ okF y
theorem pwS_R {K : Nat → Prop} {F G F' G' : Nat → FF} {tr : Int32} {r : Res} (h1 : ∀ q, K q → pg F' q = pg F q ∧ pg G' q = pg G q) (h : pwS F' G' tr r) : oR K F G F' G' tr 71 r := by
  refine ⟨h1, ?_⟩
  cases r with
  | inl t => exact h.1
  | inr y => exact ⟨h.1, h.2.1, h.2.2.1⟩
set_option maxHeartbeats 4000000 in
/-- power -/
theorem m_powerP (E : zE) (l : Launch) (sz : Nat) (M : zM) {m : Nat} {xln : Nat → Nat} {xlen : Nat} {xlab : Nat} {xbad : Int32} {xlev : Nat} {xtr : Int32} {xwa : Nat} {xpl : Nat} {xfo : Nat} {xsf : Nat → Nat} {xbf : Nat → Nat} {xF : Nat → FF} {xG : Nat → FF} {xP : Nat → FF} {xQ : Nat → FF} {xmm : Nat → FF} {xsl : Nat → Nat} {xkd : Nat → Nat} {xhs : Nat → Nat} {xht : Nat → Nat} {xsg : Nat → Nat} {xdv : Nat → Nat} (H : mw E M m xln xlen xlab xbad xlev xtr xwa xpl xfo xsf xbf xF xG xP xQ xmm xsl xkd xhs xht xsg xdv) (k : Nat) (hk : k ≤ 12) (htr : xtr = 0) (okl : okR xF xG 71) : zMet E l y_M_power c_M_power 4 none { frames := 5, cells := 0, slots := 0, locals := 127 } 0 0 [.ref m, .int (nI k), .int (nI 0)] sz M (oP E M sz m xln xlen xlab xbad xlev xtr xwa xpl xfo xsf xbf xF xG xP xQ xmm xsl xkd xhs xht xsg xdv (fun q => q ≠ 71 ∧ q ≠ 72) 71 (op1 5 (k : Int) (pg xF 71, pg xG 71))) := by
  refine zMet.ofZ (by decide) (Nat.le_of_ble_eq_true rfl) ?_
  intro X hl hini C
  have loop : op1 5 (k : Int) (pg xF 71, pg xG 71) = pwI (fun y => oMul y (pg xF 71, pg xG 71)) k → ∀ (q i : Nat) (tr1 : Int32) (F1 G1 P1 Q1 mm1 : Nat → FF) (sl1 : Nat → Nat) (M1 : zM), i + q = k → mw E M1 m xln xlen xlab xbad xlev tr1 xwa xpl xfo xsf xbf F1 G1 P1 Q1 mm1 sl1 xkd xhs xht xsg xdv → zoutR M M1 m (m + 15) → (∀ q, q ≠ 71 ∧ q ≠ 72 → pg F1 q = pg xF q ∧ pg G1 q = pg xG q) → pg F1 72 = pg xF 71 → pg G1 72 = pg xG 71 → pwS F1 G1 tr1 (pwI (fun y => oMul y (pg xF 71, pg xG 71)) i) → Z X E 4 (zQ X E 0 0 (oP E M sz m xln xlen xlab xbad xlev xtr xwa xpl xfo xsf xbf xF xG xP xQ xmm xsl xkd xhs xht xsg xdv (fun q => q ≠ 71 ∧ q ≠ 72) 71 (op1 5 (k : Int) (pg xF 71, pg xG 71)))) 0 0 sz M1 50 [(0, .ref m), (1, .int (nI k)), (2, .int (nI 0)), (3, .int (nI i))] [] := by
    intro hop q
    induction q with
    | zero =>
      intro i tr1 F1 G1 P1 Q1 mm1 sl1 M1 hi H1 hz1 hkp h72 h73 hst
      have hi : k = i := by omega
      subst hi
      refine z_iload_n C d_M_power_50 rfl rfl ?_
      refine z_iload_n C d_M_power_51 rfl rfl ?_
      refine z_icmp_ge (tgt := 72) C d_M_power_52 (by decide) (fun _ => ?_) (fun c_52 => absurd (Int32.le_refl _) c_52)
      exact z_vret C ⟨rfl, rfl, hz1, tr1, F1, G1, P1, Q1, mm1, sl1, H1, by rw [hop]; exact pwS_R hkp hst⟩ d_M_power_72
    | succ q ih =>
      intro i tr1 F1 G1 P1 Q1 mm1 sl1 M1 hi H1 hz1 hkp h72 h73 hst
      rcases ep : pwI (fun y => oMul y (pg xF 71, pg xG 71)) i with t0 | y0
      · rw [ep] at hst
        obtain ⟨rfl, ht0⟩ := hst
        refine z_iload_n C d_M_power_50 rfl rfl ?_
        refine z_iload_n C d_M_power_51 rfl rfl ?_
        refine z_icmp_ge (tgt := 72) C d_M_power_52 (by decide) (fun c_52 => absurd c_52 (fun q => absurd ((nI_leI (a := k) (b := i) (by omega) (by omega)).mp q) (by omega))) (fun _ => ?_)
        refine z_aload_n C d_M_power_55 rfl rfl ?_
        refine z_bipush (v := nI 71) C d_M_power_56 (by decide) ?_
        refine z_bipush (v := nI 72) C d_M_power_58 (by decide) ?_
        refine z_iload_n C d_M_power_60 rfl rfl ?_
        refine z_bipush (v := nI 71) C d_M_power_61 (by decide) ?_
        refine z_callV (rest := []) (n := 4) (As := [.int (nI 71), .int (nI 72), .int (nI 0), .int (nI 71)]) C (m_timesT E X.2.1 sz _ H1 71 72 0 71 ht0) ⟨z_cb C k_M_times ml_M_140 ii_M rfl rfl (by decide +kernel) ⟨by decide, by decide⟩, C.2.2.2.2.1 _ im_M_times, C.2.2.2.2.1 _ se_M_times⟩ H1.1 rfl rfl rfl (Nat.le_of_ble_eq_true rfl) d_M_power_63 ⟨by decide, by decide⟩ ?_
        intro v_63 s_63 M_63 hp_63
        obtain ⟨rfl, rfl, rfl⟩ := hp_63
        show Z _ _ _ _ _ _ _ _ 66 _ []
        refine z_iinc (v := nI (i + 1)) (L' := [(0, .ref m), (1, .int (nI k)), (2, .int (nI 0)), (3, .int (nI (i + 1)))]) C d_M_power_66 rfl (nI_add _ 1) (by decide) rfl ?_
        refine z_goto (tgt := 50) C d_M_power_69 (by decide) ?_
        exact ih (i + 1) tr1 F1 G1 P1 Q1 mm1 sl1 M1 (by omega) H1 hz1 hkp h72 h73 (by simp only [pwI]; rw [ep]; exact ⟨rfl, ht0⟩)
      · rw [ep] at hst
        obtain ⟨rfl, hy1, hy2, hy3⟩ := hst
        refine z_iload_n C d_M_power_50 rfl rfl ?_
        refine z_iload_n C d_M_power_51 rfl rfl ?_
        refine z_icmp_ge (tgt := 72) C d_M_power_52 (by decide) (fun c_52 => absurd c_52 (fun q => absurd ((nI_leI (a := k) (b := i) (by omega) (by omega)).mp q) (by omega))) (fun _ => ?_)
        refine z_aload_n C d_M_power_55 rfl rfl ?_
        refine z_bipush (v := nI 71) C d_M_power_56 (by decide) ?_
        refine z_bipush (v := nI 72) C d_M_power_58 (by decide) ?_
        refine z_iload_n C d_M_power_60 rfl rfl ?_
        refine z_bipush (v := nI 71) C d_M_power_61 (by decide) ?_
        refine z_callV (rest := []) (n := 4) (As := [.int (nI 71), .int (nI 72), .int (nI 0), .int (nI 71)]) C (m_timesM E X.2.1 sz _ H1 71 72 71 (by decide) (by decide) (by decide) rfl (by unfold okR; rw [hy1, hy2]; exact hy3.1) (by unfold okR; rw [h72, h73]; exact okl)) ⟨z_cb C k_M_times ml_M_140 ii_M rfl rfl (by decide +kernel) ⟨by decide, by decide⟩, C.2.2.2.2.1 _ im_M_times, C.2.2.2.2.1 _ se_M_times⟩ H1.1 rfl rfl rfl (Nat.le_of_ble_eq_true rfl) d_M_power_63 ⟨by decide, by decide⟩ ?_
        intro v_63 s_63 M_63 hp_63
        obtain ⟨rfl, rfl, ho_63, tr_63, F_63, G_63, P_63, Q_63, mm_63, sl_63, H_63, hR_63⟩ := hp_63
        have hz_63 : zoutR M M_63 m (m + 15) := zoutR_tr hz1 ho_63
        show Z _ _ _ _ _ _ _ _ 66 _ []
        refine z_iinc (v := nI (i + 1)) (L' := [(0, .ref m), (1, .int (nI k)), (2, .int (nI 0)), (3, .int (nI (i + 1)))]) C d_M_power_66 rfl (nI_add _ 1) (by decide) rfl ?_
        refine z_goto (tgt := 50) C d_M_power_69 (by decide) ?_
        have hR2 : oR (fun q => q ≠ 71) F1 G1 F_63 G_63 tr_63 71 (oMul (pg F1 71, pg G1 71) (pg F1 72, pg G1 72)) := hR_63
        rw [hy1, hy2, h72, h73] at hR2
        have ep2 : pwI (fun y => oMul y (pg xF 71, pg xG 71)) (i + 1) = oMul (y0.1, y0.2) (pg xF 71, pg xG 71) := by simp only [pwI]; rw [ep]
        refine ih (i + 1) tr_63 F_63 G_63 P_63 Q_63 mm_63 sl_63 _ (by omega) H_63 hz_63 (fun q hq => ?_) ?_ ?_ ?_
        · rw [(hR2.1 q hq.1).1, (hR2.1 q hq.1).2]; exact hkp q hq
        · rw [(hR2.1 72 (by decide)).1, h72]
        · rw [(hR2.1 72 (by decide)).2, h73]
        · rw [ep2]
          obtain ⟨-, hR3⟩ := hR2
          rcases er : oMul (y0.1, y0.2) (pg xF 71, pg xG 71) with t9 | y9
          · rw [er] at hR3; exact ⟨hR3, setl_ne er⟩
          · rw [er] at hR3; exact ⟨hR3.1, hR3.2.1, hR3.2.2, ok_mul hy3 (okR_F okl) er⟩
  show Z X E 4 _ 0 0 sz M 0 [(0, .ref m), (1, .int (nI k)), (2, .int (nI 0))] []
  refine z_aload_n C d_M_power_0 rfl rfl ?_
  refine z_get C in_M H.1 rfl 5 (by decide) fl_M_119 rfl rfl d_M_power_1 ?_
  refine z_if_eq (tgt := 8) C d_M_power_4 (by decide) (fun _ => ?_) (fun c_4 => absurd (htr) c_4)
  refine z_iload_n C d_M_power_8 rfl rfl ?_
  refine z_if_eq (tgt := 33) C d_M_power_9 (by decide) (fun _ => ?_) (fun c_9 => absurd (rfl) c_9)
  refine z_aload_n C d_M_power_33 rfl rfl ?_
  refine z_bipush (v := nI 71) C d_M_power_34 (by decide) ?_
  refine z_bipush (v := nI 72) C d_M_power_36 (by decide) ?_
  refine z_callV (rest := []) (n := 2) (As := [.int (nI 71), .int (nI 72)]) C (m_copy E X.2.1 sz _ H 71 72 (by decide) (by decide) (by decide)) ⟨z_cb C k_M_copy ml_M_137 ii_M rfl rfl (by decide +kernel) ⟨by decide, by decide⟩, C.2.2.2.2.1 _ im_M_copy, C.2.2.2.2.1 _ se_M_copy⟩ H.1 rfl rfl rfl (Nat.le_of_ble_eq_true rfl) d_M_power_38 ⟨by decide, by decide⟩ ?_
  intro v_38 s_38 M_38 hp_38
  obtain ⟨rfl, rfl, ho_38, H_38⟩ := hp_38
  have hz_38 : zoutR M M_38 m (m + 15) := zoutR_tr zoutR_rf ho_38
  show Z _ _ _ _ _ _ _ _ 41 _ []
  refine z_aload_n C d_M_power_41 rfl rfl ?_
  refine z_bipush (v := nI 71) C d_M_power_42 (by decide) ?_
  refine z_iconst (v := fI 1) C d_M_power_44 (by decide) ?_
  refine z_callV (rest := []) (n := 2) (As := [.int (nI 71), .int (fI 1)]) C (m_constant E X.2.1 sz _ H_38 71 (by decide) 1) ⟨z_cb C k_M_constant ml_M_108 ii_M rfl rfl (by decide +kernel) ⟨by decide, by decide⟩, C.2.2.2.2.1 _ im_M_constant, C.2.2.2.2.1 _ se_M_constant⟩ H_38.1 rfl rfl rfl (Nat.le_of_ble_eq_true rfl) d_M_power_45 ⟨by decide, by decide⟩ ?_
  intro v_45 s_45 M_45 hp_45
  obtain ⟨rfl, rfl, ho_45, H_45⟩ := hp_45
  have hz_45 : zoutR M M_45 m (m + 15) := zoutR_tr hz_38 ho_45
  show Z _ _ _ _ _ _ _ _ 48 _ []
  refine z_iconst (v := nI 0) C d_M_power_48 (by decide) ?_
  refine z_istore_n (L' := [(0, .ref m), (1, .int (nI k)), (2, .int (nI 0)), (3, .int (nI 0))]) C d_M_power_49 rfl (by decide) rfl ?_
  refine loop (by rw [pwI_P (l := (pg xF 71, pg xG 71)) okl]; simp only [op1]; rw [if_pos (by omega), Int.toNat_natCast]) k 0 xtr _ _ xP xQ xmm xsl _ (by omega) H_45 hz_45 (fun q hq => ⟨?_, ?_⟩) ?_ ?_ ?_
  · rw [pg_co, if_neg hq.1, pg_cp, if_neg hq.2]
  · rw [pg_co, if_neg hq.1, pg_cp, if_neg hq.2]
  · rw [pg_co, if_neg (by decide), pg_cp, if_pos rfl]
  · rw [pg_co, if_neg (by decide), pg_cp, if_pos rfl]
  · exact ⟨htr, by rw [pg_co, if_pos rfl], by rw [pg_co, if_pos rfl], ok_C 1⟩
set_option maxHeartbeats 4000000 in
/-- power -/
theorem m_powerN (E : zE) (l : Launch) (sz : Nat) (M : zM) {m : Nat} {xln : Nat → Nat} {xlen : Nat} {xlab : Nat} {xbad : Int32} {xlev : Nat} {xtr : Int32} {xwa : Nat} {xpl : Nat} {xfo : Nat} {xsf : Nat → Nat} {xbf : Nat → Nat} {xF : Nat → FF} {xG : Nat → FF} {xP : Nat → FF} {xQ : Nat → FF} {xmm : Nat → FF} {xsl : Nat → Nat} {xkd : Nat → Nat} {xhs : Nat → Nat} {xht : Nat → Nat} {xsg : Nat → Nat} {xdv : Nat → Nat} (H : mw E M m xln xlen xlab xbad xlev xtr xwa xpl xfo xsf xbf xF xG xP xQ xmm xsl xkd xhs xht xsg xdv) (k : Nat) (hk : k ≤ 12) (htr : xtr = 0) (okl : okR xF xG 71) : zMet E l y_M_power c_M_power 4 none { frames := 5, cells := 0, slots := 0, locals := 127 } 0 0 [.ref m, .int (nI k), .int (nI 1)] sz M (oP E M sz m xln xlen xlab xbad xlev xtr xwa xpl xfo xsf xbf xF xG xP xQ xmm xsl xkd xhs xht xsg xdv (fun q => q ≠ 71 ∧ q ≠ 72) 71 (op1 5 (-(k : Int)) (pg xF 71, pg xG 71))) := by
  refine zMet.ofZ (by decide) (Nat.le_of_ble_eq_true rfl) ?_
  intro X hl hini C
  have loop : op1 5 (-(k : Int)) (pg xF 71, pg xG 71) = pwI (fun y => oDiv y (pg xF 71, pg xG 71)) k → ∀ (q i : Nat) (tr1 : Int32) (F1 G1 P1 Q1 mm1 : Nat → FF) (sl1 : Nat → Nat) (M1 : zM), i + q = k → mw E M1 m xln xlen xlab xbad xlev tr1 xwa xpl xfo xsf xbf F1 G1 P1 Q1 mm1 sl1 xkd xhs xht xsg xdv → zoutR M M1 m (m + 15) → (∀ q, q ≠ 71 ∧ q ≠ 72 → pg F1 q = pg xF q ∧ pg G1 q = pg xG q) → pg F1 72 = pg xF 71 → pg G1 72 = pg xG 71 → pwS F1 G1 tr1 (pwI (fun y => oDiv y (pg xF 71, pg xG 71)) i) → Z X E 4 (zQ X E 0 0 (oP E M sz m xln xlen xlab xbad xlev xtr xwa xpl xfo xsf xbf xF xG xP xQ xmm xsl xkd xhs xht xsg xdv (fun q => q ≠ 71 ∧ q ≠ 72) 71 (op1 5 (-(k : Int)) (pg xF 71, pg xG 71)))) 0 0 sz M1 50 [(0, .ref m), (1, .int (nI k)), (2, .int (nI 1)), (3, .int (nI i))] [] := by
    intro hop q
    induction q with
    | zero =>
      intro i tr1 F1 G1 P1 Q1 mm1 sl1 M1 hi H1 hz1 hkp h72 h73 hst
      have hi : k = i := by omega
      subst hi
      refine z_iload_n C d_M_power_50 rfl rfl ?_
      refine z_iload_n C d_M_power_51 rfl rfl ?_
      refine z_icmp_ge (tgt := 72) C d_M_power_52 (by decide) (fun _ => ?_) (fun c_52 => absurd (Int32.le_refl _) c_52)
      exact z_vret C ⟨rfl, rfl, hz1, tr1, F1, G1, P1, Q1, mm1, sl1, H1, by rw [hop]; exact pwS_R hkp hst⟩ d_M_power_72
    | succ q ih =>
      intro i tr1 F1 G1 P1 Q1 mm1 sl1 M1 hi H1 hz1 hkp h72 h73 hst
      rcases ep : pwI (fun y => oDiv y (pg xF 71, pg xG 71)) i with t0 | y0
      · rw [ep] at hst
        obtain ⟨rfl, ht0⟩ := hst
        refine z_iload_n C d_M_power_50 rfl rfl ?_
        refine z_iload_n C d_M_power_51 rfl rfl ?_
        refine z_icmp_ge (tgt := 72) C d_M_power_52 (by decide) (fun c_52 => absurd c_52 (fun q => absurd ((nI_leI (a := k) (b := i) (by omega) (by omega)).mp q) (by omega))) (fun _ => ?_)
        refine z_aload_n C d_M_power_55 rfl rfl ?_
        refine z_bipush (v := nI 71) C d_M_power_56 (by decide) ?_
        refine z_bipush (v := nI 72) C d_M_power_58 (by decide) ?_
        refine z_iload_n C d_M_power_60 rfl rfl ?_
        refine z_bipush (v := nI 71) C d_M_power_61 (by decide) ?_
        refine z_callV (rest := []) (n := 4) (As := [.int (nI 71), .int (nI 72), .int (nI 1), .int (nI 71)]) C (m_timesT E X.2.1 sz _ H1 71 72 1 71 ht0) ⟨z_cb C k_M_times ml_M_140 ii_M rfl rfl (by decide +kernel) ⟨by decide, by decide⟩, C.2.2.2.2.1 _ im_M_times, C.2.2.2.2.1 _ se_M_times⟩ H1.1 rfl rfl rfl (Nat.le_of_ble_eq_true rfl) d_M_power_63 ⟨by decide, by decide⟩ ?_
        intro v_63 s_63 M_63 hp_63
        obtain ⟨rfl, rfl, rfl⟩ := hp_63
        show Z _ _ _ _ _ _ _ _ 66 _ []
        refine z_iinc (v := nI (i + 1)) (L' := [(0, .ref m), (1, .int (nI k)), (2, .int (nI 1)), (3, .int (nI (i + 1)))]) C d_M_power_66 rfl (nI_add _ 1) (by decide) rfl ?_
        refine z_goto (tgt := 50) C d_M_power_69 (by decide) ?_
        exact ih (i + 1) tr1 F1 G1 P1 Q1 mm1 sl1 M1 (by omega) H1 hz1 hkp h72 h73 (by simp only [pwI]; rw [ep]; exact ⟨rfl, ht0⟩)
      · rw [ep] at hst
        obtain ⟨rfl, hy1, hy2, hy3⟩ := hst
        refine z_iload_n C d_M_power_50 rfl rfl ?_
        refine z_iload_n C d_M_power_51 rfl rfl ?_
        refine z_icmp_ge (tgt := 72) C d_M_power_52 (by decide) (fun c_52 => absurd c_52 (fun q => absurd ((nI_leI (a := k) (b := i) (by omega) (by omega)).mp q) (by omega))) (fun _ => ?_)
        refine z_aload_n C d_M_power_55 rfl rfl ?_
        refine z_bipush (v := nI 71) C d_M_power_56 (by decide) ?_
        refine z_bipush (v := nI 72) C d_M_power_58 (by decide) ?_
        refine z_iload_n C d_M_power_60 rfl rfl ?_
        refine z_bipush (v := nI 71) C d_M_power_61 (by decide) ?_
        refine z_callV (rest := []) (n := 4) (As := [.int (nI 71), .int (nI 72), .int (nI 1), .int (nI 71)]) C (m_timesD E X.2.1 sz _ H1 71 72 71 (by decide) (by decide) (by decide) rfl (by unfold okR; rw [hy1, hy2]; exact hy3.1) (by unfold okR; rw [h72, h73]; exact okl)) ⟨z_cb C k_M_times ml_M_140 ii_M rfl rfl (by decide +kernel) ⟨by decide, by decide⟩, C.2.2.2.2.1 _ im_M_times, C.2.2.2.2.1 _ se_M_times⟩ H1.1 rfl rfl rfl (Nat.le_of_ble_eq_true rfl) d_M_power_63 ⟨by decide, by decide⟩ ?_
        intro v_63 s_63 M_63 hp_63
        obtain ⟨rfl, rfl, ho_63, tr_63, F_63, G_63, P_63, Q_63, mm_63, sl_63, H_63, hR_63⟩ := hp_63
        have hz_63 : zoutR M M_63 m (m + 15) := zoutR_tr hz1 ho_63
        show Z _ _ _ _ _ _ _ _ 66 _ []
        refine z_iinc (v := nI (i + 1)) (L' := [(0, .ref m), (1, .int (nI k)), (2, .int (nI 1)), (3, .int (nI (i + 1)))]) C d_M_power_66 rfl (nI_add _ 1) (by decide) rfl ?_
        refine z_goto (tgt := 50) C d_M_power_69 (by decide) ?_
        have hR2 : oR (fun q => q ≠ 71) F1 G1 F_63 G_63 tr_63 71 (oDiv (pg F1 71, pg G1 71) (pg F1 72, pg G1 72)) := hR_63
        rw [hy1, hy2, h72, h73] at hR2
        have ep2 : pwI (fun y => oDiv y (pg xF 71, pg xG 71)) (i + 1) = oDiv (y0.1, y0.2) (pg xF 71, pg xG 71) := by simp only [pwI]; rw [ep]
        refine ih (i + 1) tr_63 F_63 G_63 P_63 Q_63 mm_63 sl_63 _ (by omega) H_63 hz_63 (fun q hq => ?_) ?_ ?_ ?_
        · rw [(hR2.1 q hq.1).1, (hR2.1 q hq.1).2]; exact hkp q hq
        · rw [(hR2.1 72 (by decide)).1, h72]
        · rw [(hR2.1 72 (by decide)).2, h73]
        · rw [ep2]
          obtain ⟨-, hR3⟩ := hR2
          rcases er : oDiv (y0.1, y0.2) (pg xF 71, pg xG 71) with t9 | y9
          · rw [er] at hR3; exact ⟨hR3, div_ne er⟩
          · rw [er] at hR3; exact ⟨hR3.1, hR3.2.1, hR3.2.2, ok_div hy3 (okR_F okl) er⟩
  show Z X E 4 _ 0 0 sz M 0 [(0, .ref m), (1, .int (nI k)), (2, .int (nI 1))] []
  refine z_aload_n C d_M_power_0 rfl rfl ?_
  refine z_get C in_M H.1 rfl 5 (by decide) fl_M_119 rfl rfl d_M_power_1 ?_
  refine z_if_eq (tgt := 8) C d_M_power_4 (by decide) (fun _ => ?_) (fun c_4 => absurd (htr) c_4)
  refine z_iload_n C d_M_power_8 rfl rfl ?_
  refine z_if_eq (tgt := 33) C d_M_power_9 (by decide) (fun c_9 => absurd c_9 (by decide)) (fun _ => ?_)
  refine z_iload_n C d_M_power_12 rfl rfl ?_
  refine z_if_le (tgt := 33) C d_M_power_13 (by decide) (fun c_13 => ?_) (fun c_13 => ?_)
  · have c_13 : k ≤ 0 := (nI_leI (a := k) (b := 0) (by omega) (by omega)).mp c_13
    have hop : op1 5 (-(k : Int)) (pg xF 71, pg xG 71) = pwI (fun y => oDiv y (pg xF 71, pg xG 71)) k := by
      have k0 : k = 0 := by omega
      subst k0
      simp only [op1]
      rw [if_pos (by omega), show (-((0 : Nat) : Int)).toNat = 0 from rfl, ← pwI_P (l := (pg xF 71, pg xG 71)) okl]; rfl
    refine z_aload_n C d_M_power_33 rfl rfl ?_
    refine z_bipush (v := nI 71) C d_M_power_34 (by decide) ?_
    refine z_bipush (v := nI 72) C d_M_power_36 (by decide) ?_
    refine z_callV (rest := []) (n := 2) (As := [.int (nI 71), .int (nI 72)]) C (m_copy E X.2.1 sz _ H 71 72 (by decide) (by decide) (by decide)) ⟨z_cb C k_M_copy ml_M_137 ii_M rfl rfl (by decide +kernel) ⟨by decide, by decide⟩, C.2.2.2.2.1 _ im_M_copy, C.2.2.2.2.1 _ se_M_copy⟩ H.1 rfl rfl rfl (Nat.le_of_ble_eq_true rfl) d_M_power_38 ⟨by decide, by decide⟩ ?_
    intro v_38 s_38 M_38 hp_38
    obtain ⟨rfl, rfl, ho_38, H_38⟩ := hp_38
    have hz_38 : zoutR M M_38 m (m + 15) := zoutR_tr zoutR_rf ho_38
    show Z _ _ _ _ _ _ _ _ 41 _ []
    refine z_aload_n C d_M_power_41 rfl rfl ?_
    refine z_bipush (v := nI 71) C d_M_power_42 (by decide) ?_
    refine z_iconst (v := fI 1) C d_M_power_44 (by decide) ?_
    refine z_callV (rest := []) (n := 2) (As := [.int (nI 71), .int (fI 1)]) C (m_constant E X.2.1 sz _ H_38 71 (by decide) 1) ⟨z_cb C k_M_constant ml_M_108 ii_M rfl rfl (by decide +kernel) ⟨by decide, by decide⟩, C.2.2.2.2.1 _ im_M_constant, C.2.2.2.2.1 _ se_M_constant⟩ H_38.1 rfl rfl rfl (Nat.le_of_ble_eq_true rfl) d_M_power_45 ⟨by decide, by decide⟩ ?_
    intro v_45 s_45 M_45 hp_45
    obtain ⟨rfl, rfl, ho_45, H_45⟩ := hp_45
    have hz_45 : zoutR M M_45 m (m + 15) := zoutR_tr hz_38 ho_45
    show Z _ _ _ _ _ _ _ _ 48 _ []
    refine z_iconst (v := nI 0) C d_M_power_48 (by decide) ?_
    refine z_istore_n (L' := [(0, .ref m), (1, .int (nI k)), (2, .int (nI 1)), (3, .int (nI 0))]) C d_M_power_49 rfl (by decide) rfl ?_
    refine loop (hop) k 0 xtr _ _ xP xQ xmm xsl _ (by omega) H_45 hz_45 (fun q hq => ⟨?_, ?_⟩) ?_ ?_ ?_
    · rw [pg_co, if_neg hq.1, pg_cp, if_neg hq.2]
    · rw [pg_co, if_neg hq.1, pg_cp, if_neg hq.2]
    · rw [pg_co, if_neg (by decide), pg_cp, if_pos rfl]
    · rw [pg_co, if_neg (by decide), pg_cp, if_pos rfl]
    · exact ⟨htr, by rw [pg_co, if_pos rfl], by rw [pg_co, if_pos rfl], ok_C 1⟩
  · have c_13 : 0 < k := Nat.not_le.mp (fun q => c_13 ((nI_leI (a := k) (b := 0) (by omega) (by omega)).mpr q))
    refine z_aload_n C d_M_power_16 rfl rfl ?_
    refine z_bipush (v := nI 71) C d_M_power_17 (by decide) ?_
    refine z_iconst (v := nI 0) C d_M_power_19 (by decide) ?_
    refine z_callV (rest := []) (n := 2) (As := [.int (nI 71), .int (nI 0)]) C (m_top E X.2.1 sz _ H 71 0 (by decide) (by decide)) ⟨z_cb C k_M_top ml_M_133 ii_M rfl rfl (by decide +kernel) ⟨by decide, by decide⟩, C.2.2.2.2.1 _ im_M_top, C.2.2.2.2.1 _ se_M_top⟩ H.1 rfl rfl rfl (Nat.le_of_ble_eq_true rfl) d_M_power_20 ⟨by decide, by decide⟩ ?_
    intro v_20 s_20 M_20 hp_20
    obtain ⟨k1, rfl, rfl, rfl, hk1⟩ := hp_20
    rw [sel_0 rfl] at hk1
    have hk13 := isC_pg hk1
    have ene : op1 5 (-(k : Int)) (pg xF 71, pg xG 71) = oPowN k (pg xF 71, pg xG 71) := by simp only [op1]; rw [if_neg (by omega), Int.neg_neg, Int.toNat_natCast]
    show Z _ _ _ _ _ _ _ _ 23 _ [.int (tI k1)]
    refine z_if_ge (tgt := 33) C d_M_power_23 (by decide) (fun c_23 => ?_) (fun c_23 => ?_)
    · have c_23 : 0 < k1 := (tI_ge0 (n := k1) (by omega)).mp c_23
      have hop : op1 5 (-(k : Int)) (pg xF 71, pg xG 71) = pwI (fun y => oDiv y (pg xF 71, pg xG 71)) k := by rw [ene, pwI_N (l := (pg xF 71, pg xG 71)) okl (fun q => hk1.2 (k1 - 1) (by omega) (q _))]
      refine z_aload_n C d_M_power_33 rfl rfl ?_
      refine z_bipush (v := nI 71) C d_M_power_34 (by decide) ?_
      refine z_bipush (v := nI 72) C d_M_power_36 (by decide) ?_
      refine z_callV (rest := []) (n := 2) (As := [.int (nI 71), .int (nI 72)]) C (m_copy E X.2.1 sz _ H 71 72 (by decide) (by decide) (by decide)) ⟨z_cb C k_M_copy ml_M_137 ii_M rfl rfl (by decide +kernel) ⟨by decide, by decide⟩, C.2.2.2.2.1 _ im_M_copy, C.2.2.2.2.1 _ se_M_copy⟩ H.1 rfl rfl rfl (Nat.le_of_ble_eq_true rfl) d_M_power_38 ⟨by decide, by decide⟩ ?_
      intro v_38 s_38 M_38 hp_38
      obtain ⟨rfl, rfl, ho_38, H_38⟩ := hp_38
      have hz_38 : zoutR M M_38 m (m + 15) := zoutR_tr zoutR_rf ho_38
      show Z _ _ _ _ _ _ _ _ 41 _ []
      refine z_aload_n C d_M_power_41 rfl rfl ?_
      refine z_bipush (v := nI 71) C d_M_power_42 (by decide) ?_
      refine z_iconst (v := fI 1) C d_M_power_44 (by decide) ?_
      refine z_callV (rest := []) (n := 2) (As := [.int (nI 71), .int (fI 1)]) C (m_constant E X.2.1 sz _ H_38 71 (by decide) 1) ⟨z_cb C k_M_constant ml_M_108 ii_M rfl rfl (by decide +kernel) ⟨by decide, by decide⟩, C.2.2.2.2.1 _ im_M_constant, C.2.2.2.2.1 _ se_M_constant⟩ H_38.1 rfl rfl rfl (Nat.le_of_ble_eq_true rfl) d_M_power_45 ⟨by decide, by decide⟩ ?_
      intro v_45 s_45 M_45 hp_45
      obtain ⟨rfl, rfl, ho_45, H_45⟩ := hp_45
      have hz_45 : zoutR M M_45 m (m + 15) := zoutR_tr hz_38 ho_45
      show Z _ _ _ _ _ _ _ _ 48 _ []
      refine z_iconst (v := nI 0) C d_M_power_48 (by decide) ?_
      refine z_istore_n (L' := [(0, .ref m), (1, .int (nI k)), (2, .int (nI 1)), (3, .int (nI 0))]) C d_M_power_49 rfl (by decide) rfl ?_
      refine loop (hop) k 0 xtr _ _ xP xQ xmm xsl _ (by omega) H_45 hz_45 (fun q hq => ⟨?_, ?_⟩) ?_ ?_ ?_
      · rw [pg_co, if_neg hq.1, pg_cp, if_neg hq.2]
      · rw [pg_co, if_neg hq.1, pg_cp, if_neg hq.2]
      · rw [pg_co, if_neg (by decide), pg_cp, if_pos rfl]
      · rw [pg_co, if_neg (by decide), pg_cp, if_pos rfl]
      · exact ⟨htr, by rw [pg_co, if_pos rfl], by rw [pg_co, if_pos rfl], ok_C 1⟩
    · have c_23 : k1 = 0 := Nat.eq_zero_of_not_pos (fun q => c_23 ((tI_ge0 (n := k1) (by omega)).mpr q))
      refine z_aload_n C d_M_power_26 rfl rfl ?_
      refine z_bipush (v := -5) C d_M_power_27 (by decide) ?_
      refine z_put C in_M ty_M tok_M nm_M H.1 rfl 5 (by decide) fl_M_119 rfl rfl rfl (rfl) (rfl) (Nat.le_of_ble_eq_true rfl) d_M_power_29 ?_
      show Z _ _ _ _ _ _ _ (zU M m (.inr (10, [.ref (m + 1), .int (nI xlen), .int (nI xlab), .int xbad, .int (nI xlev), .int (-5), .int (nI xwa), .int (nI xpl), .int (nI xfo), .ref (m + 2), .ref (m + 3), .ref (m + 4), .ref (m + 5), .ref (m + 6), .ref (m + 7), .ref (m + 8), .ref (m + 9), .ref (m + 10), .ref (m + 11), .ref (m + 12), .ref (m + 13), .ref (m + 14)]))) _ _ _
      refine z_vret C ⟨rfl, rfl, (zoutR_tr zoutR_rf (zo_u (by omega) (by omega))), -5, xF, xG, xP, xQ, xmm, xsl, (mw_o H xlen xlab xbad xlev (-5) xwa xpl xfo), ?_⟩ d_M_power_32
      have e9 : oPowN k (pg xF 71, pg xG 71) = .inl (-5) := pif_t (fun i => hk1.1 i (by omega))
      rw [ene, e9]
      exact ⟨fun q _ => ⟨rfl, rfl⟩, rfl⟩
def drF (F G : Nat → FF) (a n : Nat) : Nat → FF := fun j => if 936 ≤ j ∧ j < 936 + n then F (a * 13 + (j - 936 + 1)) * Fin.ofNat 10007 (j - 936 + 1) else if 949 ≤ j ∧ j < 949 + n then G (a * 13 + (j - 949 + 1)) * Fin.ofNat 10007 (j - 949 + 1) else coF (coF F 72 0 13) 73 0 13 j
theorem co2_at {F : Nat → FF} {v w : FF} {j : Nat} (h : j < 936) : coF (coF F 72 v 13) 73 w 13 j = F j := by
  unfold coF
  rw [if_neg (by omega), if_neg (by omega)]
theorem drF_at {F G : Nat → FF} {a n j : Nat} (h : j < 936) : drF F G a n j = F j := by
  unfold drF
  rw [if_neg (by omega), if_neg (by omega), co2_at h]
theorem drF_0 {F G : Nat → FF} {a : Nat} : coF (coF F 72 0 13) 73 0 13 = drF F G a 0 := by
  funext j
  unfold drF
  rw [if_neg (by omega), if_neg (by omega)]
theorem drF_s {F G : Nat → FF} {a n : Nat} (ha : a < 72) (hn : n < 12) : updF (updF (drF F G a n) (936 + (n + 1) - 1) (drF F G a n (a * 13 + (n + 1)) * Fin.ofNat 10007 (n + 1))) (949 + (n + 1) - 1) (coF (coF G 72 1 13) 73 1 13 (a * 13 + (n + 1)) * Fin.ofNat 10007 (n + 1)) = drF F G a (n + 1) := by
  rw [drF_at (by omega), co2_at (by omega)]
  funext j
  unfold updF
  by_cases h1 : j = 949 + (n + 1) - 1
  · rw [if_pos h1]
    unfold drF
    rw [if_neg (by omega), if_pos (by omega), show j - 949 + 1 = n + 1 by omega]
  · rw [if_neg h1]
    by_cases h2 : j = 936 + (n + 1) - 1
    · rw [if_pos h2]
      unfold drF
      rw [if_pos (by omega), show j - 936 + 1 = n + 1 by omega]
    · rw [if_neg h2]
      unfold drF
      by_cases h3 : 936 ≤ j ∧ j < 936 + n
      · rw [if_pos h3, if_pos (show 936 ≤ j ∧ j < 936 + (n + 1) by omega)]
      · rw [if_neg h3, if_neg (show ¬ (936 ≤ j ∧ j < 936 + (n + 1)) by omega)]
        by_cases h4 : 949 ≤ j ∧ j < 949 + n
        · rw [if_pos h4, if_pos (show 949 ≤ j ∧ j < 949 + (n + 1) by omega)]
        · rw [if_neg h4, if_neg (show ¬ (949 ≤ j ∧ j < 949 + (n + 1)) by omega)]
theorem pg_dr72 {F G : Nat → FF} {a : Nat} : pg (drF F G a 12) 72 = ps_der (pg F a) := by
  funext i
  show (if i < 13 then drF F G a 12 (72 * 13 + i) else 0) = (if i + 1 < 13 then F (a * 13 + (i + 1)) else 0) * Fin.ofNat 10007 (i + 1)
  by_cases h : i < 12
  · rw [if_pos (by omega), if_pos (by omega)]
    unfold drF
    rw [if_pos (by omega), show 72 * 13 + i - 936 + 1 = i + 1 by omega]
  · rw [if_neg (show ¬ i + 1 < 13 by omega)]
    by_cases h2 : i < 13
    · rw [if_pos h2]
      unfold drF
      rw [if_neg (by omega), if_neg (by omega)]
      unfold coF
      rw [if_neg (by omega), if_pos (by omega), if_neg (by omega)]; grind
    · rw [if_neg h2]; grind
theorem pg_dr73 {F G : Nat → FF} {a : Nat} : pg (drF F G a 12) 73 = ps_der (pg G a) := by
  funext i
  show (if i < 13 then drF F G a 12 (73 * 13 + i) else 0) = (if i + 1 < 13 then G (a * 13 + (i + 1)) else 0) * Fin.ofNat 10007 (i + 1)
  by_cases h : i < 12
  · rw [if_pos (by omega), if_pos (by omega)]
    unfold drF
    rw [if_neg (by omega), if_pos (by omega), show 73 * 13 + i - 949 + 1 = i + 1 by omega]
  · rw [if_neg (show ¬ i + 1 < 13 by omega)]
    by_cases h2 : i < 13
    · rw [if_pos h2]
      unfold drF
      rw [if_neg (by omega), if_neg (by omega)]
      unfold coF
      rw [if_pos (by omega), if_neg (by omega)]; grind
    · rw [if_neg h2]; grind
theorem pg_dr {F G : Nat → FF} {a q : Nat} (hq : q < 72) : pg (drF F G a 12) q = pg F q := by
  funext i
  unfold pg
  by_cases h : i < 13
  · rw [if_pos h, if_pos h, drF_at (by omega)]
  · rw [if_neg h, if_neg h]
theorem pg_co2 {F : Nat → FF} {v w : FF} {q : Nat} (hq : q < 72) : pg (coF (coF F 72 v 13) 73 w 13) q = pg F q := by
  rw [pg_co, if_neg (by omega), pg_co, if_neg (by omega)]
theorem nI_mulf {y : FF} {i : Nat} (hi : i < 1000) : nI i * fI y - nI i * fI y / 10007 * 10007 = fI (y * Fin.ofNat 10007 i) := by
  rw [Int32.mul_comm (nI i)]; exact fI_muln hi
theorem ps_cm (a b : PS) : ps_mul a b = ps_mul b a := by
  letI := ps_ring
  show a * b = b * a
  grind
set_option maxHeartbeats 4000000 in
/-- derive -/
theorem m_derive (E : zE) (l : Launch) (sz : Nat) (M : zM) {m : Nat} {xln : Nat → Nat} {xlen : Nat} {xlab : Nat} {xbad : Int32} {xlev : Nat} {xtr : Int32} {xwa : Nat} {xpl : Nat} {xfo : Nat} {xsf : Nat → Nat} {xbf : Nat → Nat} {xF : Nat → FF} {xG : Nat → FF} {xP : Nat → FF} {xQ : Nat → FF} {xmm : Nat → FF} {xsl : Nat → Nat} {xkd : Nat → Nat} {xhs : Nat → Nat} {xht : Nat → Nat} {xsg : Nat → Nat} {xdv : Nat → Nat} (H : mw E M m xln xlen xlab xbad xlev xtr xwa xpl xfo xsf xbf xF xG xP xQ xmm xsl xkd xhs xht xsg xdv) (a t : Nat) (ha : a < 72) (ht : t < 72) (htr : xtr = 0) (oka : okR xF xG a) : zMet E l y_M_derive c_M_derive 4 none { frames := 4, cells := 0, slots := 0, locals := 103 } 0 0 [.ref m, .int (nI a), .int (nI t)] sz M (oP E M sz m xln xlen xlab xbad xlev xtr xwa xpl xfo xsf xbf xF xG xP xQ xmm xsl xkd xhs xht xsg xdv (fun q => q < 72 ∧ q ≠ t) t (oDer (pg xF a, pg xG a))) := by
  refine zMet.ofZ (by decide) (Nat.le_of_ble_eq_true rfl) ?_
  intro X hl hini C
  have loop : ∀ (q n : Nat) (M1 : zM), n + q = 12 → mw E M1 m xln xlen xlab xbad xlev xtr xwa xpl xfo xsf xbf (drF xF xG a n) (coF (coF xG 72 1 13) 73 1 13) xP xQ xmm xsl xkd xhs xht xsg xdv → zoutR M M1 m (m + 15) → Z X E 4 (zQ X E 0 0 (oP E M sz m xln xlen xlab xbad xlev xtr xwa xpl xfo xsf xbf xF xG xP xQ xmm xsl xkd xhs xht xsg xdv (fun q => q < 72 ∧ q ≠ t) t (oDer (pg xF a, pg xG a)))) 0 0 sz M1 24 [(0, .ref m), (1, .int (nI a)), (2, .int (nI t)), (3, .int (nI (n + 1)))] [] := by
    intro q
    induction q with
    | zero =>
      intro n M1 hn H1 hz1
      have hn : n = 12 := by omega
      subst hn
      refine z_iload_n C d_M_derive_24 rfl rfl ?_
      refine z_bipush (v := nI 13) C d_M_derive_25 (by decide) ?_
      refine z_icmp_ge (tgt := 94) C d_M_derive_27 (by decide) (fun _ => ?_) (fun c_27 => absurd (by decide) c_27)
      refine z_aload_n C d_M_derive_94 rfl rfl ?_
      refine z_callV (rest := []) (n := 0) (As := []) C (m_blank E X.2.1 sz _ H1) ⟨z_cb C k_M_blank ml_M_122 ii_M rfl rfl (by decide +kernel) ⟨by decide, by decide⟩, C.2.2.2.2.1 _ im_M_blank, C.2.2.2.2.1 _ se_M_blank⟩ H1.1 rfl rfl rfl (Nat.le_of_ble_eq_true rfl) d_M_derive_95 ⟨by decide, by decide⟩ ?_
      intro v_95 s_95 M_95 hp_95
      obtain ⟨rfl, rfl, ho_95, H_95⟩ := hp_95
      have hz_95 : zoutR M M_95 m (m + 15) := zoutR_tr hz1 ho_95
      show Z _ _ _ _ _ _ _ _ 98 _ []
      refine z_aload_n C d_M_derive_98 rfl rfl ?_
      refine z_bipush (v := nI 72) C d_M_derive_99 (by decide) ?_
      refine z_iconst (v := nI 0) C d_M_derive_101 (by decide) ?_
      refine z_iload_n C d_M_derive_102 rfl rfl ?_
      refine z_iconst (v := nI 1) C d_M_derive_103 (by decide) ?_
      refine z_iconst (v := fI 1) C d_M_derive_104 (by decide) ?_
      refine z_iconst (v := nI 0) C d_M_derive_105 (by decide) ?_
      refine z_callV (rest := []) (n := 6) (As := [.int (nI 72), .int (nI 0), .int (nI a), .int (nI 1), .int (fI 1), .int (nI 0)]) C (m_productP E X.2.1 sz _ H_95 72 0 a 1 1 (by omega) (by omega) (by decide) (by decide)) ⟨z_cb C k_M_product ml_M_125 ii_M rfl rfl (by decide +kernel) ⟨by decide, by decide⟩, C.2.2.2.2.1 _ im_M_product, C.2.2.2.2.1 _ se_M_product⟩ H_95.1 rfl rfl rfl (Nat.le_of_ble_eq_true rfl) d_M_derive_106 ⟨by decide, by decide⟩ ?_
      intro v_106 s_106 M_106 hp_106
      obtain ⟨rfl, rfl, ho_106, H_106⟩ := hp_106
      have hz_106 : zoutR M M_106 m (m + 15) := zoutR_tr hz_95 ho_106
      show Z _ _ _ _ _ _ _ _ 109 _ []
      refine z_aload_n C d_M_derive_109 rfl rfl ?_
      refine z_bipush (v := nI 73) C d_M_derive_110 (by decide) ?_
      refine z_iconst (v := nI 0) C d_M_derive_112 (by decide) ?_
      refine z_iload_n C d_M_derive_113 rfl rfl ?_
      refine z_iconst (v := nI 0) C d_M_derive_114 (by decide) ?_
      refine z_sipush (v := fI 10006) C d_M_derive_115 (by decide) ?_
      refine z_iconst (v := nI 0) C d_M_derive_118 (by decide) ?_
      refine z_callV (rest := []) (n := 6) (As := [.int (nI 73), .int (nI 0), .int (nI a), .int (nI 0), .int (fI 10006), .int (nI 0)]) C (m_productP E X.2.1 sz _ H_106 73 0 a 0 10006 (by omega) (by omega) (by decide) (by decide)) ⟨z_cb C k_M_product ml_M_125 ii_M rfl rfl (by decide +kernel) ⟨by decide, by decide⟩, C.2.2.2.2.1 _ im_M_product, C.2.2.2.2.1 _ se_M_product⟩ H_106.1 rfl rfl rfl (Nat.le_of_ble_eq_true rfl) d_M_derive_119 ⟨by decide, by decide⟩ ?_
      intro v_119 s_119 M_119 hp_119
      obtain ⟨rfl, rfl, ho_119, H_119⟩ := hp_119
      have hz_119 : zoutR M M_119 m (m + 15) := zoutR_tr hz_106 ho_119
      show Z _ _ _ _ _ _ _ _ 122 _ []
      refine z_aload_n C d_M_derive_122 rfl rfl ?_
      refine z_iload_n C d_M_derive_123 rfl rfl ?_
      refine z_iconst (v := nI 1) C d_M_derive_124 (by decide) ?_
      refine z_iload_n C d_M_derive_125 rfl rfl ?_
      refine z_iconst (v := nI 1) C d_M_derive_126 (by decide) ?_
      refine z_iconst (v := fI 1) C d_M_derive_127 (by decide) ?_
      refine z_iconst (v := nI 1) C d_M_derive_128 (by decide) ?_
      refine z_callV (rest := []) (n := 6) (As := [.int (nI a), .int (nI 1), .int (nI a), .int (nI 1), .int (fI 1), .int (nI 1)]) C (m_productQ E X.2.1 sz _ H_119 a 1 a 1 1 (by omega) (by omega) (by decide) (by decide)) ⟨z_cb C k_M_product ml_M_125 ii_M rfl rfl (by decide +kernel) ⟨by decide, by decide⟩, C.2.2.2.2.1 _ im_M_product, C.2.2.2.2.1 _ se_M_product⟩ H_119.1 rfl rfl rfl (Nat.le_of_ble_eq_true rfl) d_M_derive_129 ⟨by decide, by decide⟩ ?_
      intro v_129 s_129 M_129 hp_129
      obtain ⟨rfl, rfl, ho_129, H_129⟩ := hp_129
      have hz_129 : zoutR M M_129 m (m + 15) := zoutR_tr hz_119 ho_129
      show Z _ _ _ _ _ _ _ _ 132 _ []
      refine z_aload_n C d_M_derive_132 rfl rfl ?_
      refine z_iload_n C d_M_derive_133 rfl rfl ?_
      have eN_ : ps_tr (prd (prd (blF xP 40) 1 (pg (drF xF xG a 12) 72) (pg (coF (coF xG 72 1 13) 73 1 13) a)) 10006 (pg (drF xF xG a 12) 73) (pg (drF xF xG a 12) a)) 40 = ps_add (ps_mul (ps_der (pg xF a)) (pg xG a)) (ps_mul (ps_C 10006) (ps_mul (pg xF a) (ps_der (pg xG a)))) := by rw [tr_prd2 pg_z pg_z pg_z pg_z, pg_dr72, pg_dr73, pg_dr ha, pg_co2 ha, ps_cm (ps_der (pg xG a))]
      have eD_ : ps_tr (prd (blF xQ 40) 1 (pg (coF (coF xG 72 1 13) 73 1 13) a) (pg (coF (coF xG 72 1 13) 73 1 13) a)) 40 = ps_mul (pg xG a) (pg xG a) := by rw [tr_prd1 pg_z pg_z, pg_co2 ha]
      refine z_callV (rest := []) (n := 1) (As := [.int (nI t)]) C (m_form E X.2.1 sz _ H_129 t (by omega) htr (fun i hi => by show ps_tr (prd (prd (blF xP 40) 1 (pg (drF xF xG a 12) 72) (pg (coF (coF xG 72 1 13) 73 1 13) a)) 10006 (pg (drF xF xG a 12) 73) (pg (drF xF xG a 12) a)) 40 i = 0; rw [eN_]; exact add_25 (mul_25 (der_z (m := 13) pg_z (by omega)) pg_z) (mul_25 pg_z (der_z (m := 13) pg_z (by omega))) 10006 i hi) (fun i hi => by show ps_tr (prd (blF xQ 40) 1 (pg (coF (coF xG 72 1 13) 73 1 13) a) (pg (coF (coF xG 72 1 13) 73 1 13) a)) 40 i = 0; rw [eD_]; exact mul_25 pg_z pg_z i hi) (by show ∃ i, ps_tr (prd (blF xQ 40) 1 (pg (coF (coF xG 72 1 13) 73 1 13) a) (pg (coF (coF xG 72 1 13) 73 1 13) a)) 40 i ≠ 0; rw [eD_]; exact mul_ne ⟨13, pg_z⟩ ⟨13, pg_z⟩ (okR_ne oka) (okR_ne oka))) ⟨z_cb C k_M_form ml_M_129 ii_M rfl rfl (by decide +kernel) ⟨by decide, by decide⟩, C.2.2.2.2.1 _ im_M_form, C.2.2.2.2.1 _ se_M_form⟩ H_129.1 rfl rfl rfl (Nat.le_of_ble_eq_true rfl) d_M_derive_134 ⟨by decide, by decide⟩ ?_
      intro v_134 s_134 M_134 hp_134
      obtain ⟨rfl, rfl, ho_134, tr_, F_, G_, P_, Q_, mm_, sl_, H_134, hR_⟩ := hp_134
      have hR : oR (fun q => q ≠ t) (drF xF xG a 12) (coF (coF xG 72 1 13) 73 1 13) F_ G_ tr_ t (setl (ps_tr (prd (prd (blF xP 40) 1 (pg (drF xF xG a 12) 72) (pg (coF (coF xG 72 1 13) 73 1 13) a)) 10006 (pg (drF xF xG a 12) 73) (pg (drF xF xG a 12) a)) 40) (ps_tr (prd (blF xQ 40) 1 (pg (coF (coF xG 72 1 13) 73 1 13) a) (pg (coF (coF xG 72 1 13) 73 1 13) a)) 40)) := hR_
      rw [eN_, eD_] at hR
      show Z _ _ _ _ _ _ _ _ 137 _ []
      refine z_vret C ⟨rfl, rfl, (zoutR_tr hz_129 ho_134), tr_, F_, G_, P_, Q_, mm_, sl_, H_134, ?_⟩ d_M_derive_137
      refine ⟨fun q hq => ?_, hR.2⟩
      rw [(hR.1 q hq.2).1, (hR.1 q hq.2).2, pg_dr hq.1, pg_co2 hq.1]
      exact ⟨rfl, rfl⟩
    | succ q ih =>
      intro n M1 hn H1 hz1
      refine z_iload_n C d_M_derive_24 rfl rfl ?_
      refine z_bipush (v := nI 13) C d_M_derive_25 (by decide) ?_
      refine z_icmp_ge (tgt := 94) C d_M_derive_27 (by decide) (fun c_27 => absurd c_27 (fun q => absurd ((nI_leI (a := 13) (b := n + 1) (by omega) (by omega)).mp q) (by omega))) (fun _ => ?_)
      refine z_aload_n C d_M_derive_30 rfl rfl ?_
      refine z_get C in_M H1.1 rfl 11 (by decide) fl_M_23 rfl rfl d_M_derive_31 ?_
      refine z_sipush (v := nI 936) C d_M_derive_34 (by decide) ?_
      refine z_iload_n C d_M_derive_37 rfl rfl ?_
      refine z_iadd C d_M_derive_38 ?_
      refine z_top (y := nI (936 + (n + 1))) (nI_add _ _) ?_
      refine z_iconst (v := nI 1) C d_M_derive_39 (by decide) ?_
      refine z_isub C d_M_derive_40 ?_
      refine z_top (y := nI ((936 + (n + 1)) - 1)) (pk_sub (by omega)) ?_
      refine z_iload_n C d_M_derive_41 rfl rfl ?_
      refine z_aload_n C d_M_derive_42 rfl rfl ?_
      refine z_get C in_M H1.1 rfl 11 (by decide) fl_M_23 rfl rfl d_M_derive_43 ?_
      refine z_iload_n C d_M_derive_46 rfl rfl ?_
      refine z_bipush (v := nI 13) C d_M_derive_47 (by decide) ?_
      refine z_imul C d_M_derive_49 ?_
      refine z_top (y := nI (a * 13)) (pk_mul _ _) ?_
      refine z_iload_n C d_M_derive_50 rfl rfl ?_
      refine z_iadd C d_M_derive_51 ?_
      refine z_top (y := nI ((a * 13) + (n + 1))) (nI_add _ _) ?_
      refine z_iald C H1.2.2.2.2.1 0 rfl ((a * 13) + (n + 1)) (rfl) (by omega) (by omega) d_M_derive_52 ?_
      refine z_top (y := fI ((drF xF xG a n) ((a * 13) + (n + 1)))) rfl ?_
      refine z_imul C d_M_derive_53 ?_
      refine z_sipush (v := nI 10007) C d_M_derive_54 (by decide) ?_
      refine z_irem C d_M_derive_57 (by decide) ?_
      refine z_top (y := fI (((drF xF xG a n) ((a * 13) + (n + 1))) * Fin.ofNat 10007 (n + 1))) (nI_mulf (by omega)) ?_
      refine z_iast C H1.2.2.2.2.1 0 rfl ((936 + (n + 1)) - 1) (rfl) (by omega) (by omega) d_M_derive_58 ?_
      refine z_world (M' := zU M1 (m + 4) (.inl (E.2.1 0, 1014, .inl (fun z_ => fI ((updF (drF xF xG a n) ((936 + (n + 1)) - 1) (((drF xF xG a n) ((a * 13) + (n + 1))) * Fin.ofNat 10007 (n + 1))) z_))))) (congrArg (fun e => zU M1 (m + 4) (.inl (E.2.1 0, 1014, .inl e))) fI_upd) ?_
      refine z_aload_n C d_M_derive_59 rfl rfl ?_
      refine z_get C in_M ((zU_ne (by omega)).trans H1.1) rfl 11 (by decide) fl_M_23 rfl rfl d_M_derive_60 ?_
      refine z_sipush (v := nI 949) C d_M_derive_63 (by decide) ?_
      refine z_iload_n C d_M_derive_66 rfl rfl ?_
      refine z_iadd C d_M_derive_67 ?_
      refine z_top (y := nI (949 + (n + 1))) (nI_add _ _) ?_
      refine z_iconst (v := nI 1) C d_M_derive_68 (by decide) ?_
      refine z_isub C d_M_derive_69 ?_
      refine z_top (y := nI ((949 + (n + 1)) - 1)) (pk_sub (by omega)) ?_
      refine z_iload_n C d_M_derive_70 rfl rfl ?_
      refine z_aload_n C d_M_derive_71 rfl rfl ?_
      refine z_get C in_M ((zU_ne (by omega)).trans H1.1) rfl 12 (by decide) fl_M_26 rfl rfl d_M_derive_72 ?_
      refine z_iload_n C d_M_derive_75 rfl rfl ?_
      refine z_bipush (v := nI 13) C d_M_derive_76 (by decide) ?_
      refine z_imul C d_M_derive_78 ?_
      refine z_top (y := nI (a * 13)) (pk_mul _ _) ?_
      refine z_iload_n C d_M_derive_79 rfl rfl ?_
      refine z_iadd C d_M_derive_80 ?_
      refine z_top (y := nI ((a * 13) + (n + 1))) (nI_add _ _) ?_
      refine z_iald C ((zU_ne (by omega)).trans H1.2.2.2.2.2.1) 0 rfl ((a * 13) + (n + 1)) (rfl) (by omega) (by omega) d_M_derive_81 ?_
      refine z_top (y := fI ((coF (coF xG 72 1 13) 73 1 13) ((a * 13) + (n + 1)))) rfl ?_
      refine z_imul C d_M_derive_82 ?_
      refine z_sipush (v := nI 10007) C d_M_derive_83 (by decide) ?_
      refine z_irem C d_M_derive_86 (by decide) ?_
      refine z_top (y := fI (((coF (coF xG 72 1 13) 73 1 13) ((a * 13) + (n + 1))) * Fin.ofNat 10007 (n + 1))) (nI_mulf (by omega)) ?_
      refine z_iast C zU_eq 0 rfl ((949 + (n + 1)) - 1) (rfl) (by omega) (by omega) d_M_derive_87 ?_
      refine z_world (M' := zU (zU M1 (m + 4) (.inl (E.2.1 0, 1014, .inl (fun z_ => fI ((updF (drF xF xG a n) ((936 + (n + 1)) - 1) (((drF xF xG a n) ((a * 13) + (n + 1))) * Fin.ofNat 10007 (n + 1))) z_))))) (m + 4) (.inl (E.2.1 0, 1014, .inl (fun z_ => fI ((updF (updF (drF xF xG a n) ((936 + (n + 1)) - 1) (((drF xF xG a n) ((a * 13) + (n + 1))) * Fin.ofNat 10007 (n + 1))) ((949 + (n + 1)) - 1) (((coF (coF xG 72 1 13) 73 1 13) ((a * 13) + (n + 1))) * Fin.ofNat 10007 (n + 1))) z_))))) (congrArg (fun e => zU (zU M1 (m + 4) (.inl (E.2.1 0, 1014, .inl (fun z_ => fI ((updF (drF xF xG a n) ((936 + (n + 1)) - 1) (((drF xF xG a n) ((a * 13) + (n + 1))) * Fin.ofNat 10007 (n + 1))) z_))))) (m + 4) (.inl (E.2.1 0, 1014, .inl e))) fI_upd) ?_
      refine z_world zU_uu ?_
      refine z_iinc (v := nI ((n + 1) + 1)) (L' := [(0, .ref m), (1, .int (nI a)), (2, .int (nI t)), (3, .int (nI ((n + 1) + 1)))]) C d_M_derive_88 rfl (nI_add _ 1) (by decide) rfl ?_
      refine z_goto (tgt := 24) C d_M_derive_91 (by decide) ?_
      refine ih (n + 1) _ (by omega) ?_ (zoutR_tr hz1 (zo_u (by omega) (by omega)))
      rw [← drF_s ha (by omega)]
      exact (mw_a4 H1 (updF (updF (drF xF xG a n) ((936 + (n + 1)) - 1) (((drF xF xG a n) ((a * 13) + (n + 1))) * Fin.ofNat 10007 (n + 1))) ((949 + (n + 1)) - 1) (((coF (coF xG 72 1 13) 73 1 13) ((a * 13) + (n + 1))) * Fin.ofNat 10007 (n + 1))))
  show Z X E 4 _ 0 0 sz M 0 [(0, .ref m), (1, .int (nI a)), (2, .int (nI t))] []
  refine z_aload_n C d_M_derive_0 rfl rfl ?_
  refine z_get C in_M H.1 rfl 5 (by decide) fl_M_119 rfl rfl d_M_derive_1 ?_
  refine z_if_eq (tgt := 8) C d_M_derive_4 (by decide) (fun _ => ?_) (fun c_4 => absurd (htr) c_4)
  refine z_aload_n C d_M_derive_8 rfl rfl ?_
  refine z_bipush (v := nI 72) C d_M_derive_9 (by decide) ?_
  refine z_iconst (v := fI 0) C d_M_derive_11 (by decide) ?_
  refine z_callV (rest := []) (n := 2) (As := [.int (nI 72), .int (fI 0)]) C (m_constant E X.2.1 sz _ H 72 (by decide) 0) ⟨z_cb C k_M_constant ml_M_108 ii_M rfl rfl (by decide +kernel) ⟨by decide, by decide⟩, C.2.2.2.2.1 _ im_M_constant, C.2.2.2.2.1 _ se_M_constant⟩ H.1 rfl rfl rfl (Nat.le_of_ble_eq_true rfl) d_M_derive_12 ⟨by decide, by decide⟩ ?_
  intro v_12 s_12 M_12 hp_12
  obtain ⟨rfl, rfl, ho_12, H_12⟩ := hp_12
  have hz_12 : zoutR M M_12 m (m + 15) := zoutR_tr zoutR_rf ho_12
  show Z _ _ _ _ _ _ _ _ 15 _ []
  refine z_aload_n C d_M_derive_15 rfl rfl ?_
  refine z_bipush (v := nI 73) C d_M_derive_16 (by decide) ?_
  refine z_iconst (v := fI 0) C d_M_derive_18 (by decide) ?_
  refine z_callV (rest := []) (n := 2) (As := [.int (nI 73), .int (fI 0)]) C (m_constant E X.2.1 sz _ H_12 73 (by decide) 0) ⟨z_cb C k_M_constant ml_M_108 ii_M rfl rfl (by decide +kernel) ⟨by decide, by decide⟩, C.2.2.2.2.1 _ im_M_constant, C.2.2.2.2.1 _ se_M_constant⟩ H_12.1 rfl rfl rfl (Nat.le_of_ble_eq_true rfl) d_M_derive_19 ⟨by decide, by decide⟩ ?_
  intro v_19 s_19 M_19 hp_19
  obtain ⟨rfl, rfl, ho_19, H_19⟩ := hp_19
  have hz_19 : zoutR M M_19 m (m + 15) := zoutR_tr hz_12 ho_19
  show Z _ _ _ _ _ _ _ _ 22 _ []
  refine z_iconst (v := nI (0 + 1)) C d_M_derive_22 (by decide) ?_
  refine z_istore_n (L' := [(0, .ref m), (1, .int (nI a)), (2, .int (nI t)), (3, .int (nI (0 + 1)))]) C d_M_derive_23 rfl (by decide) rfl ?_
  refine loop 12 0 _ (by omega) ?_ hz_19
  rw [← drF_0]
  exact H_19
