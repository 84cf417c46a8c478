theorem nI_subi {a b : Nat} (ha : a < 2 ^ 30) (hb : b < 2 ^ 30) : (nI a - nI b).toInt = (a : Int) - b := by
  rw [Int32.toInt_sub, nI_toInt (by omega), nI_toInt (by omega)]
  rw [Int.bmod_def]
  split <;> omega
/-- what an operation leaves: the registers that it keeps, the trouble or the FORM -/
def oR (K : Nat → Prop) (F G F' G' : Nat → FF) (tr' : Int32) (t : Nat) (r : Res) : Prop := (∀ q, K q → pg F' q = pg F q ∧ pg G' q = pg G q) ∧ match r with
  | .inl e => tr' = e
  | .inr f => tr' = 0 ∧ pg F' t = f.1 ∧ pg G' t = f.2
def oP (E : zE) (M : zM) (sz m : Nat) (xln : Nat → Nat) (xlen : Nat) (xlab : Nat) (xbad : Int32) (xlev : Nat) (xtr : Int32) (xwa : Nat) (xpl : Nat) (xfo : Nat) (xsf : Nat → Nat) (xbf : Nat → Nat) (xF : Nat → FF) (xG : Nat → FF) (xP : Nat → FF) (xQ : Nat → FF) (xmm : Nat → FF) (xsl : Nat → Nat) (xkd : Nat → Nat) (xhs : Nat → Nat) (xht : Nat → Nat) (xsg : Nat → Nat) (xdv : Nat → Nat) (K : Nat → Prop) (t : Nat) (r : Res) : Option Value → Nat → zM → Prop := fun v s M' => none = v ∧ sz = s ∧ zoutR M M' m (m + 15) ∧ ∃ (tr' : Int32) (F' G' P' Q' mm' : Nat → FF) (sl' : Nat → Nat), mw E M' m xln xlen xlab xbad xlev tr' xwa xpl xfo xsf xbf F' G' P' Q' mm' sl' xkd xhs xht xsg xdv ∧ oR K xF xG F' G' tr' t r
def dnF (G : Nat → FF) (t d : Nat) (u : Nat → FF) (j : Nat) : Nat → FF := fun i => if t * 13 ≤ i ∧ i < t * 13 + 13 then (if i - t * 13 < j then u (i - t * 13) else if i - t * 13 = d then 1 else 0) else G i
def nuF (F : Nat → FF) (t d : Nat) (u : Nat → FF) (j : Nat) : Nat → FF := fun i => if t * 13 ≤ i ∧ i < t * 13 + 13 then (if i - t * 13 < j then u (d + (i - t * 13)) else 0) else F i
theorem dnF_0 {G : Nat → FF} {t d : Nat} {u : Nat → FF} (hd : d < 13) : updF (updF (coF G t 1 13) (t * 13) 0) (t * 13 + d) 1 = dnF G t d u 0 := by
  funext i
  unfold updF coF dnF
  by_cases h : i = t * 13 + d
  · rw [if_pos h, if_pos (by omega), if_neg (by omega), if_pos (by omega)]
  · rw [if_neg h]
    by_cases h2 : t * 13 ≤ i ∧ i < t * 13 + 13
    · rw [if_pos h2, if_pos h2, if_neg (show ¬ i - t * 13 < 0 by omega), if_neg (show ¬ i - t * 13 = d by omega)]
      by_cases h3 : i = t * 13
      · rw [if_pos h3]
      · rw [if_neg h3, if_neg h3]
    · rw [if_neg h2, if_neg h2, if_neg (by omega)]
theorem dnF_s {G : Nat → FF} {t d j : Nat} {u : Nat → FF} (hj : j < d) (hd : d < 13) : updF (dnF G t d u j) (t * 13 + j) (u j) = dnF G t d u (j + 1) := by
  funext i
  unfold updF dnF
  by_cases h : i = t * 13 + j
  · rw [if_pos h, if_pos (by omega), if_pos (by omega), h, show t * 13 + j - t * 13 = j by omega]
  · rw [if_neg h]
    by_cases h2 : t * 13 ≤ i ∧ i < t * 13 + 13
    · rw [if_pos h2, if_pos h2]
      by_cases h3 : i - t * 13 < j
      · rw [if_pos h3, if_pos (by omega)]
      · rw [if_neg h3, if_neg (show ¬ i - t * 13 < j + 1 by omega)]
    · rw [if_neg h2, if_neg h2]
theorem nuF_0 {F : Nat → FF} {t d : Nat} {u : Nat → FF} : coF F t 0 13 = nuF F t d u 0 := by
  funext i
  unfold coF nuF
  by_cases h2 : t * 13 ≤ i ∧ i < t * 13 + 13
  · rw [if_pos h2, if_pos h2, if_neg (show ¬ i - t * 13 < 0 by omega)]
    split <;> rfl
  · rw [if_neg h2, if_neg h2]
theorem nuF_s {F : Nat → FF} {t d j : Nat} {u : Nat → FF} (hj : j < 13) : updF (nuF F t d u j) (t * 13 + j) (u (d + j)) = nuF F t d u (j + 1) := by
  funext i
  unfold updF nuF
  by_cases h : i = t * 13 + j
  · rw [if_pos h, if_pos (by omega), if_pos (by omega), h, show t * 13 + j - t * 13 = j by omega]
  · rw [if_neg h]
    by_cases h2 : t * 13 ≤ i ∧ i < t * 13 + 13
    · rw [if_pos h2, if_pos h2]
      by_cases h3 : i - t * 13 < j
      · rw [if_pos h3, if_pos (by omega)]
      · rw [if_neg h3, if_neg (show ¬ i - t * 13 < j + 1 by omega)]
    · rw [if_neg h2, if_neg h2]
theorem pg_dn {G : Nat → FF} {t d q : Nat} {u : Nat → FF} (hd : d < 13) : pg (dnF G t d u d) q = if q = t then Dof d u else pg G q := by
  funext i
  unfold pg dnF
  by_cases h : q = t
  · rw [if_pos h]
    subst h
    unfold Dof
    by_cases hi : i < 13
    · rw [if_pos hi, if_pos (by omega), show q * 13 + i - q * 13 = i by omega]
    · rw [if_neg hi, if_neg (by omega), if_neg (by omega)]
  · rw [if_neg h]
    by_cases hi : i < 13
    · rw [if_pos hi, if_pos hi, if_neg (by omega)]
    · rw [if_neg hi, if_neg hi]
theorem pg_nu {F : Nat → FF} {t d e q : Nat} {u : Nat → FF} (he : e < 13) : pg (nuF F t d u (e + 1)) q = if q = t then Nof d e u else pg F q := by
  funext i
  unfold pg nuF
  by_cases h : q = t
  · rw [if_pos h]
    subst h
    unfold Nof
    by_cases hi : i < 13
    · rw [if_pos hi, if_pos (by omega), show q * 13 + i - q * 13 = i by omega]
      by_cases h2 : i ≤ e
      · rw [if_pos h2, if_pos (by omega)]
      · rw [if_neg h2, if_neg (by omega)]
    · rw [if_neg hi, if_neg (by omega)]
  · rw [if_neg h]
    by_cases hi : i < 13
    · rw [if_pos hi, if_pos hi, if_neg (by omega)]
    · rw [if_neg hi, if_neg hi]
theorem mat_tr {P Q : PS} {d e rows t j : Nat} (hr : rows ≤ 37) (ht : t < rows) : mat P Q d (d + e + 1) t j = mat (ps_tr P 40) (ps_tr Q 40) d (d + e + 1) t j := by
  unfold mat ps_tr
  (repeat' split) <;> first | rfl | omega
theorem sat_tr {P Q : PS} {d e rows n : Nat} {u : Nat → FF} (hr : rows ≤ 37) : sat (mat P Q d (d + e + 1)) rows n u ↔ sat (mat (ps_tr P 40) (ps_tr Q 40) d (d + e + 1)) rows n u := by
  constructor
  · intro h r hr'
    have := h r hr'
    rw [mat_tr hr hr'] at this
    rw [← this]
    exact fsum_cg (fun j _ => by rw [← mat_tr hr hr'])
  · intro h r hr'
    have := h r hr'
    rw [← mat_tr hr hr'] at this
    rw [← this]
    exact fsum_cg (fun j _ => by rw [mat_tr hr hr'])
set_option maxHeartbeats 4000000 in
/-- form -/
theorem m_form (E : zE) (l : Launch) (sz : Nat) (M : zM) {m : Nat} {xln : Nat → Nat} {xlen : Nat} {xlab : Nat} {xbad : Int32} {xlev : Nat} {xtr : Int32} {xwa : Nat} {xpl : Nat} {xfo : Nat} {xsf : Nat → Nat} {xbf : Nat → Nat} {xF : Nat → FF} {xG : Nat → FF} {xP : Nat → FF} {xQ : Nat → FF} {xmm : Nat → FF} {xsl : Nat → Nat} {xkd : Nat → Nat} {xhs : Nat → Nat} {xht : Nat → Nat} {xsg : Nat → Nat} {xdv : Nat → Nat} (H : mw E M m xln xlen xlab xbad xlev xtr xwa xpl xfo xsf xbf xF xG xP xQ xmm xsl xkd xhs xht xsg xdv) (t : Nat) (ht : t < 78) (htr : xtr = 0) (hN : ∀ i, 25 ≤ i → (ps_tr xP 40) i = 0) (hD : ∀ i, 25 ≤ i → (ps_tr xQ 40) i = 0) (hDn : ∃ i, (ps_tr xQ 40) i ≠ 0) : zMet E l y_M_form c_M_form 7 none { frames := 3, cells := 0, slots := 0, locals := 77 } 0 0 [.ref m, .int (nI t)] sz M (oP E M sz m xln xlen xlab xbad xlev xtr xwa xpl xfo xsf xbf xF xG xP xQ xmm xsl xkd xhs xht xsg xdv (fun q => q ≠ t) t (setl (ps_tr xP 40) (ps_tr xQ 40))) := by
  obtain ⟨iD, hiD⟩ := hDn
  refine zMet.ofZ (by decide) (Nat.le_of_ble_eq_true rfl) ?_
  intro X hl hini C
  have big : ∀ a b : Nat, dg (ps_tr xP 40) a → dg (ps_tr xQ 40) b → a ≤ 24 → b ≤ 24 → Z X E 7 (zQ X E 0 0 (oP E M sz m xln xlen xlab xbad xlev xtr xwa xpl xfo xsf xbf xF xG xP xQ xmm xsl xkd xhs xht xsg xdv (fun q => q ≠ t) t (setl (ps_tr xP 40) (ps_tr xQ 40)))) 0 0 sz M 23 [(0, .ref m), (1, .int (nI t)), (2, .int (nI a)), (3, .int (nI b))] [] := by
    intro a b hda hdb ha24 hb24
    obtain ⟨n0, d0, hf⟩ := form_ex (dg_pol hda) (dg_pol hdb) hdb.1
    obtain ⟨-, -, -, w, hw, -⟩ := id hf.1
    obtain ⟨w1, w2, w3⟩ := fs_deg hf hda hdb hw
    have hw1 : d0 w = 1 := by
      obtain ⟨-, -, -, k9, hk9, hk91⟩ := hf.1
      rw [dg_un hw hk9]; exact hk91
    have hf5 : ps_mul d0 (ps_tr xP 40) = ps_mul n0 (ps_tr xQ 40) := by
      have h55 := hf.2
      letI := ps_ring
      have t5 : (ps_tr xP 40) * d0 = n0 * (ps_tr xQ 40) := h55
      show d0 * (ps_tr xP 40) = n0 * (ps_tr xQ 40)
      grind
    have fin_yes : ∀ (d e : Nat) (mm2 : Nat → FF) (sl2 : Nat → Nat) (M2 : zM), d ≤ 12 → e ≤ 12 → d = w → (∀ j, j < d + e + 1 → sl2 j ≤ a + d + 1) → Dof d (fun j => if sl2 j = 0 then 0 else mm2 ((sl2 j - 1) * 26 + (d + e + 1))) = d0 → Nof d e (fun j => if sl2 j = 0 then 0 else mm2 ((sl2 j - 1) * 26 + (d + e + 1))) = n0 → mw E M2 m xln xlen xlab xbad xlev xtr xwa xpl xfo xsf xbf xF xG xP xQ mm2 sl2 xkd xhs xht xsg xdv → zoutR M M2 m (m + 15) → Z X E 7 (zQ X E 0 0 (oP E M sz m xln xlen xlab xbad xlev xtr xwa xpl xfo xsf xbf xF xG xP xQ xmm xsl xkd xhs xht xsg xdv (fun q => q ≠ t) t (setl (ps_tr xP 40) (ps_tr xQ 40)))) 0 0 sz M2 77 [(0, .ref m), (1, .int (nI t)), (2, .int (nI a)), (3, .int (nI b)), (4, .int (nI d)), (5, .int (nI e))] [.int (nI 1)] := by
      intro d e mm2 sl2 M2 hd he hdw hsl g3 g4 H2 hz2
      have hse : setl (ps_tr xP 40) (ps_tr xQ 40) = .inr (n0, d0) := setl_ok (x := (n0, d0)) hdb.1 hf (by
        rintro (⟨i, hi, q⟩ | ⟨i, hi, q⟩)
        · refine q ?_
          rw [← g4]; exact if_neg (by omega)
        · exact q (hw.2 i (by omega)))
      have lpn : ∀ (q j : Nat) (M3 : zM), j + q = e + 1 → mw E M3 m xln xlen xlab xbad xlev xtr xwa xpl xfo xsf xbf (nuF xF t d (fun j => if sl2 j = 0 then 0 else mm2 ((sl2 j - 1) * 26 + (d + e + 1))) j) (dnF xG t d (fun j => if sl2 j = 0 then 0 else mm2 ((sl2 j - 1) * 26 + (d + e + 1))) d) xP xQ mm2 sl2 xkd xhs xht xsg xdv → zoutR M M3 m (m + 15) → Z X E 7 (zQ X E 0 0 (oP E M sz m xln xlen xlab xbad xlev xtr xwa xpl xfo xsf xbf xF xG xP xQ xmm xsl xkd xhs xht xsg xdv (fun q => q ≠ t) t (setl (ps_tr xP 40) (ps_tr xQ 40)))) 0 0 sz M3 153 [(0, .ref m), (1, .int (nI t)), (2, .int (nI a)), (3, .int (nI b)), (4, .int (nI d)), (5, .int (nI e)), (6, .int (nI j))] [] := by
        intro q
        induction q with
        | zero =>
          intro j M3 hj H3 hz3
          have hj : j = e + 1 := by omega
          subst hj
          refine z_iload C d_M_form_153 rfl ?_
          refine z_iload C d_M_form_155 rfl ?_
          refine z_icmp_gt (tgt := 194) C d_M_form_157 (by decide) (fun _ => ?_) (fun c_157 => absurd ((nI_ltI (a := e) (b := e + 1) (by omega) (by omega)).mpr (by omega)) c_157)
          refine z_vret C ⟨rfl, rfl, hz3, xtr, _, _, xP, xQ, mm2, sl2, H3, ?_⟩ d_M_form_194
          rw [hse]
          refine ⟨fun q hq => ⟨?_, ?_⟩, htr, ?_, ?_⟩
          · rw [pg_nu (by omega), if_neg hq]
          · rw [pg_dn (by omega), if_neg hq]
          · rw [pg_nu (by omega), if_pos rfl]; exact g4
          · rw [pg_dn (by omega), if_pos rfl]; exact g3
        | succ q ih =>
          intro j M3 hj H3 hz3
          refine z_iload C d_M_form_153 rfl ?_
          refine z_iload C d_M_form_155 rfl ?_
          refine z_icmp_gt (tgt := 194) C d_M_form_157 (by decide) (fun c_157 => absurd c_157 (fun q => absurd ((nI_ltI (a := e) (b := j) (by omega) (by omega)).mp q) (by omega))) (fun _ => ?_)
          refine z_aload_n C d_M_form_160 rfl rfl ?_
          refine z_get C in_M H3.1 rfl 11 (by decide) fl_M_23 rfl rfl d_M_form_161 ?_
          refine z_iload_n C d_M_form_164 rfl rfl ?_
          refine z_bipush (v := nI 13) C d_M_form_165 (by decide) ?_
          refine z_imul C d_M_form_167 ?_
          refine z_top (y := nI (t * 13)) (pk_mul _ _) ?_
          refine z_iload C d_M_form_168 rfl ?_
          refine z_iadd C d_M_form_170 ?_
          refine z_top (y := nI ((t * 13) + j)) (nI_add _ _) ?_
          refine z_aload_n C d_M_form_171 rfl rfl ?_
          refine z_iload C d_M_form_172 rfl ?_
          refine z_iload C d_M_form_174 rfl ?_
          refine z_iadd C d_M_form_176 ?_
          refine z_top (y := nI (d + j)) (nI_add _ _) ?_
          refine z_iload C d_M_form_177 rfl ?_
          refine z_iload C d_M_form_179 rfl ?_
          refine z_iadd C d_M_form_181 ?_
          refine z_top (y := nI (d + e)) (nI_add _ _) ?_
          refine z_iconst (v := nI 1) C d_M_form_182 (by decide) ?_
          refine z_iadd C d_M_form_183 ?_
          refine z_top (y := nI ((d + e) + 1)) (nI_add _ _) ?_
          refine z_callV (rest := [.int (nI ((t * 13) + j)), .ref (m + 4)]) (n := 2) (As := [.int (nI (d + j)), .int (nI ((d + e) + 1))]) C (m_unknown E X.2.1 sz _ H3 (d + j) (d + e + 1) (by omega) (by omega) (by have := hsl (d + j) (by omega); omega)) ⟨z_cb C k_M_unknown ml_M_116 ii_M rfl rfl (by decide +kernel) ⟨by decide, by decide⟩, C.2.2.2.2.1 _ im_M_unknown, C.2.2.2.2.1 _ se_M_unknown⟩ H3.1 rfl rfl rfl (Nat.le_of_ble_eq_true rfl) d_M_form_184 ⟨by decide, by decide⟩ ?_
          intro v_184 s_184 M_184 hp_184
          obtain ⟨rfl, rfl, rfl⟩ := hp_184
          show Z _ _ _ _ _ _ _ _ 187 _ [.int (fI ((fun j => if sl2 j = 0 then 0 else mm2 ((sl2 j - 1) * 26 + (d + e + 1))) (d + j))), .int (nI ((t * 13) + j)), .ref (m + 4)]
          refine z_iast C H3.2.2.2.2.1 0 rfl ((t * 13) + j) (rfl) (by omega) (by omega) d_M_form_187 ?_
          refine z_world (M' := zU M3 (m + 4) (.inl (E.2.1 0, 1014, .inl (fun z_ => fI ((updF (nuF xF t d (fun j => if sl2 j = 0 then 0 else mm2 ((sl2 j - 1) * 26 + (d + e + 1))) j) ((t * 13) + j) ((fun j => if sl2 j = 0 then 0 else mm2 ((sl2 j - 1) * 26 + (d + e + 1))) (d + j))) z_))))) (congrArg (fun e => zU M3 (m + 4) (.inl (E.2.1 0, 1014, .inl e))) fI_upd) ?_
          refine z_iinc (v := nI (j + 1)) (L' := [(0, .ref m), (1, .int (nI t)), (2, .int (nI a)), (3, .int (nI b)), (4, .int (nI d)), (5, .int (nI e)), (6, .int (nI (j + 1)))]) C d_M_form_188 rfl (nI_add _ 1) (by decide) rfl ?_
          refine z_goto (tgt := 153) C d_M_form_191 (by decide) ?_
          refine ih (j + 1) _ (by omega) ?_ (zoutR_tr hz3 (zo_u (by omega) (by omega)))
          rw [← nuF_s (by omega)]
          exact (mw_a4 H3 (updF (nuF xF t d (fun j => if sl2 j = 0 then 0 else mm2 ((sl2 j - 1) * 26 + (d + e + 1))) j) ((t * 13) + j) ((fun j => if sl2 j = 0 then 0 else mm2 ((sl2 j - 1) * 26 + (d + e + 1))) (d + j))))
      have lpd : ∀ (q j : Nat) (M3 : zM), j + q = d → mw E M3 m xln xlen xlab xbad xlev xtr xwa xpl xfo xsf xbf (nuF xF t d (fun j => if sl2 j = 0 then 0 else mm2 ((sl2 j - 1) * 26 + (d + e + 1))) 0) (dnF xG t d (fun j => if sl2 j = 0 then 0 else mm2 ((sl2 j - 1) * 26 + (d + e + 1))) j) xP xQ mm2 sl2 xkd xhs xht xsg xdv → zoutR M M3 m (m + 15) → Z X E 7 (zQ X E 0 0 (oP E M sz m xln xlen xlab xbad xlev xtr xwa xpl xfo xsf xbf xF xG xP xQ xmm xsl xkd xhs xht xsg xdv (fun q => q ≠ t) t (setl (ps_tr xP 40) (ps_tr xQ 40)))) 0 0 sz M3 112 [(0, .ref m), (1, .int (nI t)), (2, .int (nI a)), (3, .int (nI b)), (4, .int (nI d)), (5, .int (nI e)), (6, .int (nI j))] [] := by
        intro q
        induction q with
        | zero =>
          intro j M3 hj H3 hz3
          have hj : d = j := by omega
          subst hj
          refine z_iload C d_M_form_112 rfl ?_
          refine z_iload C d_M_form_114 rfl ?_
          refine z_icmp_ge (tgt := 150) C d_M_form_116 (by decide) (fun _ => ?_) (fun c_116 => absurd (Int32.le_refl _) c_116)
          refine z_iconst (v := nI 0) C d_M_form_150 (by decide) ?_
          refine z_istore (L' := [(0, .ref m), (1, .int (nI t)), (2, .int (nI a)), (3, .int (nI b)), (4, .int (nI d)), (5, .int (nI e)), (6, .int (nI 0))]) C d_M_form_151 (by decide) rfl ?_
          exact lpn (e + 1) 0 M3 (by omega) H3 hz3
        | succ q ih =>
          intro j M3 hj H3 hz3
          refine z_iload C d_M_form_112 rfl ?_
          refine z_iload C d_M_form_114 rfl ?_
          refine z_icmp_ge (tgt := 150) C d_M_form_116 (by decide) (fun c_116 => absurd c_116 (fun q => absurd ((nI_leI (a := d) (b := j) (by omega) (by omega)).mp q) (by omega))) (fun _ => ?_)
          refine z_aload_n C d_M_form_119 rfl rfl ?_
          refine z_get C in_M H3.1 rfl 12 (by decide) fl_M_26 rfl rfl d_M_form_120 ?_
          refine z_iload_n C d_M_form_123 rfl rfl ?_
          refine z_bipush (v := nI 13) C d_M_form_124 (by decide) ?_
          refine z_imul C d_M_form_126 ?_
          refine z_top (y := nI (t * 13)) (pk_mul _ _) ?_
          refine z_iload C d_M_form_127 rfl ?_
          refine z_iadd C d_M_form_129 ?_
          refine z_top (y := nI ((t * 13) + j)) (nI_add _ _) ?_
          refine z_aload_n C d_M_form_130 rfl rfl ?_
          refine z_iload C d_M_form_131 rfl ?_
          refine z_iload C d_M_form_133 rfl ?_
          refine z_iload C d_M_form_135 rfl ?_
          refine z_iadd C d_M_form_137 ?_
          refine z_top (y := nI (d + e)) (nI_add _ _) ?_
          refine z_iconst (v := nI 1) C d_M_form_138 (by decide) ?_
          refine z_iadd C d_M_form_139 ?_
          refine z_top (y := nI ((d + e) + 1)) (nI_add _ _) ?_
          refine z_callV (rest := [.int (nI ((t * 13) + j)), .ref (m + 5)]) (n := 2) (As := [.int (nI j), .int (nI ((d + e) + 1))]) C (m_unknown E X.2.1 sz _ H3 (j) (d + e + 1) (by omega) (by omega) (by have := hsl (j) (by omega); omega)) ⟨z_cb C k_M_unknown ml_M_116 ii_M rfl rfl (by decide +kernel) ⟨by decide, by decide⟩, C.2.2.2.2.1 _ im_M_unknown, C.2.2.2.2.1 _ se_M_unknown⟩ H3.1 rfl rfl rfl (Nat.le_of_ble_eq_true rfl) d_M_form_140 ⟨by decide, by decide⟩ ?_
          intro v_140 s_140 M_140 hp_140
          obtain ⟨rfl, rfl, rfl⟩ := hp_140
          show Z _ _ _ _ _ _ _ _ 143 _ [.int (fI ((fun j => if sl2 j = 0 then 0 else mm2 ((sl2 j - 1) * 26 + (d + e + 1))) (j))), .int (nI ((t * 13) + j)), .ref (m + 5)]
          refine z_iast C H3.2.2.2.2.2.1 0 rfl ((t * 13) + j) (rfl) (by omega) (by omega) d_M_form_143 ?_
          refine z_world (M' := zU M3 (m + 5) (.inl (E.2.1 0, 1014, .inl (fun z_ => fI ((updF (dnF xG t d (fun j => if sl2 j = 0 then 0 else mm2 ((sl2 j - 1) * 26 + (d + e + 1))) j) ((t * 13) + j) ((fun j => if sl2 j = 0 then 0 else mm2 ((sl2 j - 1) * 26 + (d + e + 1))) (j))) z_))))) (congrArg (fun e => zU M3 (m + 5) (.inl (E.2.1 0, 1014, .inl e))) fI_upd) ?_
          refine z_iinc (v := nI (j + 1)) (L' := [(0, .ref m), (1, .int (nI t)), (2, .int (nI a)), (3, .int (nI b)), (4, .int (nI d)), (5, .int (nI e)), (6, .int (nI (j + 1)))]) C d_M_form_144 rfl (nI_add _ 1) (by decide) rfl ?_
          refine z_goto (tgt := 112) C d_M_form_147 (by decide) ?_
          refine ih (j + 1) _ (by omega) ?_ (zoutR_tr hz3 (zo_u (by omega) (by omega)))
          rw [← dnF_s (show j < d by omega) (by omega)]
          exact (mw_a5 H3 (updF (dnF xG t d (fun j => if sl2 j = 0 then 0 else mm2 ((sl2 j - 1) * 26 + (d + e + 1))) j) ((t * 13) + j) ((fun j => if sl2 j = 0 then 0 else mm2 ((sl2 j - 1) * 26 + (d + e + 1))) (j))))
      refine z_if_eq (tgt := 195) C d_M_form_77 (by decide) (fun c_77 => absurd c_77 (by decide)) (fun _ => ?_)
      refine z_aload_n C d_M_form_80 rfl rfl ?_
      refine z_iload_n C d_M_form_81 rfl rfl ?_
      refine z_iconst (v := fI 0) C d_M_form_82 (by decide) ?_
      refine z_callV (rest := []) (n := 2) (As := [.int (nI t), .int (fI 0)]) C (m_constant E X.2.1 sz _ H2 t (by omega) 0) ⟨z_cb C k_M_constant ml_M_108 ii_M rfl rfl (by decide +kernel) ⟨by decide, by decide⟩, C.2.2.2.2.1 _ im_M_constant, C.2.2.2.2.1 _ se_M_constant⟩ H2.1 rfl rfl rfl (Nat.le_of_ble_eq_true rfl) d_M_form_83 ⟨by decide, by decide⟩ ?_
      intro v_83 s_83 M_83 hp_83
      obtain ⟨rfl, rfl, ho_83, H_83⟩ := hp_83
      have hz_83 : zoutR M M_83 m (m + 15) := zoutR_tr hz2 ho_83
      show Z _ _ _ _ _ _ _ _ 86 _ []
      refine z_aload_n C d_M_form_86 rfl rfl ?_
      refine z_get C in_M H_83.1 rfl 12 (by decide) fl_M_26 rfl rfl d_M_form_87 ?_
      refine z_iload_n C d_M_form_90 rfl rfl ?_
      refine z_bipush (v := nI 13) C d_M_form_91 (by decide) ?_
      refine z_imul C d_M_form_93 ?_
      refine z_top (y := nI (t * 13)) (pk_mul _ _) ?_
      refine z_iconst (v := fI 0) C d_M_form_94 (by decide) ?_
      refine z_iast C H_83.2.2.2.2.2.1 0 rfl (t * 13) (rfl) (by omega) (by omega) d_M_form_95 ?_
      refine z_world (M' := zU M_83 (m + 5) (.inl (E.2.1 0, 1014, .inl (fun z_ => fI ((updF (coF xG t 1 13) (t * 13) 0) z_))))) (congrArg (fun e => zU M_83 (m + 5) (.inl (E.2.1 0, 1014, .inl e))) fI_upd) ?_
      refine z_aload_n C d_M_form_96 rfl rfl ?_
      refine z_get C in_M ((zU_ne (by omega)).trans H_83.1) rfl 12 (by decide) fl_M_26 rfl rfl d_M_form_97 ?_
      refine z_iload_n C d_M_form_100 rfl rfl ?_
      refine z_bipush (v := nI 13) C d_M_form_101 (by decide) ?_
      refine z_imul C d_M_form_103 ?_
      refine z_top (y := nI (t * 13)) (pk_mul _ _) ?_
      refine z_iload C d_M_form_104 rfl ?_
      refine z_iadd C d_M_form_106 ?_
      refine z_top (y := nI ((t * 13) + d)) (nI_add _ _) ?_
      refine z_iconst (v := fI 1) C d_M_form_107 (by decide) ?_
      refine z_iast C zU_eq 0 rfl ((t * 13) + d) (rfl) (by omega) (by omega) d_M_form_108 ?_
      refine z_world (M' := zU (zU M_83 (m + 5) (.inl (E.2.1 0, 1014, .inl (fun z_ => fI ((updF (coF xG t 1 13) (t * 13) 0) z_))))) (m + 5) (.inl (E.2.1 0, 1014, .inl (fun z_ => fI ((updF (updF (coF xG t 1 13) (t * 13) 0) ((t * 13) + d) 1) z_))))) (congrArg (fun e => zU (zU M_83 (m + 5) (.inl (E.2.1 0, 1014, .inl (fun z_ => fI ((updF (coF xG t 1 13) (t * 13) 0) z_))))) (m + 5) (.inl (E.2.1 0, 1014, .inl e))) fI_upd) ?_
      refine z_world zU_uu ?_
      refine z_iconst (v := nI 0) C d_M_form_109 (by decide) ?_
      refine z_istore (L' := [(0, .ref m), (1, .int (nI t)), (2, .int (nI a)), (3, .int (nI b)), (4, .int (nI d)), (5, .int (nI e)), (6, .int (nI 0))]) C d_M_form_110 (by decide) rfl ?_
      refine lpd d 0 _ (by omega) ?_ (zoutR_tr hz_83 (zo_u (by omega) (by omega)))
      rw [← dnF_0 (by omega), ← nuF_0]
      exact (mw_a5 H_83 (updF (updF (coF xG t 1 13) (t * 13) 0) ((t * 13) + d) 1))
    have zero_ : ∀ (d : Nat) (mm1 : Nat → FF) (sl1 : Nat → Nat) (M1 : zM), d = 14 → d ≤ w → mw E M1 m xln xlen xlab xbad xlev xtr xwa xpl xfo xsf xbf xF xG xP xQ mm1 sl1 xkd xhs xht xsg xdv → zoutR M M1 m (m + 15) → Z X E 7 (zQ X E 0 0 (oP E M sz m xln xlen xlab xbad xlev xtr xwa xpl xfo xsf xbf xF xG xP xQ xmm xsl xkd xhs xht xsg xdv (fun q => q ≠ t) t (setl (ps_tr xP 40) (ps_tr xQ 40)))) 0 0 sz M1 26 [(0, .ref m), (1, .int (nI t)), (2, .int (nI a)), (3, .int (nI b)), (4, .int (nI d))] [] := by
      intro d mm1 sl1 M1 hq hdw H1 hz1
      refine z_iload C d_M_form_26 rfl ?_
      refine z_bipush (v := nI 12) C d_M_form_28 (by decide) ?_
      refine z_icmp_gt (tgt := 201) C d_M_form_30 (by decide) (fun _ => ?_) (fun c_30 => absurd ((nI_ltI (a := 12) (b := d) (by omega) (by omega)).mpr (by omega)) c_30)
      refine z_aload_n C d_M_form_201 rfl rfl ?_
      refine z_bipush (v := -6) C d_M_form_202 (by decide) ?_
      refine z_put C in_M ty_M tok_M nm_M H1.1 rfl 5 (by decide) fl_M_119 rfl rfl rfl (rfl) (rfl) (Nat.le_of_ble_eq_true rfl) d_M_form_204 ?_
      show Z _ _ _ _ _ _ _ (zU M1 m (.inr (10, [.ref (m + 1), .int (nI xlen), .int (nI xlab), .int xbad, .int (nI xlev), .int (-6), .int (nI xwa), .int (nI xpl), .int (nI xfo), .ref (m + 2), .ref (m + 3), .ref (m + 4), .ref (m + 5), .ref (m + 6), .ref (m + 7), .ref (m + 8), .ref (m + 9), .ref (m + 10), .ref (m + 11), .ref (m + 12), .ref (m + 13), .ref (m + 14)]))) _ _ _
      have hs : setl (ps_tr xP 40) (ps_tr xQ 40) = .inl (-6) := setl_big (x := (n0, d0)) hdb.1 hf (by
        rcases Nat.lt_or_ge 12 w with g | g
        · exact Or.inr ⟨w, g, hw.1⟩
        · exact Or.inl ⟨a + w - b, by omega, w3.1⟩)
      refine z_vret C ⟨rfl, rfl, (zoutR_tr hz1 (zo_u (by omega) (by omega))), -6, xF, xG, xP, xQ, mm1, sl1, (mw_o H1 xlen xlab xbad xlev (-6) xwa xpl xfo), ?_⟩ d_M_form_207
      rw [hs]
      exact ⟨fun q _ => ⟨rfl, rfl⟩, rfl⟩
    have loop : ∀ (q d : Nat) (mm1 : Nat → FF) (sl1 : Nat → Nat) (M1 : zM), d + q = 14 → d ≤ w → mw E M1 m xln xlen xlab xbad xlev xtr xwa xpl xfo xsf xbf xF xG xP xQ mm1 sl1 xkd xhs xht xsg xdv → zoutR M M1 m (m + 15) → Z X E 7 (zQ X E 0 0 (oP E M sz m xln xlen xlab xbad xlev xtr xwa xpl xfo xsf xbf xF xG xP xQ xmm xsl xkd xhs xht xsg xdv (fun q => q ≠ t) t (setl (ps_tr xP 40) (ps_tr xQ 40)))) 0 0 sz M1 26 [(0, .ref m), (1, .int (nI t)), (2, .int (nI a)), (3, .int (nI b)), (4, .int (nI d))] [] := by
      intro q
      induction q with
      | zero => intro d mm1 sl1 M1 hq hdw H1 hz1; exact zero_ d mm1 sl1 M1 (by omega) hdw H1 hz1
      | succ q ih =>
        intro d mm1 sl1 M1 hq hdw H1 hz1
        obtain ⟨zz, hzz⟩ : ∃ zz, zz = nI (a + d) - nI b := ⟨_, rfl⟩
        have hzi : zz.toInt = (a : Int) + d - b := by rw [hzz, nI_subi (by omega) (by omega)]; omega
        refine z_iload C d_M_form_26 rfl ?_
        refine z_bipush (v := nI 12) C d_M_form_28 (by decide) ?_
        refine z_icmp_gt (tgt := 201) C d_M_form_30 (by decide) (fun c_30 => ?_) (fun c_30 => ?_)
        · have c_30 : 12 < d := (nI_ltI (a := 12) (b := d) (by omega) (by omega)).mp c_30
          refine z_aload_n C d_M_form_201 rfl rfl ?_
          refine z_bipush (v := -6) C d_M_form_202 (by decide) ?_
          refine z_put C in_M ty_M tok_M nm_M H1.1 rfl 5 (by decide) fl_M_119 rfl rfl rfl (rfl) (rfl) (Nat.le_of_ble_eq_true rfl) d_M_form_204 ?_
          show Z _ _ _ _ _ _ _ (zU M1 m (.inr (10, [.ref (m + 1), .int (nI xlen), .int (nI xlab), .int xbad, .int (nI xlev), .int (-6), .int (nI xwa), .int (nI xpl), .int (nI xfo), .ref (m + 2), .ref (m + 3), .ref (m + 4), .ref (m + 5), .ref (m + 6), .ref (m + 7), .ref (m + 8), .ref (m + 9), .ref (m + 10), .ref (m + 11), .ref (m + 12), .ref (m + 13), .ref (m + 14)]))) _ _ _
          have hs : setl (ps_tr xP 40) (ps_tr xQ 40) = .inl (-6) := setl_big (x := (n0, d0)) hdb.1 hf (by
            rcases Nat.lt_or_ge 12 w with g | g
            · exact Or.inr ⟨w, g, hw.1⟩
            · exact Or.inl ⟨a + w - b, by omega, w3.1⟩)
          refine z_vret C ⟨rfl, rfl, (zoutR_tr hz1 (zo_u (by omega) (by omega))), -6, xF, xG, xP, xQ, mm1, sl1, (mw_o H1 xlen xlab xbad xlev (-6) xwa xpl xfo), ?_⟩ d_M_form_207
          rw [hs]
          exact ⟨fun q _ => ⟨rfl, rfl⟩, rfl⟩
        · have c_30 : d ≤ 12 := Nat.not_lt.mp (fun q => c_30 ((nI_ltI (a := 12) (b := d) (by omega) (by omega)).mpr q))
          refine z_iload C d_M_form_33 rfl ?_
          refine z_iload_n C d_M_form_35 rfl rfl ?_
          refine z_icmp_gt (tgt := 201) C d_M_form_36 (by decide) (fun c_36 => ?_) (fun c_36 => ?_)
          · have c_36 : b < d := (nI_ltI (a := b) (b := d) (by omega) (by omega)).mp c_36
            refine z_aload_n C d_M_form_201 rfl rfl ?_
            refine z_bipush (v := -6) C d_M_form_202 (by decide) ?_
            refine z_put C in_M ty_M tok_M nm_M H1.1 rfl 5 (by decide) fl_M_119 rfl rfl rfl (rfl) (rfl) (Nat.le_of_ble_eq_true rfl) d_M_form_204 ?_
            show Z _ _ _ _ _ _ _ (zU M1 m (.inr (10, [.ref (m + 1), .int (nI xlen), .int (nI xlab), .int xbad, .int (nI xlev), .int (-6), .int (nI xwa), .int (nI xpl), .int (nI xfo), .ref (m + 2), .ref (m + 3), .ref (m + 4), .ref (m + 5), .ref (m + 6), .ref (m + 7), .ref (m + 8), .ref (m + 9), .ref (m + 10), .ref (m + 11), .ref (m + 12), .ref (m + 13), .ref (m + 14)]))) _ _ _
            have hs : setl (ps_tr xP 40) (ps_tr xQ 40) = .inl (-6) := setl_big (x := (n0, d0)) hdb.1 hf (by
              rcases Nat.lt_or_ge 12 w with g | g
              · exact Or.inr ⟨w, g, hw.1⟩
              · exact Or.inl ⟨a + w - b, by omega, w3.1⟩)
            refine z_vret C ⟨rfl, rfl, (zoutR_tr hz1 (zo_u (by omega) (by omega))), -6, xF, xG, xP, xQ, mm1, sl1, (mw_o H1 xlen xlab xbad xlev (-6) xwa xpl xfo), ?_⟩ d_M_form_207
            rw [hs]
            exact ⟨fun q _ => ⟨rfl, rfl⟩, rfl⟩
          · have c_36 : d ≤ b := Nat.not_lt.mp (fun q => c_36 ((nI_ltI (a := b) (b := d) (by omega) (by omega)).mpr q))
            refine z_iload_n C d_M_form_39 rfl rfl ?_
            refine z_iload C d_M_form_40 rfl ?_
            refine z_iadd C d_M_form_42 ?_
            refine z_top (y := nI (a + d)) (nI_add _ _) ?_
            refine z_iload_n C d_M_form_43 rfl rfl ?_
            refine z_isub C d_M_form_44 ?_
            refine z_top (y := zz) (hzz.symm) ?_
            refine z_bipush (v := nI 12) C d_M_form_45 (by decide) ?_
            refine z_icmp_gt (tgt := 201) C d_M_form_47 (by decide) (fun c_47 => ?_) (fun c_47 => ?_)
            · have c_47 : ((12 : Nat) : Int) < zz.toInt := (xi_gt (x := zz) (k := 12) (by omega)).mp c_47
              refine z_aload_n C d_M_form_201 rfl rfl ?_
              refine z_bipush (v := -6) C d_M_form_202 (by decide) ?_
              refine z_put C in_M ty_M tok_M nm_M H1.1 rfl 5 (by decide) fl_M_119 rfl rfl rfl (rfl) (rfl) (Nat.le_of_ble_eq_true rfl) d_M_form_204 ?_
              show Z _ _ _ _ _ _ _ (zU M1 m (.inr (10, [.ref (m + 1), .int (nI xlen), .int (nI xlab), .int xbad, .int (nI xlev), .int (-6), .int (nI xwa), .int (nI xpl), .int (nI xfo), .ref (m + 2), .ref (m + 3), .ref (m + 4), .ref (m + 5), .ref (m + 6), .ref (m + 7), .ref (m + 8), .ref (m + 9), .ref (m + 10), .ref (m + 11), .ref (m + 12), .ref (m + 13), .ref (m + 14)]))) _ _ _
              have hs : setl (ps_tr xP 40) (ps_tr xQ 40) = .inl (-6) := setl_big (x := (n0, d0)) hdb.1 hf (by
                rcases Nat.lt_or_ge 12 w with g | g
                · exact Or.inr ⟨w, g, hw.1⟩
                · exact Or.inl ⟨a + w - b, by omega, w3.1⟩)
              refine z_vret C ⟨rfl, rfl, (zoutR_tr hz1 (zo_u (by omega) (by omega))), -6, xF, xG, xP, xQ, mm1, sl1, (mw_o H1 xlen xlab xbad xlev (-6) xwa xpl xfo), ?_⟩ d_M_form_207
              rw [hs]
              exact ⟨fun q _ => ⟨rfl, rfl⟩, rfl⟩
            · have c_47 : ¬ ((12 : Nat) : Int) < zz.toInt := fun q => c_47 ((xi_gt (x := zz) (k := 12) (by omega)).mpr q)
              refine z_iload_n C d_M_form_50 rfl rfl ?_
              refine z_iload C d_M_form_51 rfl ?_
              refine z_iadd C d_M_form_53 ?_
              refine z_top (y := nI (a + d)) (nI_add _ _) ?_
              refine z_iload_n C d_M_form_54 rfl rfl ?_
              refine z_isub C d_M_form_55 ?_
              refine z_top (y := zz) (hzz.symm) ?_
              refine z_istore (L' := [(0, .ref m), (1, .int (nI t)), (2, .int (nI a)), (3, .int (nI b)), (4, .int (nI d)), (5, .int zz)]) C d_M_form_56 (by decide) rfl ?_
              refine z_iload C d_M_form_58 rfl ?_
              refine z_if_lt (tgt := 195) C d_M_form_60 (by decide) (fun c_60 => ?_) (fun c_60 => ?_)
              · have c_60 : zz.toInt < ((0 : Nat) : Int) := (xi_lt (x := zz) (k := 0) (by omega)).mp c_60
                refine z_iinc (v := nI (d + 1)) (L' := [(0, .ref m), (1, .int (nI t)), (2, .int (nI a)), (3, .int (nI b)), (4, .int (nI (d + 1))), (5, .int zz)]) C d_M_form_195 rfl (nI_add _ 1) (by decide) rfl ?_
                refine z_goto (tgt := 26) C d_M_form_198 (by decide) ?_
                refine z_sub [0, 1, 2, 3, 4] rfl ?_
                exact ih (d + 1) mm1 sl1 _ (by omega) (by omega) H1 hz1
              · have c_60 : ¬ zz.toInt < ((0 : Nat) : Int) := fun q => c_60 ((xi_lt (x := zz) (k := 0) (by omega)).mpr q)
                have ez : zz = nI (a + d - b) := by
                  rw [xi_eq (by omega), hzi]; omega
                rw [ez]
                refine z_aload_n C d_M_form_63 rfl rfl ?_
                refine z_iload C d_M_form_64 rfl ?_
                refine z_iload C d_M_form_66 rfl ?_
                refine z_iload_n C d_M_form_68 rfl rfl ?_
                refine z_iload C d_M_form_69 rfl ?_
                refine z_iadd C d_M_form_71 ?_
                refine z_top (y := nI (a + d)) (nI_add _ _) ?_
                refine z_iconst (v := nI 1) C d_M_form_72 (by decide) ?_
                refine z_iadd C d_M_form_73 ?_
                refine z_top (y := nI ((a + d) + 1)) (nI_add _ _) ?_
                refine z_callV (rest := []) (n := 3) (As := [.int (nI d), .int (nI (a + d - b)), .int (nI ((a + d) + 1))]) C (m_solve E X.2.1 sz _ H1 d (a + d - b) (d + (a + d - b) + 1) (a + d + 1) rfl (by omega) (by omega) (by omega)) ⟨z_cb C k_M_solve ml_M_112 ii_M rfl rfl (by decide +kernel) ⟨by decide, by decide⟩, C.2.2.2.2.1 _ im_M_solve, C.2.2.2.2.1 _ se_M_solve⟩ H1.1 rfl rfl rfl (Nat.le_of_ble_eq_true rfl) d_M_form_74 ⟨by decide, by decide⟩ ?_
                intro v_74 s_74 M_74 hp_74
                obtain ⟨rfl, ho_74, mm2, sl2, H_74, hsl, ⟨rfl, hno⟩ | ⟨rfl, hyes⟩⟩ := hp_74
                · have hnw : ¬ d = w := by
                    intro e9
                    subst e9
                    have hfs : fsol (ps_tr xP 40) (ps_tr xQ 40) d (a + d - b) d0 n0 := ⟨hw.2, hw1, w3.2, hf5⟩
                    obtain ⟨u, hu1, hu2⟩ := fs_u hfs
                    refine hno u ((sat_tr (by omega)).mpr ((sat_fs hda.2 hdb.2 (by omega)).mpr ?_))
                    rw [hu1, hu2]; exact hfs
                  show Z _ _ _ _ _ _ _ _ 77 _ [.int (nI 0)]
                  refine z_if_eq (tgt := 195) C d_M_form_77 (by decide) (fun _ => ?_) (fun c_77 => absurd (rfl) c_77)
                  refine z_iinc (v := nI (d + 1)) (L' := [(0, .ref m), (1, .int (nI t)), (2, .int (nI a)), (3, .int (nI b)), (4, .int (nI (d + 1))), (5, .int (nI (a + d - b)))]) C d_M_form_195 rfl (nI_add _ 1) (by decide) rfl ?_
                  refine z_goto (tgt := 26) C d_M_form_198 (by decide) ?_
                  refine z_sub [0, 1, 2, 3, 4] rfl ?_
                  exact ih (d + 1) mm2 sl2 _ (by omega) (by omega) H_74 (zoutR_tr hz1 ho_74)
                · have hfs := (sat_fs hda.2 hdb.2 (show (a + d - b) + b = a + d by omega)).mp ((sat_tr (by omega)).mp hyes)
                  obtain ⟨g1, g2⟩ := fs_ge hf hw hdb.1 hfs
                  have edw : d = w := by omega
                  obtain ⟨g3, g4⟩ := g2 edw
                  exact fin_yes d (a + d - b) mm2 sl2 M_74 (by omega) (by omega) (by omega) hsl g3 g4 H_74 (zoutR_tr hz1 ho_74)
    refine z_iconst (v := nI 0) C d_M_form_23 (by decide) ?_
    refine z_istore (L' := [(0, .ref m), (1, .int (nI t)), (2, .int (nI a)), (3, .int (nI b)), (4, .int (nI 0))]) C d_M_form_24 (by decide) rfl ?_
    exact loop 14 0 xmm xsl M (by omega) (by omega) H zoutR_rf
  show Z X E 7 _ 0 0 sz M 0 [(0, .ref m), (1, .int (nI t))] []
  refine z_aload_n C d_M_form_0 rfl rfl ?_
  refine z_iconst (v := nI 0) C d_M_form_1 (by decide) ?_
  refine z_callV (rest := []) (n := 1) (As := [.int (nI 0)]) C (m_topOf E X.2.1 sz _ H 0 (by decide)) ⟨z_cb C k_M_topOf ml_M_104 ii_M rfl rfl (by decide +kernel) ⟨by decide, by decide⟩, C.2.2.2.2.1 _ im_M_topOf, C.2.2.2.2.1 _ se_M_topOf⟩ H.1 rfl rfl rfl (Nat.le_of_ble_eq_true rfl) d_M_form_2 ⟨by decide, by decide⟩ ?_
  intro v_2 s_2 M_2 hp_2
  obtain ⟨k1, rfl, rfl, rfl, hk1, hlk1⟩ := hp_2
  rw [sel_0 (by decide)] at hk1
  show Z _ _ _ _ _ _ _ _ 5 _ [.int (tI k1)]
  refine z_istore_n (L' := [(0, .ref m), (1, .int (nI t)), (2, .int (tI k1))]) C d_M_form_5 rfl (by decide) rfl ?_
  refine z_aload_n C d_M_form_6 rfl rfl ?_
  refine z_iconst (v := nI 1) C d_M_form_7 (by decide) ?_
  refine z_callV (rest := []) (n := 1) (As := [.int (nI 1)]) C (m_topOf E X.2.1 sz _ H 1 (by decide)) ⟨z_cb C k_M_topOf ml_M_104 ii_M rfl rfl (by decide +kernel) ⟨by decide, by decide⟩, C.2.2.2.2.1 _ im_M_topOf, C.2.2.2.2.1 _ se_M_topOf⟩ H.1 rfl rfl rfl (Nat.le_of_ble_eq_true rfl) d_M_form_8 ⟨by decide, by decide⟩ ?_
  intro v_8 s_8 M_8 hp_8
  obtain ⟨k2, rfl, rfl, rfl, hk2, hlk2⟩ := hp_8
  rw [sel_1 (by decide)] at hk2
  show Z _ _ _ _ _ _ _ _ 11 _ [.int (tI k2)]
  refine z_istore_n (L' := [(0, .ref m), (1, .int (nI t)), (2, .int (tI k1)), (3, .int (tI k2))]) C d_M_form_11 rfl (by decide) rfl ?_
  refine z_iload_n C d_M_form_12 rfl rfl ?_
  refine z_if_ge (tgt := 23) C d_M_form_13 (by decide) (fun c_13 => ?_) (fun c_13 => ?_)
  · have c_13 : 0 < k1 := (tI_ge0 (n := k1) (by omega)).mp c_13
    have hk24 : k1 ≤ 25 := by
      obtain ⟨k9, h9, h99⟩ := isC_ex hN
      rw [isC_un hk1 h9]; exact h99
    have hk25 : k2 ≤ 25 := by
      obtain ⟨k9, h9, h99⟩ := isC_ex hD
      rw [isC_un hk2 h9]; exact h99
    have hk2p : 0 < k2 := Nat.pos_of_ne_zero (fun q => hiD (hk2.1 iD (by omega)))
    rw [tI_nI c_13, tI_nI hk2p]
    exact big (k1 - 1) (k2 - 1) ⟨hk1.2 (k1 - 1) (by omega), fun i hi => hk1.1 i (by omega)⟩ ⟨hk2.2 (k2 - 1) (by omega), fun i hi => hk2.1 i (by omega)⟩ (by omega) (by omega)
  · have c_13 : k1 = 0 := Nat.eq_zero_of_not_pos (fun q => c_13 ((tI_ge0 (n := k1) (by omega)).mpr q))
    refine z_aload_n C d_M_form_16 rfl rfl ?_
    refine z_iload_n C d_M_form_17 rfl rfl ?_
    refine z_iconst (v := fI 0) C d_M_form_18 (by decide) ?_
    refine z_callV (rest := []) (n := 2) (As := [.int (nI t), .int (fI 0)]) C (m_constant E X.2.1 sz _ H t (by omega) 0) ⟨z_cb C k_M_constant ml_M_108 ii_M rfl rfl (by decide +kernel) ⟨by decide, by decide⟩, C.2.2.2.2.1 _ im_M_constant, C.2.2.2.2.1 _ se_M_constant⟩ H.1 rfl rfl rfl (Nat.le_of_ble_eq_true rfl) d_M_form_19 ⟨by decide, by decide⟩ ?_
    intro v_19 s_19 M_19 hp_19
    obtain ⟨rfl, rfl, ho_19, H_19⟩ := hp_19
    have hz_19 : zoutR M M_19 m (m + 15) := zoutR_tr zoutR_rf ho_19
    show Z _ _ _ _ _ _ _ _ 22 _ []
    refine z_vret C ⟨rfl, rfl, hz_19, xtr, _, _, xP, xQ, xmm, xsl, H_19, ?_⟩ d_M_form_22
    have hz0 : ∀ i, (ps_tr xP 40) i = 0 := fun i => hk1.1 i (by omega)
    rw [setl_0 hiD hz0]
    exact ⟨fun q hq => ⟨by rw [pg_co, if_neg hq], by rw [pg_co, if_neg hq]⟩, htr, by rw [pg_co, if_pos rfl], by rw [pg_co, if_pos rfl]⟩
