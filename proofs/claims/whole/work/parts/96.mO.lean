/-- the reference's state, as the session's -/
def mrel (cs : List Nat) (fs : List (PS × PS)) (ss : List Nat) (nb : Nat → Nat) (sc : Nat) (bad : Int32) (xln : Nat → Nat) (xlen : Nat) (xlab : Nat) (xbad : Int32) (xsf : Nat → Nat) (xbf : Nat → Nat) (xF : Nat → FF) (xG : Nat → FF) (xkd : Nat → Nat) : Prop :=
  xlen = cs.length ∧ cs.length ≤ 32 ∧ (∀ i, i < cs.length → xln i = cs.getD i 0) ∧ (∀ i, xln i < 128) ∧ xlab = fs.length ∧ fs.length ≤ 40 ∧ (∀ (n : Nat) f, fs[n]? = some f → (pg xF (n + 1), pg xG (n + 1)) = f) ∧ (∀ (n : Nat) s, ss[n]? = some s → xsf (n + 1) = s) ∧ ss.length = fs.length ∧ (∀ j, j < 3 → xbf j = nb j ∧ nb j ≤ fs.length) ∧ xbad = bad ∧ (∀ j, xkd j < 100) ∧ (∀ f ∈ fs, okF f) ∧ mxs xsf fs.length = sc ∧ (∀ j, xsf j < 100) ∧ sc ≤ fs.length
def mst (E : zE) (M : zM) (m : Nat) : St → Prop
  | (cs, fs, ss, nb, sc, bad) => ∃ (xln : Nat → Nat) (xlen : Nat) (xlab : Nat) (xbad : Int32) (xlev : Nat) (xtr : Int32) (xwa : Nat) (xpl : Nat) (xfo : Nat) (xsf : Nat → Nat) (xbf : Nat → Nat) (xF : Nat → FF) (xG : Nat → FF) (xP : Nat → FF) (xQ : Nat → FF) (xmm : Nat → FF) (xsl : Nat → Nat) (xkd : Nat → Nat) (xhs : Nat → Nat) (xht : Nat → Nat) (xsg : Nat → Nat) (xdv : Nat → Nat), mw E M m xln xlen xlab xbad xlev xtr xwa xpl xfo xsf xbf xF xG xP xQ xmm xsl xkd xhs xht xsg xdv ∧ mrel cs fs ss nb sc bad xln xlen xlab xbad xsf xbf xF xG xkd
theorem J3_LV {fs : List (PS × PS)} {nb : Nat → Nat} {o a b : Nat → Nat} {n i k w y h : Nat} {ps : List (Nat × Int)} {t : Int32} {x : ME} (J : J3 fs nb (o, a, b, n, i, k, w, y, h, ps, t) x) : LV w o a b n x := J.1
theorem hok8 {fs : List (PS × PS)} {nb : Nat → Nat} {s : RS} {R : Nat → PS × PS} {lev : Nat} {kd hs ht sg dv : Nat → Nat} (J : J3 fs nb s (R, lev, kd, hs, ht, sg, dv)) : lev ≤ 8 := by
  obtain ⟨o, a, b, n, i, k, w, y, h, ps, t⟩ := s
  exact (LV_ok J.1).1
theorem LV_flg_J {cs : List Nat} {fs : List (PS × PS)} {nb : Nat → Nat} {m : Nat} {s : RS} {R : Nat → PS × PS} {kd hs ht sg dv : Nat → Nat} (H : gd cs m s) (J : J3 fs nb s (R, 0, kd, hs, ht, sg, dv)) : hs 0 ≤ 1 := by
  obtain ⟨o, a, b, n, i, k, w, y, h, ps, t⟩ := s
  have hw : w ≤ 1 := H.1.2.2.2.2.2.2.2.2.1
  exact ((LV_flg (by omega) J.1).1 0 (Nat.le_refl _)).1
theorem m_adv_le {cs : List Nat} {fs : List (PS × PS)} {nb : Nat → Nat} {i : Nat} {x : ME} (hi : i < cs.length) (hc : cs.length ≤ 32) : (m_adv cs fs nb i x).1 ≤ 100 := by
  have hend : ∀ j, j ≤ 33 → m_end cs j ≤ 100 := by
    intro j hj
    unfold m_end m_from
    split
    · split
      · have := (dgs_le cs 32 (j + 2)).2; omega
      · have := (dgs_le cs 32 (j + 1)).2; omega
    · omega
  have hat := atom_le (fs := fs) (nb := nb) hi
  rw [m_adv_eq]
  (repeat' split) <;> first | (simp only; omega) | (simp only; split <;> omega) | exact hend _ (by omega)
theorem m_bl_le (cs : List Nat) : ∀ (e i : Nat) (a : AS) (p : Nat), m_bl cs e i a = some p → p ≤ i + e := by
  intro e
  induction e with
  | zero =>
    intro i a p h
    simp only [m_bl] at h
    split at h
    · cases h
    · have := Option.some.inj h; omega
  | succ e ih =>
    intro i a p h
    simp only [m_bl] at h
    split at h
    · have := Option.some.inj h; omega
    · have := ih _ _ _ h; omega
set_option maxHeartbeats 4000000 in
/-- work -/
theorem m_work (E : zE) (l : Launch) (sz : Nat) (M : zM) {m : Nat} {xln : Nat → Nat} {xlen : Nat} {xlab : Nat} {xbad : Int32} {xlev : Nat} {xtr : Int32} {xwa : Nat} {xpl : Nat} {xfo : Nat} {xsf : Nat → Nat} {xbf : Nat → Nat} {xF : Nat → FF} {xG : Nat → FF} {xP : Nat → FF} {xQ : Nat → FF} {xmm : Nat → FF} {xsl : Nat → Nat} {xkd : Nat → Nat} {xhs : Nat → Nat} {xht : Nat → Nat} {xsg : Nat → Nat} {xdv : Nat → Nat} (H : mw E M m xln xlen xlab xbad xlev xtr xwa xpl xfo xsf xbf xF xG xP xQ xmm xsl xkd xhs xht xsg xdv) {cs : List Nat} {fs : List (PS × PS)} {ss : List Nat} {nb : Nat → Nat} {sc : Nat} {bad : Int32} (hr : mrel cs fs ss nb sc bad xln xlen xlab xbad xsf xbf xF xG xkd) (hlt : fs.length < 40) : zMet E l y_M_work c_M_work 6 (some .int) { frames := 9, cells := 0, slots := 0, locals := 221 } 0 0 [.ref m] sz M (fun v s M' => sz = s ∧ zoutR M M' m (m + 15) ∧ ∃ y s', some (.int y) = v ∧ entC (fun _ => 0, fun _ => 0, fun _ => 0, 0, 0, 0) (cs, fs, ss, nb, sc, bad) y s' ∧ mst E M' m (cs, s'.2)) := by
  obtain ⟨r1, r2, r3, r4, r5, r6, r7, r8, r9, r10, r11, r12, r13, r14, r15, r16⟩ := id hr
  refine zMet.ofZ (by decide) (Nat.le_of_ble_eq_true rfl) ?_
  intro X hl hini C
  have trb : (rdR cs (fun _ => 0, fun _ => 0, fun _ => 0, 0, 0, 0)).1 = -1 → ∀ (bnd i k : Nat) (lev1 : Nat) (tr1 : Int32) (F1 G1 P1 Q1 mm1 : Nat → FF) (sl1 kd1 hs1 ht1 sg1 dv1 : Nat → Nat) (M1 : zM), mw E M1 m xln xlen xlab xbad lev1 tr1 xwa xpl xfo xsf xbf F1 G1 P1 Q1 mm1 sl1 kd1 hs1 ht1 sg1 dv1 → zoutR M M1 m (m + 15) → (∀ q, q < 44 → pg F1 q = pg xF q ∧ pg G1 q = pg xG q) → (∀ j, kd1 j < 100) → ¬ tr1 = 0 → evp fs nb (rdP (rdR cs (fun _ => 0, fun _ => 0, fun _ => 0, 0, 0, 0)).2) [] = .inl tr1 → Z X E 6 (zQ X E 0 0 (fun v s M' => sz = s ∧ zoutR M M' m (m + 15) ∧ ∃ y s', some (.int y) = v ∧ entC (fun _ => 0, fun _ => 0, fun _ => 0, 0, 0, 0) (cs, fs, ss, nb, sc, bad) y s' ∧ mst E M' m (cs, s'.2))) 0 0 sz M1 104 [(0, .ref m), (1, .int (-1)), (2, .int (nI bnd)), (3, .int (nI i)), (4, .int (nI k))] [] := by
    intro hgood bnd i k lev1 tr1 F1 G1 P1 Q1 mm1 sl1 kd1 hs1 ht1 sg1 dv1 M1 H1 hz1 hk1 hkd1 hne hev
    have hrel1 : mrel cs fs ss nb sc bad xln xlen xlab xbad xsf xbf F1 G1 kd1 := ⟨r1, r2, r3, r4, r5, r6, fun n f hn => by have h9 := (List.getElem?_eq_some_iff.mp hn).1; rw [(hk1 (n + 1) (by omega)).1, (hk1 (n + 1) (by omega)).2]; exact r7 n f hn, r8, r9, r10, r11, hkd1, r13, r14, r15, r16⟩
    refine z_aload_n C d_M_work_104 rfl rfl ?_
    refine z_callV (rest := []) (n := 0) (As := []) C (m_termT E X.2.1 sz _ H1 hne) ⟨z_cb C k_M_term ml_M_152 ii_M rfl rfl (by decide +kernel) ⟨by decide, by decide⟩, C.2.2.2.2.1 _ im_M_term, C.2.2.2.2.1 _ se_M_term⟩ H1.1 rfl rfl rfl (Nat.le_of_ble_eq_true rfl) d_M_work_105 ⟨by decide, by decide⟩ ?_
    intro v_105 s_105 M_105 hp_105
    obtain ⟨rfl, rfl, rfl⟩ := hp_105
    show Z _ _ _ _ _ _ _ _ 108 _ []
    refine z_aload_n C d_M_work_108 rfl rfl ?_
    refine z_get C in_M H1.1 rfl 5 (by decide) fl_M_119 rfl rfl d_M_work_109 ?_
    refine z_if_eq (tgt := 120) C d_M_work_112 (by decide) (fun c_112 => absurd c_112 (hne)) (fun _ => ?_)
    refine z_aload_n C d_M_work_115 rfl rfl ?_
    refine z_get C in_M H1.1 rfl 5 (by decide) fl_M_119 rfl rfl d_M_work_116 ?_
    exact z_iret C ⟨rfl, hz1, ⟨tr1, ([], fs, ss, nb, sc, bad), rfl, Or.inr ⟨hlt, Or.inr ⟨hgood, Or.inl ⟨tr1, hev, rfl, rfl⟩⟩⟩, xln, xlen, xlab, xbad, lev1, tr1, xwa, xpl, xfo, xsf, xbf, F1, G1, P1, Q1, mm1, sl1, kd1, hs1, ht1, sg1, dv1, H1, hrel1⟩⟩ d_M_work_119
  have lab_ : (rdR cs (fun _ => 0, fun _ => 0, fun _ => 0, 0, 0, 0)).1 = -1 → ∀ (bnd i : Nat) (lev1 : Nat) (F1 G1 P1 Q1 mm1 : Nat → FF) (sl1 kd1 hs1 ht1 sg1 dv1 : Nat → Nat), (bnd = 1 ∧ (isNm (cs.getD 0 0) ∧ cs.getD 1 0 = 58) ∨ bnd = 0 ∧ ¬ (isNm (cs.getD 0 0) ∧ cs.getD 1 0 = 58)) → (∀ q, q < 44 → pg F1 q = pg xF q ∧ pg G1 q = pg xG q) → (∀ j, kd1 j < 100) → okF (pg F1 44, pg G1 44) → evp fs nb (rdP (rdR cs (fun _ => 0, fun _ => 0, fun _ => 0, 0, 0, 0)).2) [] = .inr [(pg F1 44, pg G1 44)] → ∀ (k : Nat) (sf2 : Nat → Nat) (M1 : zM), k ≤ fs.length → mw E M1 m xln xlen (xlab + 1) xbad lev1 0 xwa xpl xfo sf2 xbf (cpF F1 44 (xlab + 1) 13) (cpF G1 44 (xlab + 1) 13) P1 Q1 mm1 sl1 kd1 hs1 ht1 sg1 dv1 → zoutR M M1 m (m + 15) → (∀ j, j ≠ xlab + 1 → sf2 j = xsf j) → sf2 (xlab + 1) ≤ sc + 1 → ((∃ j : Nat, k ≤ j ∧ fs[j]? = some (pg F1 44, pg G1 44) ∧ (∀ j', k ≤ j' → j' < j → fs[j']? ≠ some (pg F1 44, pg G1 44)) ∧ ss[j]? = some (sf2 (xlab + 1))) ∨ ((∀ j, k ≤ j → fs[j]? ≠ some (pg F1 44, pg G1 44)) ∧ sf2 (xlab + 1) = sc + 1)) → Z X E 6 (zQ X E 0 0 (fun v s M' => sz = s ∧ zoutR M M' m (m + 15) ∧ ∃ y s', some (.int y) = v ∧ entC (fun _ => 0, fun _ => 0, fun _ => 0, 0, 0, 0) (cs, fs, ss, nb, sc, bad) y s' ∧ mst E M' m (cs, s'.2))) 0 0 sz M1 167 [(0, .ref m), (1, .int (-1)), (2, .int (nI bnd)), (3, .int (nI i)), (4, .int (nI (sc + 1))), (5, .int (nI k))] [] := by
    intro hgood bnd i lev1 F1 G1 P1 Q1 mm1 sl1 kd1 hs1 ht1 sg1 dv1 hbnd hk1 hkd1 hokf hev k
    have hrt := rd_T r2 hgood
    induction k with
    | zero =>
      intro sf2 M1 hk H1 hz1 hs2 hb2 hinv
      have hsh : ∃ sc', shN fs ss sc (pg F1 44, pg G1 44) (sf2 (xlab + 1)) sc' ∧ mxs sf2 (fs.length + 1) = sc' ∧ sc' ≤ fs.length + 1 := by
        have em : mxs sf2 fs.length = sc := by rw [← r14]; exact mxs_cg (fun j h1 h2 => hs2 j (by omega))
        have em2 : mxs sf2 (fs.length + 1) = max sc (sf2 (xlab + 1)) := by simp only [mxs]; rw [em, r5]
        rcases hinv with ⟨j, -, j2, j3, j4⟩ | ⟨j1, j2⟩
        · have hj := (List.getElem?_eq_some_iff.mp j2).1
          have hle : sf2 (xlab + 1) ≤ sc := by rw [← r8 j _ j4, ← r14]; exact mxs_le (by omega) (by omega)
          exact ⟨sc, Or.inl ⟨j, j2, fun j' h' => j3 j' (by omega) h', j4, rfl⟩, by rw [em2]; omega, by omega⟩
        · exact ⟨sc + 1, Or.inr ⟨fun j => j1 j (by omega), j2, rfl⟩, by rw [em2, j2]; omega, by omega⟩
      obtain ⟨sc', hsh, hmx, hsc'⟩ := hsh
      have pgk : ∀ q, q < 44 → q ≠ xlab + 1 → pg (cpF F1 44 (xlab + 1) 13) q = pg xF q ∧ pg (cpF G1 44 (xlab + 1) 13) q = pg xG q := fun q hq hne => by
        rw [pg_cp, if_neg hne, pg_cp, if_neg hne]; exact hk1 q hq
      have fin_ : ∀ (bf2 : Nat → Nat), (∀ j, j < 3 → bf2 j = bindN nb (rdT (rdR cs (fun _ => 0, fun _ => 0, fun _ => 0, 0, 0, 0)).2) (fs.length + 1) j ∧ bindN nb (rdT (rdR cs (fun _ => 0, fun _ => 0, fun _ => 0, 0, 0, 0)).2) (fs.length + 1) j ≤ fs.length + 1) → mrel cs (fs ++ [(pg F1 44, pg G1 44)]) (ss ++ [sf2 (xlab + 1)]) (bindN nb (rdT (rdR cs (fun _ => 0, fun _ => 0, fun _ => 0, 0, 0, 0)).2) (fs.length + 1)) sc' bad xln xlen (xlab + 1) xbad sf2 bf2 (cpF F1 44 (xlab + 1) 13) (cpF G1 44 (xlab + 1) 13) kd1 := by
        intro bf2 hbf2
        refine ⟨r1, r2, r3, r4, by rw [List.length_append, List.length_singleton, r5], by rw [List.length_append, List.length_singleton]; omega, fun n f hn => ?_, fun n s hn => ?_, by rw [List.length_append, List.length_append, r9]; rfl, fun j hj => by rw [List.length_append]; exact hbf2 j hj, r11, hkd1, fun f hf => ?_, by rw [List.length_append]; exact hmx, fun j => ?_, by rw [List.length_append]; exact hsc'⟩
        · rcases ap_get hn with ⟨q1, q2⟩ | ⟨q1, q2⟩
          · rw [(pgk (n + 1) (by omega) (by omega)).1, (pgk (n + 1) (by omega) (by omega)).2]; exact r7 n f q1
          · rw [← q2, q1, show fs.length + 1 = xlab + 1 by omega, pg_cp, if_pos rfl, pg_cp, if_pos rfl]
        · rcases ap_get hn with ⟨q1, q2⟩ | ⟨q1, q2⟩
          · rw [hs2 (n + 1) (by omega)]; exact r8 n s q1
          · rw [← q2, q1, show ss.length + 1 = xlab + 1 by omega]
        · rcases List.mem_append.mp hf with q | q
          · exact r13 f q
          · rw [List.mem_singleton.mp q]; exact hokf
        · by_cases e9 : j = xlab + 1
          · rw [e9]; omega
          · rw [hs2 j e9]; exact r15 j
      refine z_iload C d_M_work_167 rfl ?_
      refine z_iconst (v := nI 1) C d_M_work_169 (by decide) ?_
      refine z_icmp_lt (tgt := 208) C d_M_work_170 (by decide) (fun _ => ?_) (fun c_170 => absurd (by decide) c_170)
      refine z_iload_n C d_M_work_208 rfl rfl ?_
      refine z_if_eq (tgt := 230) C d_M_work_209 (by decide) (fun c_209 => ?_) (fun c_209 => ?_)
      · have c_209 : bnd = 0 := (nI_eq (a := bnd) (b := 0) (by omega) (by omega)).mp c_209
        have hbd0 : ¬ (isNm (cs.getD 0 0) ∧ cs.getD 1 0 = 58) := by
          rcases hbnd with q | q
          · exact absurd (q.1.symm.trans c_209) (by decide)
          · exact q.2
        refine z_aload_n C d_M_work_230 rfl rfl ?_
        refine z_get C in_M H1.1 rfl 2 (by decide) fl_M_167 rfl rfl d_M_work_231 ?_
        have hbd := hbd0
        rw [if_neg hbd] at hrt
        have hb9 := fin_ xbf (fun j hj => by
          rw [hrt]; unfold bindN
          rw [if_pos (by decide)]
          exact ⟨(r10 j hj).1, by have := (r10 j hj).2; omega⟩)
        exact z_iret C ⟨rfl, hz1, ⟨nI (fs.length + 1), ([], fs ++ [(pg F1 44, pg G1 44)], ss ++ [sf2 (xlab + 1)], bindN nb (rdT (rdR cs (fun _ => 0, fun _ => 0, fun _ => 0, 0, 0, 0)).2) (fs.length + 1), sc', bad), by rw [r5], Or.inr ⟨hlt, Or.inr ⟨hgood, Or.inr ⟨(pg F1 44, pg G1 44), sf2 (xlab + 1), sc', hev, hokf.1, rfl, hsh, rfl⟩⟩⟩, xln, xlen, (xlab + 1), xbad, lev1, 0, xwa, xpl, xfo, sf2, xbf, (cpF F1 44 (xlab + 1) 13), (cpF G1 44 (xlab + 1) 13), P1, Q1, mm1, sl1, kd1, hs1, ht1, sg1, dv1, H1, hb9⟩⟩ d_M_work_234
      · have c_209 : ¬ bnd = 0 := fun q => c_209 (congrArg nI q)
        have hbd0 : isNm (cs.getD 0 0) ∧ cs.getD 1 0 = 58 := by
          rcases hbnd with q | q
          · exact q.2
          · exact absurd q.1 c_209
        have hc0 := r3 0 (getD_in (by omega))
        have hc00 := r4 0
        refine z_aload_n C d_M_work_212 rfl rfl ?_
        refine z_get C in_M H1.1 rfl 10 (by decide) fl_M_20 rfl rfl d_M_work_213 ?_
        refine z_aload_n C d_M_work_216 rfl rfl ?_
        refine z_get C in_M H1.1 rfl 0 (by decide) fl_M_7 rfl rfl d_M_work_217 ?_
        refine z_iconst (v := nI 0) C d_M_work_220 (by decide) ?_
        refine z_iald C H1.2.1 0 rfl 0 (rfl) (by omega) (by omega) d_M_work_221 ?_
        refine z_top (y := nI (xln 0)) rfl ?_
        refine z_bipush (v := nI 97) C d_M_work_222 (by decide) ?_
        refine z_isub C d_M_work_224 ?_
        refine z_top (y := nI ((xln 0) - 97)) (pk_sub (by omega)) ?_
        refine z_aload_n C d_M_work_225 rfl rfl ?_
        refine z_get C in_M H1.1 rfl 2 (by decide) fl_M_167 rfl rfl d_M_work_226 ?_
        refine z_iast C H1.2.2.2.1 0 rfl ((xln 0) - 97) (rfl) (by omega) (by omega) d_M_work_229 ?_
        refine z_world (M' := zU M1 (m + 3) (.inl (E.2.1 0, 3, .inl (fun z_ => nI ((updN xbf ((xln 0) - 97) (xlab + 1)) z_))))) (congrArg (fun e => zU M1 (m + 3) (.inl (E.2.1 0, 3, .inl e))) nI_upd) ?_
        refine z_aload_n C d_M_work_230 rfl rfl ?_
        refine z_get C in_M ((zU_ne (by omega)).trans H1.1) rfl 2 (by decide) fl_M_167 rfl rfl d_M_work_231 ?_
        have hbd := hbd0
        rw [if_pos hbd] at hrt
        have hb9 := fin_ (updN xbf ((xln 0) - 97) (xlab + 1)) (fun j hj => by
          rw [hrt]; unfold bindN
          rw [if_neg (show ¬ nI (cs.getD 0 0 - 97) < 0 from fun q => absurd ((nI_ltI (a := cs.getD 0 0 - 97) (b := 0) (by omega) (by omega)).mp q) (by omega)), nI_clamp (by omega), r3 0 (getD_in (by omega))]
          show updN xbf (cs.getD 0 0 - 97) (xlab + 1) j = (if j = cs.getD 0 0 - 97 then fs.length + 1 else nb j) ∧ (if j = cs.getD 0 0 - 97 then fs.length + 1 else nb j) ≤ fs.length + 1
          by_cases e9 : j = cs.getD 0 0 - 97
          · rw [e9, updN_eq, if_pos rfl, r5]; exact ⟨rfl, Nat.le_refl _⟩
          · rw [updN_ne e9, if_neg e9]; exact ⟨(r10 j hj).1, by have := (r10 j hj).2; omega⟩)
        exact z_iret C ⟨rfl, (zoutR_tr hz1 (zo_u (by omega) (by omega))), ⟨nI (fs.length + 1), ([], fs ++ [(pg F1 44, pg G1 44)], ss ++ [sf2 (xlab + 1)], bindN nb (rdT (rdR cs (fun _ => 0, fun _ => 0, fun _ => 0, 0, 0, 0)).2) (fs.length + 1), sc', bad), by rw [r5], Or.inr ⟨hlt, Or.inr ⟨hgood, Or.inr ⟨(pg F1 44, pg G1 44), sf2 (xlab + 1), sc', hev, hokf.1, rfl, hsh, rfl⟩⟩⟩, xln, xlen, (xlab + 1), xbad, lev1, 0, xwa, xpl, xfo, sf2, (updN xbf ((xln 0) - 97) (xlab + 1)), (cpF F1 44 (xlab + 1) 13), (cpF G1 44 (xlab + 1) 13), P1, Q1, mm1, sl1, kd1, hs1, ht1, sg1, dv1, (mw_a3 H1 (updN xbf ((xln 0) - 97) (xlab + 1))), hb9⟩⟩ d_M_work_234
    | succ k ih =>
      intro sf2 M1 hk H1 hz1 hs2 hb2 hinv
      have hfk : fs[k]? = some fs[k] := List.getElem?_eq_getElem (by omega)
      have hrk := r7 k _ hfk
      have hskk := r15 (k + 1)
      refine z_iload C d_M_work_167 rfl ?_
      refine z_iconst (v := nI 1) C d_M_work_169 (by decide) ?_
      refine z_icmp_lt (tgt := 208) C d_M_work_170 (by decide) (fun c_170 => absurd c_170 (fun q => absurd ((nI_ltI (a := k + 1) (b := 1) (by omega) (by omega)).mp q) (by omega))) (fun _ => ?_)
      refine z_aload_n C d_M_work_173 rfl rfl ?_
      refine z_iload C d_M_work_174 rfl ?_
      refine z_aload_n C d_M_work_176 rfl rfl ?_
      refine z_get C in_M H1.1 rfl 2 (by decide) fl_M_167 rfl rfl d_M_work_177 ?_
      refine z_callV (rest := []) (n := 2) (As := [.int (nI (k + 1)), .int (nI (xlab + 1))]) C (m_alike E X.2.1 sz _ H1 (k + 1) (xlab + 1) (by omega) (by omega)) ⟨z_cb C k_M_alike ml_M_201 ii_M rfl rfl (by decide +kernel) ⟨by decide, by decide⟩, C.2.2.2.2.1 _ im_M_alike, C.2.2.2.2.1 _ se_M_alike⟩ H1.1 rfl rfl rfl (Nat.le_of_ble_eq_true rfl) d_M_work_180 ⟨by decide, by decide⟩ ?_
      intro v_180 s_180 M_180 hp_180
      obtain ⟨ra, rfl, rfl, rfl, hra⟩ := hp_180
      rw [pg_cp, if_neg (by omega), pg_cp, if_pos rfl, pg_cp, if_neg (by omega), pg_cp, if_pos rfl, (hk1 (k + 1) (by omega)).1, (hk1 (k + 1) (by omega)).2] at hra
      have hal : ra = 1 ∧ fs[k]? = some (pg F1 44, pg G1 44) ∨ ra = 0 ∧ fs[k]? ≠ some (pg F1 44, pg G1 44) := by
        rcases hra with ⟨q1, q2, q3⟩ | ⟨q1, q2⟩
        · left; exact ⟨q1, by rw [hfk, ← hrk, q2, q3]⟩
        · right; refine ⟨q1, fun e9 => q2 ?_⟩
          rw [hfk] at e9
          have e8 := hrk.trans (Option.some.inj e9)
          exact ⟨congrArg Prod.fst e8, congrArg Prod.snd e8⟩
      show Z _ _ _ _ _ _ _ _ 183 _ [.int (nI ra)]
      have hra1 : ra ≤ 1 := by omega
      refine z_if_eq (tgt := 202) C d_M_work_183 (by decide) (fun c_183 => ?_) (fun c_183 => ?_)
      · have c_183 : ra = 0 := (nI_eq (a := ra) (b := 0) (by omega) (by omega)).mp c_183
        refine z_iinc (v := nI k) (L' := [(0, .ref m), (1, .int (-1)), (2, .int (nI bnd)), (3, .int (nI i)), (4, .int (nI (sc + 1))), (5, .int (nI k))]) C d_M_work_202 rfl (pk_subn (a := k + 1) (n := 1) (by omega)) (by decide) rfl ?_
        refine z_goto (tgt := 167) C d_M_work_205 (by decide) ?_
        have hfe : fs[k]? ≠ some (pg F1 44, pg G1 44) := by
          rcases hal with ⟨q, -⟩ | ⟨-, q⟩
          · omega
          · exact q
        refine ih sf2 M1 (by omega) H1 hz1 hs2 hb2 ?_
        rcases hinv with ⟨j, j1, j2, j3, j4⟩ | ⟨j1, j2⟩
        · refine Or.inl ⟨j, by omega, j2, fun j' h1 h2 => ?_, j4⟩
          by_cases e9 : j' = k
          · rw [e9]; exact hfe
          · exact j3 j' (by omega) h2
        · refine Or.inr ⟨fun j h1 => ?_, j2⟩
          by_cases e9 : j = k
          · rw [e9]; exact hfe
          · exact j1 j (by omega)
      · have c_183 : ¬ ra = 0 := fun q => c_183 (congrArg nI q)
        refine z_aload_n C d_M_work_186 rfl rfl ?_
        refine z_get C in_M H1.1 rfl 9 (by decide) fl_M_17 rfl rfl d_M_work_187 ?_
        refine z_aload_n C d_M_work_190 rfl rfl ?_
        refine z_get C in_M H1.1 rfl 2 (by decide) fl_M_167 rfl rfl d_M_work_191 ?_
        refine z_aload_n C d_M_work_194 rfl rfl ?_
        refine z_get C in_M H1.1 rfl 9 (by decide) fl_M_17 rfl rfl d_M_work_195 ?_
        refine z_iload C d_M_work_198 rfl ?_
        refine z_iald C H1.2.2.1 0 rfl (k + 1) (rfl) (by omega) (by omega) d_M_work_200 ?_
        refine z_top (y := nI (sf2 (k + 1))) rfl ?_
        refine z_iast C H1.2.2.1 0 rfl (xlab + 1) (rfl) (by omega) (by omega) d_M_work_201 ?_
        refine z_world (M' := zU M1 (m + 2) (.inl (E.2.1 0, 41, .inl (fun z_ => nI ((updN sf2 (xlab + 1) (sf2 (k + 1))) z_))))) (congrArg (fun e => zU M1 (m + 2) (.inl (E.2.1 0, 41, .inl e))) nI_upd) ?_
        refine z_iinc (v := nI k) (L' := [(0, .ref m), (1, .int (-1)), (2, .int (nI bnd)), (3, .int (nI i)), (4, .int (nI (sc + 1))), (5, .int (nI k))]) C d_M_work_202 rfl (pk_subn (a := k + 1) (n := 1) (by omega)) (by decide) rfl ?_
        refine z_goto (tgt := 167) C d_M_work_205 (by decide) ?_
        have hfe : fs[k]? = some (pg F1 44, pg G1 44) := by
          rcases hal with ⟨-, q⟩ | ⟨q, -⟩
          · exact q
          · omega
        have hsk : ss[k]? = some (xsf (k + 1)) := by
          have h9 : ss[k]? = some ss[k] := List.getElem?_eq_getElem (by omega)
          rw [r8 k _ h9]; exact h9
        refine ih _ _ (by omega) (mw_a2 H1 (updN sf2 (xlab + 1) (sf2 (k + 1)))) (zoutR_tr hz1 (zo_u (by omega) (by omega))) (fun j hj => by rw [updN_ne hj]; exact hs2 j hj) ?_ (Or.inl ⟨k, Nat.le_refl _, hfe, fun j' h1 h2 => by omega, ?_⟩)
        · rw [updN_eq, hs2 (k + 1) (by omega)]; have := mxs_le (f := xsf) (n := fs.length) (j := k + 1) (by omega) (by omega); omega
        · rw [updN_eq, hs2 (k + 1) (by omega)]; exact hsk
  have end_ : (rdR cs (fun _ => 0, fun _ => 0, fun _ => 0, 0, 0, 0)).1 = -1 → ∀ (bnd i k : Nat) (lev1 : Nat) (tr1 : Int32) (F1 G1 P1 Q1 mm1 : Nat → FF) (sl1 kd1 hs1 ht1 sg1 dv1 : Nat → Nat) (M1 : zM) (mm : Nat) (s : RS) (R : Nat → PS × PS), (bnd = 1 ∧ (isNm (cs.getD 0 0) ∧ cs.getD 1 0 = 58) ∨ bnd = 0 ∧ ¬ (isNm (cs.getD 0 0) ∧ cs.getD 1 0 = 58)) → mw E M1 m xln xlen xlab xbad lev1 tr1 xwa xpl xfo xsf xbf F1 G1 P1 Q1 mm1 sl1 kd1 hs1 ht1 sg1 dv1 → zoutR M M1 m (m + 15) → (∀ q, q < 44 → pg F1 q = pg xF q ∧ pg G1 q = pg xG q) → (∀ j, kd1 j < 100) → tr1 = 0 → gd cs mm s → J3 fs nb s (R, lev1, kd1, hs1, ht1, sg1, dv1) → relR R F1 G1 → cs.length ≤ rdI s → (rdP (rdR cs (fun _ => 0, fun _ => 0, fun _ => 0, 0, 0, 0)).2) = fin_ cs mm s → Z X E 6 (zQ X E 0 0 (fun v s M' => sz = s ∧ zoutR M M' m (m + 15) ∧ ∃ y s', some (.int y) = v ∧ entC (fun _ => 0, fun _ => 0, fun _ => 0, 0, 0, 0) (cs, fs, ss, nb, sc, bad) y s' ∧ mst E M' m (cs, s'.2))) 0 0 sz M1 104 [(0, .ref m), (1, .int (-1)), (2, .int (nI bnd)), (3, .int (nI i)), (4, .int (nI k))] [] := by
    intro hgood bnd i k lev1 tr1 F1 G1 P1 Q1 mm1 sl1 kd1 hs1 ht1 sg1 dv1 M1 mm s R hbnd H1 hz1 hk1 hkd1 htr hgd hJ hR hi hF
    subst htr
    obtain ⟨⟨e1, e2, e3, e4, e5⟩, e6⟩ := ev_end r2 hgd hJ hi
    have e1 : lev1 = 0 := e1
    have e2 : ht1 lev1 = 1 := e2
    subst e1
    have e3 : okF (R 53) := e3
    have e4 : hs1 0 = 1 → okF (R 44) := e4
    have e5 : sg1 0 = 1 ∨ sg1 0 = 10006 := e5
    have f1 := LV_flg_J hgd hJ
    refine z_aload_n C d_M_work_104 rfl rfl ?_
    refine z_callV (rest := []) (n := 0) (As := []) C (m_term E X.2.1 sz _ H1 R hR rfl (by omega) hkd1 f1 e5 (by have h9 := e3.1; rw [hR _ (by omega)] at h9; exact h9) (fun q => by have h9 := (e4 q).1; rw [hR _ (by omega)] at h9; exact h9)) ⟨z_cb C k_M_term ml_M_152 ii_M rfl rfl (by decide +kernel) ⟨by decide, by decide⟩, C.2.2.2.2.1 _ im_M_term, C.2.2.2.2.1 _ se_M_term⟩ H1.1 rfl rfl rfl (Nat.le_of_ble_eq_true rfl) d_M_work_105 ⟨by decide, by decide⟩ ?_
    intro v_105 s_105 M_105 hp_105
    obtain ⟨rfl, rfl, ho_105, lev_105, tr_105, F_105, G_105, P_105, Q_105, mm_105, sl_105, kd_105, hs_105, ht_105, sg_105, dv_105, H_105, hk_105, hkd_105, hlv_105, hr_105⟩ := hp_105
    have hz_105 : zoutR M M_105 m (m + 15) := zoutR_tr hz1 ho_105
    rcases er_105 : m_trm (R, 0, kd1, hs1, ht1, sg1, dv1) with t_105 | y_105
    · rw [er_105] at hr_105
      obtain ⟨rfl, hne_105⟩ := hr_105
      have hev : evp fs nb (rdP (rdR cs (fun _ => 0, fun _ => 0, fun _ => 0, 0, 0, 0)).2) [] = .inl tr_105 := by rw [hF, e6, er_105]; rfl
      have hrel2 : mrel cs fs ss nb sc bad xln xlen xlab xbad xsf xbf F_105 G_105 kd_105 := ⟨r1, r2, r3, r4, r5, r6, fun n f hn => by have h9 := (List.getElem?_eq_some_iff.mp hn).1; rw [(hk_105 (n + 1) (by omega)).1, (hk_105 (n + 1) (by omega)).2, (hk1 (n + 1) (by omega)).1, (hk1 (n + 1) (by omega)).2]; exact r7 n f hn, r8, r9, r10, r11, hkd_105, r13, r14, r15, r16⟩
      show Z _ _ _ _ _ _ _ _ 108 _ []
      refine z_aload_n C d_M_work_108 rfl rfl ?_
      refine z_get C in_M H_105.1 rfl 5 (by decide) fl_M_119 rfl rfl d_M_work_109 ?_
      refine z_if_eq (tgt := 120) C d_M_work_112 (by decide) (fun c_112 => absurd c_112 (hne_105)) (fun _ => ?_)
      refine z_aload_n C d_M_work_115 rfl rfl ?_
      refine z_get C in_M H_105.1 rfl 5 (by decide) fl_M_119 rfl rfl d_M_work_116 ?_
      exact z_iret C ⟨rfl, hz_105, ⟨tr_105, ([], fs, ss, nb, sc, bad), rfl, Or.inr ⟨hlt, Or.inr ⟨hgood, Or.inl ⟨tr_105, hev, rfl, rfl⟩⟩⟩, xln, xlen, xlab, xbad, lev_105, tr_105, xwa, xpl, xfo, xsf, xbf, F_105, G_105, P_105, Q_105, mm_105, sl_105, kd_105, hs_105, ht_105, sg_105, dv_105, H_105, hrel2⟩⟩ d_M_work_119
    · rw [er_105] at hr_105
      obtain ⟨rfl, ey_105, hR0_105⟩ := hr_105
      obtain ⟨R_105, y2_105⟩ := y_105
      have ey_105 : y2_105 = (lev_105, kd_105, hs_105, ht_105, sg_105, dv_105) := ey_105
      subst ey_105
      have hR_105 : relR R_105 F_105 G_105 := hR0_105
      have et := m_trm_st er_105
      obtain ⟨rfl, rfl, g, hg1, rfl, hgk⟩ := et
      have hokg := trm_ok (l := 0) (sg := sg1) e3 e4 e5 hg1
      have g44 := hR_105 44 (by decide)
      rw [show updR R (44 + 0) g 44 = g from updR_eq] at g44
      have hev : evp fs nb (rdP (rdR cs (fun _ => 0, fun _ => 0, fun _ => 0, 0, 0, 0)).2) [] = .inr [(pg F_105 44, pg G_105 44)] := by
        rw [hF, e6, er_105]
        show Sum.inr [updR R (44 + 0) g 44] = _
        rw [show updR R (44 + 0) g 44 = g from updR_eq, g44]
      have hk5 : ∀ q, q < 44 → pg F_105 q = pg xF q ∧ pg G_105 q = pg xG q := fun q hq => by rw [(hk_105 q hq).1, (hk_105 q hq).2]; exact hk1 q hq
      have hok5 : okF (pg F_105 44, pg G_105 44) := g44 ▸ hokg
      show Z _ _ _ _ _ _ _ _ 108 _ []
      refine z_aload_n C d_M_work_108 rfl rfl ?_
      refine z_get C in_M H_105.1 rfl 5 (by decide) fl_M_119 rfl rfl d_M_work_109 ?_
      refine z_if_eq (tgt := 120) C d_M_work_112 (by decide) (fun _ => ?_) (fun c_112 => absurd (rfl) c_112)
      refine z_aload_n C d_M_work_120 rfl rfl ?_
      refine z_callV (rest := []) (n := 0) (As := []) C (m_shapes E X.2.1 sz _ H_105 (by omega) r15) ⟨z_cb C k_M_shapes ml_M_198 ii_M rfl rfl (by decide +kernel) ⟨by decide, by decide⟩, C.2.2.2.2.1 _ im_M_shapes, C.2.2.2.2.1 _ se_M_shapes⟩ H_105.1 rfl rfl rfl (Nat.le_of_ble_eq_true rfl) d_M_work_121 ⟨by decide, by decide⟩ ?_
      intro v_121 s_121 M_121 hp_121
      obtain ⟨rfl, rfl, rfl⟩ := hp_121
      rw [r5, r14]
      show Z _ _ _ _ _ _ _ _ 124 _ [.int (nI sc)]
      refine z_iconst (v := nI 1) C d_M_work_124 (by decide) ?_
      refine z_iadd C d_M_work_125 ?_
      refine z_top (y := nI (sc + 1)) (nI_add _ _) ?_
      refine z_istore (L' := [(0, .ref m), (1, .int (-1)), (2, .int (nI bnd)), (3, .int (nI i)), (4, .int (nI (sc + 1)))]) C d_M_work_126 (by decide) rfl ?_
      refine z_aload_n C d_M_work_128 rfl rfl ?_
      refine z_dup C d_M_work_129 rfl ?_
      refine z_get C in_M H_105.1 rfl 2 (by decide) fl_M_167 rfl rfl d_M_work_130 ?_
      refine z_iconst (v := nI 1) C d_M_work_133 (by decide) ?_
      refine z_iadd C d_M_work_134 ?_
      refine z_top (y := nI (xlab + 1)) (nI_add _ _) ?_
      refine z_put C in_M ty_M tok_M nm_M H_105.1 rfl 2 (by decide) fl_M_167 rfl rfl rfl (rfl) (rfl) (Nat.le_of_ble_eq_true rfl) d_M_work_135 ?_
      show Z _ _ _ _ _ _ _ (zU M_105 m (.inr (10, [.ref (m + 1), .int (nI xlen), .int (nI (xlab + 1)), .int xbad, .int (nI 0), .int 0, .int (nI xwa), .int (nI xpl), .int (nI xfo), .ref (m + 2), .ref (m + 3), .ref (m + 4), .ref (m + 5), .ref (m + 6), .ref (m + 7), .ref (m + 8), .ref (m + 9), .ref (m + 10), .ref (m + 11), .ref (m + 12), .ref (m + 13), .ref (m + 14)]))) _ _ _
      refine z_aload_n C d_M_work_138 rfl rfl ?_
      refine z_bipush (v := nI 44) C d_M_work_139 (by decide) ?_
      refine z_aload_n C d_M_work_141 rfl rfl ?_
      refine z_get C in_M zU_eq rfl 2 (by decide) fl_M_167 rfl rfl d_M_work_142 ?_
      have G_145 : mw E (zU M_105 m (.inr (10, [.ref (m + 1), .int (nI xlen), .int (nI (xlab + 1)), .int xbad, .int (nI 0), .int 0, .int (nI xwa), .int (nI xpl), .int (nI xfo), .ref (m + 2), .ref (m + 3), .ref (m + 4), .ref (m + 5), .ref (m + 6), .ref (m + 7), .ref (m + 8), .ref (m + 9), .ref (m + 10), .ref (m + 11), .ref (m + 12), .ref (m + 13), .ref (m + 14)]))) m xln xlen (xlab + 1) xbad 0 0 xwa xpl xfo xsf xbf F_105 G_105 P_105 Q_105 mm_105 sl_105 kd1 hs_105 ht_105 sg_105 dv_105 := (mw_o H_105 xlen (xlab + 1) xbad 0 0 xwa xpl xfo)
      refine z_callV (rest := []) (n := 2) (As := [.int (nI 44), .int (nI (xlab + 1))]) C (m_copy E X.2.1 sz _ G_145 44 (xlab + 1) (by decide) (by omega) (by omega)) ⟨z_cb C k_M_copy ml_M_137 ii_M rfl rfl (by decide +kernel) ⟨by decide, by decide⟩, C.2.2.2.2.1 _ im_M_copy, C.2.2.2.2.1 _ se_M_copy⟩ G_145.1 rfl rfl rfl (Nat.le_of_ble_eq_true rfl) d_M_work_145 ⟨by decide, by decide⟩ ?_
      intro v_145 s_145 M_145 hp_145
      obtain ⟨rfl, rfl, ho_145, H_145⟩ := hp_145
      have hz_145 : zoutR M M_145 m (m + 15) := zoutR_tr (zoutR_tr hz_105 (zo_u (by omega) (by omega))) ho_145
      show Z _ _ _ _ _ _ _ _ 148 _ []
      refine z_aload_n C d_M_work_148 rfl rfl ?_
      refine z_get C in_M H_145.1 rfl 9 (by decide) fl_M_17 rfl rfl d_M_work_149 ?_
      refine z_aload_n C d_M_work_152 rfl rfl ?_
      refine z_get C in_M H_145.1 rfl 2 (by decide) fl_M_167 rfl rfl d_M_work_153 ?_
      refine z_iload C d_M_work_156 rfl ?_
      refine z_iast C H_145.2.2.1 0 rfl (xlab + 1) (rfl) (by omega) (by omega) d_M_work_158 ?_
      refine z_world (M' := zU M_145 (m + 2) (.inl (E.2.1 0, 41, .inl (fun z_ => nI ((updN xsf (xlab + 1) (sc + 1)) z_))))) (congrArg (fun e => zU M_145 (m + 2) (.inl (E.2.1 0, 41, .inl e))) nI_upd) ?_
      refine z_aload_n C d_M_work_159 rfl rfl ?_
      refine z_get C in_M ((zU_ne (by omega)).trans H_145.1) rfl 2 (by decide) fl_M_167 rfl rfl d_M_work_160 ?_
      refine z_iconst (v := nI 1) C d_M_work_163 (by decide) ?_
      refine z_isub C d_M_work_164 ?_
      refine z_top (y := nI ((xlab + 1) - 1)) (pk_sub (by omega)) ?_
      refine z_istore (L' := [(0, .ref m), (1, .int (-1)), (2, .int (nI bnd)), (3, .int (nI i)), (4, .int (nI (sc + 1))), (5, .int (nI ((xlab + 1) - 1)))]) C d_M_work_165 (by decide) rfl ?_
      rw [show xlab + 1 - 1 = fs.length by omega]
      exact lab_ hgood bnd i 0 F_105 G_105 P_105 Q_105 mm_105 sl_105 kd1 hs_105 ht_105 sg_105 dv_105 hbnd hk5 hkd1 hok5 hev fs.length _ _ (Nat.le_refl _) (mw_a2 H_145 (updN xsf (xlab + 1) (sc + 1))) (zoutR_tr hz_145 (zo_u (by omega) (by omega))) (fun j hj => updN_ne hj) (by rw [updN_eq]; omega) (Or.inr ⟨fun j h1 h2 => by have := (List.getElem?_eq_some_iff.mp h2).1; omega, updN_eq⟩)
  have loop : (rdR cs (fun _ => 0, fun _ => 0, fun _ => 0, 0, 0, 0)).1 = -1 → ∀ (bd : Nat), (bd = 1 ∧ (isNm (cs.getD 0 0) ∧ cs.getD 1 0 = 58) ∨ bd = 0 ∧ ¬ (isNm (cs.getD 0 0) ∧ cs.getD 1 0 = 58)) → ∀ (q k i : Nat) (lev1 : Nat) (tr1 : Int32) (F1 G1 P1 Q1 mm1 : Nat → FF) (sl1 kd1 hs1 ht1 sg1 dv1 : Nat → Nat) (M1 : zM), k + q = 33 → mw E M1 m xln xlen xlab xbad lev1 tr1 xwa xpl xfo xsf xbf F1 G1 P1 Q1 mm1 sl1 kd1 hs1 ht1 sg1 dv1 → zoutR M M1 m (m + 15) → (∀ q, q < 44 → pg F1 q = pg xF q ∧ pg G1 q = pg xG q) → (∀ j, kd1 j < 100) → ((¬ tr1 = 0 ∧ evp fs nb (rdP (rdR cs (fun _ => 0, fun _ => 0, fun _ => 0, 0, 0, 0)).2) [] = .inl tr1) ∨ (tr1 = 0 ∧ ∃ (mm : Nat) (s : RS) (R : Nat → PS × PS), gd cs mm s ∧ bnd cs s ∧ J3 fs nb s (R, lev1, kd1, hs1, ht1, sg1, dv1) ∧ relR R F1 G1 ∧ rdI s = i ∧ (rdP (rdR cs (fun _ => 0, fun _ => 0, fun _ => 0, 0, 0, 0)).2) = fin_ cs mm s ∧ cs.length + 1 ≤ i + q)) → i ≤ 100 → Z X E 6 (zQ X E 0 0 (fun v s M' => sz = s ∧ zoutR M M' m (m + 15) ∧ ∃ y s', some (.int y) = v ∧ entC (fun _ => 0, fun _ => 0, fun _ => 0, 0, 0, 0) (cs, fs, ss, nb, sc, bad) y s' ∧ mst E M' m (cs, s'.2))) 0 0 sz M1 70 [(0, .ref m), (1, .int (-1)), (2, .int (nI bd)), (3, .int (nI i)), (4, .int (nI k))] [] := by
    intro hgood bd hbnd q
    induction q with
    | zero =>
      intro k i lev1 tr1 F1 G1 P1 Q1 mm1 sl1 kd1 hs1 ht1 sg1 dv1 M1 hk H1 hz1 hk1 hkd1 hst hi
      have hk : k = 33 := by omega
      subst hk
      refine z_iload C d_M_work_70 rfl ?_
      refine z_bipush (v := nI 33) C d_M_work_72 (by decide) ?_
      refine z_icmp_ge (tgt := 104) C d_M_work_74 (by decide) (fun _ => ?_) (fun c_74 => absurd (by decide) c_74)
      rcases hst with ⟨q1, q2⟩ | ⟨q1, mm, s, R, q2, q3, q4, q5, q6, q7, q8⟩
      · exact trb hgood bd i 33 _ _ _ _ _ _ _ _ _ _ _ _ _ M1 H1 hz1 hk1 hkd1 q1 q2
      · exact end_ hgood bd i 33 _ _ _ _ _ _ _ _ _ _ _ _ _ M1 mm s R hbnd H1 hz1 hk1 hkd1 q1 q2 q4 q5 (by omega) q7
    | succ q ih =>
      intro k i lev1 tr1 F1 G1 P1 Q1 mm1 sl1 kd1 hs1 ht1 sg1 dv1 M1 hk H1 hz1 hk1 hkd1 hst hi
      rcases hst with ⟨q1, q2⟩ | ⟨q1, mm, s, R, q2, q3, q4, q5, q6, q7, q8⟩
      · refine z_iload C d_M_work_70 rfl ?_
        refine z_bipush (v := nI 33) C d_M_work_72 (by decide) ?_
        refine z_icmp_ge (tgt := 104) C d_M_work_74 (by decide) (fun c_74 => absurd c_74 (fun q => absurd ((nI_leI (a := 33) (b := k) (by omega) (by omega)).mp q) (by omega))) (fun _ => ?_)
        refine z_iload_n C d_M_work_77 rfl rfl ?_
        refine z_aload_n C d_M_work_78 rfl rfl ?_
        refine z_get C in_M H1.1 rfl 1 (by decide) fl_M_67 rfl rfl d_M_work_79 ?_
        refine z_icmp_ge (tgt := 104) C d_M_work_82 (by decide) (fun c_82 => ?_) (fun c_82 => ?_)
        · have c_82 : xlen ≤ i := (nI_leI (a := xlen) (b := i) (by omega) (by omega)).mp c_82
          exact trb hgood bd i k _ _ _ _ _ _ _ _ _ _ _ _ _ M1 H1 hz1 hk1 hkd1 q1 q2
        · have c_82 : i < xlen := Nat.not_le.mp (fun q => c_82 ((nI_leI (a := xlen) (b := i) (by omega) (by omega)).mpr q))
          refine z_aload_n C d_M_work_85 rfl rfl ?_
          refine z_get C in_M H1.1 rfl 5 (by decide) fl_M_119 rfl rfl d_M_work_86 ?_
          refine z_if_ne (tgt := 104) C d_M_work_89 (by decide) (fun _ => ?_) (fun c_89 => absurd c_89 (q1))
          exact trb hgood bd i k _ _ _ _ _ _ _ _ _ _ _ _ _ M1 H1 hz1 hk1 hkd1 q1 q2
      · subst q1
        refine z_iload C d_M_work_70 rfl ?_
        refine z_bipush (v := nI 33) C d_M_work_72 (by decide) ?_
        refine z_icmp_ge (tgt := 104) C d_M_work_74 (by decide) (fun c_74 => absurd c_74 (fun q => absurd ((nI_leI (a := 33) (b := k) (by omega) (by omega)).mp q) (by omega))) (fun _ => ?_)
        refine z_iload_n C d_M_work_77 rfl rfl ?_
        refine z_aload_n C d_M_work_78 rfl rfl ?_
        refine z_get C in_M H1.1 rfl 1 (by decide) fl_M_67 rfl rfl d_M_work_79 ?_
        refine z_icmp_ge (tgt := 104) C d_M_work_82 (by decide) (fun c_82 => ?_) (fun c_82 => ?_)
        · have c_82 : xlen ≤ i := (nI_leI (a := xlen) (b := i) (by omega) (by omega)).mp c_82
          exact end_ hgood bd i k _ _ _ _ _ _ _ _ _ _ _ _ _ M1 mm s R hbnd H1 hz1 hk1 hkd1 rfl q2 q4 q5 (by omega) q7
        · have c_82 : i < xlen := Nat.not_le.mp (fun q => c_82 ((nI_leI (a := xlen) (b := i) (by omega) (by omega)).mpr q))
          have hlv8 : lev1 ≤ 8 := hok8 q4
          obtain ⟨hok9, hgo9⟩ := ev_tok r2 r13 q2 q3 q4 (show rdI s < cs.length by omega)
          have hfl9 := ev_flg r2 q2 q3 q4 (show rdI s < cs.length by omega)
          have hg9 : go_ cs fs nb (fin_ cs mm s) i (m_adv cs fs nb i (R, lev1, kd1, hs1, ht1, sg1, dv1)) := q6 ▸ hgo9
          refine z_aload_n C d_M_work_85 rfl rfl ?_
          refine z_get C in_M H1.1 rfl 5 (by decide) fl_M_119 rfl rfl d_M_work_86 ?_
          refine z_if_ne (tgt := 104) C d_M_work_89 (by decide) (fun c_89 => absurd c_89 (fun q => q rfl)) (fun _ => ?_)
          refine z_aload_n C d_M_work_92 rfl rfl ?_
          refine z_iload_n C d_M_work_93 rfl rfl ?_
          refine z_callV (rest := []) (n := 1) (As := [.int (nI i)]) C (m_advance E X.2.1 sz _ H1 R q5 rfl hlv8 hkd1 cs r1 r2 r3 r4 fs nb r5 (by omega) (fun n f hn => by have h9 := (List.getElem?_eq_some_iff.mp hn).1; rw [q5 (n + 1) (by omega), (hk1 (n + 1) (by omega)).1, (hk1 (n + 1) (by omega)).2]; exact r7 n f hn) r10 r13 i (by omega) (q6 ▸ hok9) (q6 ▸ hfl9)) ⟨z_cb C k_M_advance ml_M_195 ii_M rfl rfl (by decide +kernel) ⟨by decide, by decide⟩, C.2.2.2.2.1 _ im_M_advance, C.2.2.2.2.1 _ se_M_advance⟩ H1.1 rfl rfl rfl (Nat.le_of_ble_eq_true rfl) d_M_work_94 ⟨by decide, by decide⟩ ?_
          intro v_94 s_94 M_94 hp_94
          obtain ⟨rfl, rfl, ho_94, lev_94, tr_94, F_94, G_94, P_94, Q_94, mm_94, sl_94, kd_94, hs_94, ht_94, sg_94, dv_94, H_94, hk_94, hkd_94, hlv_94, hr_94⟩ := hp_94
          have hz_94 : zoutR M M_94 m (m + 15) := zoutR_tr hz1 ho_94
          rcases er_94 : (m_adv cs fs nb i (R, lev1, kd1, hs1, ht1, sg1, dv1)).2 with t_94 | y_94
          · rw [er_94] at hr_94
            obtain ⟨rfl, hne_94⟩ := hr_94
            have hev9 : evp fs nb (rdP (rdR cs (fun _ => 0, fun _ => 0, fun _ => 0, 0, 0, 0)).2) [] = .inl tr_94 := by
              rcases hg9 with ⟨t8, e81, e82⟩ | ⟨m8, s8, x8, e81, -⟩
              · rw [q7, e82, Sum.inl.inj (e81.symm.trans er_94)]
              · rw [er_94] at e81; cases e81
            have hpos : (m_adv cs fs nb i (R, lev1, kd1, hs1, ht1, sg1, dv1)).1 ≤ 100 := m_adv_le (by omega) (by omega)
            show Z _ _ _ _ _ _ _ _ 97 _ [.int (nI (m_adv cs fs nb i (R, lev1, kd1, hs1, ht1, sg1, dv1)).1)]
            refine z_istore_n (L' := [(0, .ref m), (1, .int (-1)), (2, .int (nI bd)), (3, .int (nI (m_adv cs fs nb i (R, lev1, kd1, hs1, ht1, sg1, dv1)).1)), (4, .int (nI k))]) C d_M_work_97 rfl (by decide) rfl ?_
            refine z_iinc (v := nI (k + 1)) (L' := [(0, .ref m), (1, .int (-1)), (2, .int (nI bd)), (3, .int (nI (m_adv cs fs nb i (R, lev1, kd1, hs1, ht1, sg1, dv1)).1)), (4, .int (nI (k + 1)))]) C d_M_work_98 rfl (nI_add _ 1) (by decide) rfl ?_
            refine z_goto (tgt := 70) C d_M_work_101 (by decide) ?_
            exact ih (k + 1) _ _ _ _ _ _ _ _ _ _ _ _ _ _ M_94 (by omega) H_94 hz_94 (fun q hq => by rw [(hk_94 q hq).1, (hk_94 q hq).2]; exact hk1 q hq) hkd_94 (Or.inl ⟨hne_94, hev9⟩) hpos
          · rw [er_94] at hr_94
            obtain ⟨rfl, ey_94, hR0_94⟩ := hr_94
            obtain ⟨R_94, y2_94⟩ := y_94
            have ey_94 : y2_94 = (lev_94, kd_94, hs_94, ht_94, sg_94, dv_94) := ey_94
            subst ey_94
            have hR_94 : relR R_94 F_94 G_94 := hR0_94
            have hst9 : ∃ (mm : Nat) (s : RS) (R8 : Nat → PS × PS), gd cs mm s ∧ bnd cs s ∧ J3 fs nb s (R8, lev_94, kd_94, hs_94, ht_94, sg_94, dv_94) ∧ relR R8 F_94 G_94 ∧ rdI s = (m_adv cs fs nb i (R, lev1, kd1, hs1, ht1, sg1, dv1)).1 ∧ (rdP (rdR cs (fun _ => 0, fun _ => 0, fun _ => 0, 0, 0, 0)).2) = fin_ cs mm s ∧ cs.length + 1 ≤ (m_adv cs fs nb i (R, lev1, kd1, hs1, ht1, sg1, dv1)).1 + q := by
              rcases hg9 with ⟨t8, e81, e82⟩ | ⟨m8, s8, x8, e81, e82, e83, e84, e85, e86, e87⟩
              · rw [er_94] at e81; cases e81
              · rw [er_94] at e81
                have e88 := Sum.inr.inj e81
                subst e88
                exact ⟨m8, s8, R_94, e83, e85, e86, hR_94, e82, by rw [q7, e84], by omega⟩
            have hpos : (m_adv cs fs nb i (R, lev1, kd1, hs1, ht1, sg1, dv1)).1 ≤ 100 := m_adv_le (by omega) (by omega)
            show Z _ _ _ _ _ _ _ _ 97 _ [.int (nI (m_adv cs fs nb i (R, lev1, kd1, hs1, ht1, sg1, dv1)).1)]
            refine z_istore_n (L' := [(0, .ref m), (1, .int (-1)), (2, .int (nI bd)), (3, .int (nI (m_adv cs fs nb i (R, lev1, kd1, hs1, ht1, sg1, dv1)).1)), (4, .int (nI k))]) C d_M_work_97 rfl (by decide) rfl ?_
            refine z_iinc (v := nI (k + 1)) (L' := [(0, .ref m), (1, .int (-1)), (2, .int (nI bd)), (3, .int (nI (m_adv cs fs nb i (R, lev1, kd1, hs1, ht1, sg1, dv1)).1)), (4, .int (nI (k + 1)))]) C d_M_work_98 rfl (nI_add _ 1) (by decide) rfl ?_
            refine z_goto (tgt := 70) C d_M_work_101 (by decide) ?_
            exact ih (k + 1) _ _ _ _ _ _ _ _ _ _ _ _ _ _ M_94 (by omega) H_94 hz_94 (fun q hq => by rw [(hk_94 q hq).1, (hk_94 q hq).2]; exact hk1 q hq) hkd_94 (Or.inr ⟨rfl, hst9⟩) hpos
  show Z X E 6 _ 0 0 sz M 0 [(0, .ref m)] []
  refine z_aload_n C d_M_work_0 rfl rfl ?_
  refine z_callV (rest := []) (n := 0) (As := []) C (m_badPlaceOf E X.2.1 sz _ H cs r1 r2 r3 r4 r12) ⟨z_cb C k_M_badPlaceOf ml_M_192 ii_M rfl rfl (by decide +kernel) ⟨by decide, by decide⟩, C.2.2.2.2.1 _ im_M_badPlaceOf, C.2.2.2.2.1 _ se_M_badPlaceOf⟩ H.1 rfl rfl rfl (Nat.le_of_ble_eq_true rfl) d_M_work_1 ⟨by decide, by decide⟩ ?_
  intro v_1 s_1 M_1 hp_1
  obtain ⟨rfl, rfl, ho_1, lev_1, kd_1, H_1, hkd_1⟩ := hp_1
  have hbe := bad_eq r2 (fun _ => 0, fun _ => 0, fun _ => 0, 0, 0, 0) xkd
  rcases eb : m_bad cs xkd with _ | p0
  · rw [eb] at hbe
    have hgood : (rdR cs (fun _ => 0, fun _ => 0, fun _ => 0, 0, 0, 0)).1 = -1 := hbe
    show Z _ _ _ _ _ _ _ _ 4 _ [.int (-1)]
    refine z_istore_n (L' := [(0, .ref m), (1, .int (-1))]) C d_M_work_4 rfl (by decide) rfl ?_
    refine z_iload_n C d_M_work_5 rfl rfl ?_
    refine z_if_lt (tgt := 17) C d_M_work_6 (by decide) (fun _ => ?_) (fun c_6 => absurd (by decide) c_6)
    refine z_aload_n C d_M_work_17 rfl rfl ?_
    refine z_iconst (v := 0) C d_M_work_18 (by decide) ?_
    refine z_put C in_M ty_M tok_M nm_M H_1.1 rfl 5 (by decide) fl_M_119 rfl rfl rfl (rfl) (rfl) (Nat.le_of_ble_eq_true rfl) d_M_work_19 ?_
    show Z _ _ _ _ _ _ _ (zU M_1 m (.inr (10, [.ref (m + 1), .int (nI xlen), .int (nI xlab), .int xbad, .int (nI lev_1), .int 0, .int (nI xwa), .int (nI xpl), .int (nI xfo), .ref (m + 2), .ref (m + 3), .ref (m + 4), .ref (m + 5), .ref (m + 6), .ref (m + 7), .ref (m + 8), .ref (m + 9), .ref (m + 10), .ref (m + 11), .ref (m + 12), .ref (m + 13), .ref (m + 14)]))) _ _ _
    refine z_aload_n C d_M_work_22 rfl rfl ?_
    refine z_iconst (v := nI 0) C d_M_work_23 (by decide) ?_
    refine z_put C in_M ty_M tok_M nm_M zU_eq rfl 4 (by decide) fl_M_85 rfl rfl rfl (rfl) (rfl) (Nat.le_of_ble_eq_true rfl) d_M_work_24 ?_
    show Z _ _ _ _ _ _ _ (zU (zU M_1 m (.inr (10, [.ref (m + 1), .int (nI xlen), .int (nI xlab), .int xbad, .int (nI lev_1), .int 0, .int (nI xwa), .int (nI xpl), .int (nI xfo), .ref (m + 2), .ref (m + 3), .ref (m + 4), .ref (m + 5), .ref (m + 6), .ref (m + 7), .ref (m + 8), .ref (m + 9), .ref (m + 10), .ref (m + 11), .ref (m + 12), .ref (m + 13), .ref (m + 14)]))) m (.inr (10, [.ref (m + 1), .int (nI xlen), .int (nI xlab), .int xbad, .int (nI 0), .int 0, .int (nI xwa), .int (nI xpl), .int (nI xfo), .ref (m + 2), .ref (m + 3), .ref (m + 4), .ref (m + 5), .ref (m + 6), .ref (m + 7), .ref (m + 8), .ref (m + 9), .ref (m + 10), .ref (m + 11), .ref (m + 12), .ref (m + 13), .ref (m + 14)]))) _ _ _
    refine z_world zU_uu ?_
    refine z_aload_n C d_M_work_27 rfl rfl ?_
    refine z_iconst (v := nI 1) C d_M_work_28 (by decide) ?_
    have G_29 : mw E (zU M_1 m (.inr (10, [.ref (m + 1), .int (nI xlen), .int (nI xlab), .int xbad, .int (nI 0), .int 0, .int (nI xwa), .int (nI xpl), .int (nI xfo), .ref (m + 2), .ref (m + 3), .ref (m + 4), .ref (m + 5), .ref (m + 6), .ref (m + 7), .ref (m + 8), .ref (m + 9), .ref (m + 10), .ref (m + 11), .ref (m + 12), .ref (m + 13), .ref (m + 14)]))) m xln xlen xlab xbad 0 0 xwa xpl xfo xsf xbf xF xG xP xQ xmm xsl kd_1 xhs xht xsg xdv := (mw_o H_1 xlen xlab xbad 0 0 xwa xpl xfo)
    refine z_callV (rest := []) (n := 1) (As := [.int (nI 1)]) C (m_start E X.2.1 sz _ G_29 1 (by omega)) ⟨z_cb C k_M_start ml_M_177 ii_M rfl rfl (by decide +kernel) ⟨by decide, by decide⟩, C.2.2.2.2.1 _ im_M_start, C.2.2.2.2.1 _ se_M_start⟩ G_29.1 rfl rfl rfl (Nat.le_of_ble_eq_true rfl) d_M_work_29 ⟨by decide, by decide⟩ ?_
    intro v_29 s_29 M_29 hp_29
    obtain ⟨rfl, rfl, ho_29, H_29⟩ := hp_29
    have hz_29 : zoutR M M_29 m (m + 15) := zoutR_tr (zoutR_tr ho_1 (zo_u (by omega) (by omega))) ho_29
    show Z _ _ _ _ _ _ _ _ 32 _ []
    refine z_aload_n C d_M_work_32 rfl rfl ?_
    refine z_get C in_M H_29.1 rfl 1 (by decide) fl_M_67 rfl rfl d_M_work_33 ?_
    refine z_iconst (v := nI 1) C d_M_work_36 (by decide) ?_
    refine z_icmp_le (tgt := 55) C d_M_work_37 (by decide) (fun c_37 => ?_) (fun c_37 => ?_)
    · have c_37 : xlen ≤ 1 := (nI_leI (a := xlen) (b := 1) (by omega) (by omega)).mp c_37
      refine z_iconst (v := nI 0) C d_M_work_55 (by decide) ?_
      refine z_istore_n (L' := [(0, .ref m), (1, .int (-1)), (2, .int (nI 0))]) C d_M_work_56 rfl (by decide) rfl ?_
      refine z_iload_n C d_M_work_57 rfl rfl ?_
      refine z_if_eq (tgt := 65) C d_M_work_58 (by decide) (fun _ => ?_) (fun c_58 => absurd (rfl) c_58)
      refine z_iconst (v := nI 0) C d_M_work_65 (by decide) ?_
      refine z_istore_n (L' := [(0, .ref m), (1, .int (-1)), (2, .int (nI 0)), (3, .int (nI 0))]) C d_M_work_66 rfl (by decide) rfl ?_
      refine z_iconst (v := nI 0) C d_M_work_67 (by decide) ?_
      refine z_istore (L' := [(0, .ref m), (1, .int (-1)), (2, .int (nI 0)), (3, .int (nI 0)), (4, .int (nI 0))]) C d_M_work_68 (by decide) rfl ?_
      have hbd : ¬ (isNm (cs.getD 0 0) ∧ cs.getD 1 0 = 58) := by
        rintro ⟨q1, q2⟩
        first | exact c_48 (by rw [r3 1 (by omega)]; exact q2) | (have := getD_in (cs := cs) (i := 1) (by rw [q2]; decide); omega)
      obtain ⟨g1, g2⟩ := gd_start r2 hgood
      obtain ⟨s1, s2, s3⟩ := ev_start (cs := cs) (fs := fs) (nb := nb) (fun _ => 0) (fun _ => 0) (fun _ => 0) 0 0 0 (fun q => (pg xF q, pg xG q)) kd_1 xhs xht xsg xdv
      rw [if_neg hbd] at s3
      exact loop hgood 0 (Or.inr ⟨rfl, hbd⟩) 33 0 0 0 0 xF xG xP xQ xmm xsl _ _ _ _ _ _ (by omega) H_29 hz_29 (fun q hq => ⟨rfl, rfl⟩) (updN_b hkd_1 (by decide)) (Or.inr ⟨rfl, 32, _, _, g1, s2, s1, fun q hq => rfl, s3, g2, by omega⟩) (by omega)
    · have c_37 : 1 < xlen := Nat.not_le.mp (fun q => c_37 ((nI_leI (a := xlen) (b := 1) (by omega) (by omega)).mpr q))
      refine z_aload_n C d_M_work_40 rfl rfl ?_
      refine z_get C in_M H_29.1 rfl 0 (by decide) fl_M_7 rfl rfl d_M_work_41 ?_
      have hc1 := r4 1
      refine z_iconst (v := nI 1) C d_M_work_44 (by decide) ?_
      refine z_iald C H_29.2.1 0 rfl 1 (rfl) (by omega) (by omega) d_M_work_45 ?_
      refine z_top (y := nI (xln 1)) rfl ?_
      refine z_bipush (v := nI 58) C d_M_work_46 (by decide) ?_
      refine z_icmp_ne (tgt := 55) C d_M_work_48 (by decide) (fun c_48 => ?_) (fun c_48 => ?_)
      · have c_48 : ¬ (xln 1) = 58 := fun q => c_48 (congrArg nI q)
        refine z_iconst (v := nI 0) C d_M_work_55 (by decide) ?_
        refine z_istore_n (L' := [(0, .ref m), (1, .int (-1)), (2, .int (nI 0))]) C d_M_work_56 rfl (by decide) rfl ?_
        refine z_iload_n C d_M_work_57 rfl rfl ?_
        refine z_if_eq (tgt := 65) C d_M_work_58 (by decide) (fun _ => ?_) (fun c_58 => absurd (rfl) c_58)
        refine z_iconst (v := nI 0) C d_M_work_65 (by decide) ?_
        refine z_istore_n (L' := [(0, .ref m), (1, .int (-1)), (2, .int (nI 0)), (3, .int (nI 0))]) C d_M_work_66 rfl (by decide) rfl ?_
        refine z_iconst (v := nI 0) C d_M_work_67 (by decide) ?_
        refine z_istore (L' := [(0, .ref m), (1, .int (-1)), (2, .int (nI 0)), (3, .int (nI 0)), (4, .int (nI 0))]) C d_M_work_68 (by decide) rfl ?_
        have hbd : ¬ (isNm (cs.getD 0 0) ∧ cs.getD 1 0 = 58) := by
          rintro ⟨q1, q2⟩
          first | exact c_48 (by rw [r3 1 (by omega)]; exact q2) | (have := getD_in (cs := cs) (i := 1) (by rw [q2]; decide); omega)
        obtain ⟨g1, g2⟩ := gd_start r2 hgood
        obtain ⟨s1, s2, s3⟩ := ev_start (cs := cs) (fs := fs) (nb := nb) (fun _ => 0) (fun _ => 0) (fun _ => 0) 0 0 0 (fun q => (pg xF q, pg xG q)) kd_1 xhs xht xsg xdv
        rw [if_neg hbd] at s3
        exact loop hgood 0 (Or.inr ⟨rfl, hbd⟩) 33 0 0 0 0 xF xG xP xQ xmm xsl _ _ _ _ _ _ (by omega) H_29 hz_29 (fun q hq => ⟨rfl, rfl⟩) (updN_b hkd_1 (by decide)) (Or.inr ⟨rfl, 32, _, _, g1, s2, s1, fun q hq => rfl, s3, g2, by omega⟩) (by omega)
      · have c_48 : (xln 1) = 58 := (nI_eq (a := (xln 1)) (b := 58) (by omega) (by omega)).mp c_48
        refine z_iconst (v := nI 1) C d_M_work_51 (by decide) ?_
        refine z_goto (tgt := 56) C d_M_work_52 (by decide) ?_
        refine z_istore_n (L' := [(0, .ref m), (1, .int (-1)), (2, .int (nI 1))]) C d_M_work_56 rfl (by decide) rfl ?_
        refine z_iload_n C d_M_work_57 rfl rfl ?_
        refine z_if_eq (tgt := 65) C d_M_work_58 (by decide) (fun c_58 => absurd c_58 (by decide)) (fun _ => ?_)
        refine z_iconst (v := nI 2) C d_M_work_61 (by decide) ?_
        refine z_goto (tgt := 66) C d_M_work_62 (by decide) ?_
        refine z_istore_n (L' := [(0, .ref m), (1, .int (-1)), (2, .int (nI 1)), (3, .int (nI 2))]) C d_M_work_66 rfl (by decide) rfl ?_
        refine z_iconst (v := nI 0) C d_M_work_67 (by decide) ?_
        refine z_istore (L' := [(0, .ref m), (1, .int (-1)), (2, .int (nI 1)), (3, .int (nI 2)), (4, .int (nI 0))]) C d_M_work_68 (by decide) rfl ?_
        have hbd : isNm (cs.getD 0 0) ∧ cs.getD 1 0 = 58 := ⟨bind_nm eb (by omega) (by rw [← r3 1 (by omega)]; exact c_48), by rw [← r3 1 (by omega)]; exact c_48⟩
        obtain ⟨g1, g2⟩ := gd_start r2 hgood
        obtain ⟨s1, s2, s3⟩ := ev_start (cs := cs) (fs := fs) (nb := nb) (fun _ => 0) (fun _ => 0) (fun _ => 0) 0 0 0 (fun q => (pg xF q, pg xG q)) kd_1 xhs xht xsg xdv
        rw [if_pos hbd] at s3
        exact loop hgood 1 (Or.inl ⟨rfl, hbd⟩) 33 0 2 0 0 xF xG xP xQ xmm xsl _ _ _ _ _ _ (by omega) H_29 hz_29 (fun q hq => ⟨rfl, rfl⟩) (updN_b hkd_1 (by decide)) (Or.inr ⟨rfl, 32, _, _, g1, s2, s1, fun q hq => rfl, s3, g2, by omega⟩) (by omega)
  · rw [eb] at hbe
    have hbe : (rdR cs (fun _ => 0, fun _ => 0, fun _ => 0, 0, 0, 0)).1 = nI p0 := hbe
    have hp0 : p0 ≤ 0 + cs.length := m_bl_le cs _ _ _ _ eb
    show Z _ _ _ _ _ _ _ _ 4 _ [.int (nI p0)]
    refine z_istore_n (L' := [(0, .ref m), (1, .int (nI p0))]) C d_M_work_4 rfl (by decide) rfl ?_
    refine z_iload_n C d_M_work_5 rfl rfl ?_
    refine z_if_lt (tgt := 17) C d_M_work_6 (by decide) (fun c_6 => absurd c_6 (fun q => absurd ((nI_ltI (a := p0) (b := 0) (by omega) (by omega)).mp q) (by omega))) (fun _ => ?_)
    refine z_aload_n C d_M_work_9 rfl rfl ?_
    refine z_iload_n C d_M_work_10 rfl rfl ?_
    refine z_put C in_M ty_M tok_M nm_M H_1.1 rfl 3 (by decide) fl_M_13 rfl rfl rfl (rfl) (rfl) (Nat.le_of_ble_eq_true rfl) d_M_work_11 ?_
    show Z _ _ _ _ _ _ _ (zU M_1 m (.inr (10, [.ref (m + 1), .int (nI xlen), .int (nI xlab), .int (nI p0), .int (nI lev_1), .int xtr, .int (nI xwa), .int (nI xpl), .int (nI xfo), .ref (m + 2), .ref (m + 3), .ref (m + 4), .ref (m + 5), .ref (m + 6), .ref (m + 7), .ref (m + 8), .ref (m + 9), .ref (m + 10), .ref (m + 11), .ref (m + 12), .ref (m + 13), .ref (m + 14)]))) _ _ _
    refine z_bipush (v := -3) C d_M_work_14 (by decide) ?_
    exact z_iret C ⟨rfl, (zoutR_tr ho_1 (zo_u (by omega) (by omega))), ⟨-3, ([], fs, ss, nb, sc, nI p0), rfl, Or.inr ⟨hlt, Or.inl ⟨by rw [hbe]; exact nI_m1 (by omega), rfl, by rw [hbe]⟩⟩, xln, xlen, xlab, nI p0, lev_1, xtr, xwa, xpl, xfo, xsf, xbf, xF, xG, xP, xQ, xmm, xsl, kd_1, xhs, xht, xsg, xdv, (mw_o H_1 xlen xlab (nI p0) lev_1 xtr xwa xpl xfo), ⟨r1, r2, r3, r4, r5, r6, r7, r8, r9, r10, rfl, hkd_1, r13, r14, r15, r16⟩⟩⟩ d_M_work_16
