theorem nI_dec (k : Nat) : nI k + Int32.ofInt (-1) = tI k := by
  rw [← tI_s]; exact tI_dec k
theorem tI_nI {k : Nat} (h : 0 < k) : tI k = nI (k - 1) := by
  obtain ⟨n, rfl⟩ : ∃ n, k = n + 1 := ⟨k - 1, by omega⟩
  exact tI_s n
set_option maxHeartbeats 4000000 in
/-- top -/
theorem m_top (E : zE) (l : Launch) (sz : Nat) (M : zM) {m : Nat} {xln : Nat → Nat} {xlen : Nat} {xlab : Nat} {xbad : Int32} {xlev : Nat} {xtr : Int32} {xwa : Nat} {xpl : Nat} {xfo : Nat} {xsf : Nat → Nat} {xbf : Nat → Nat} {xF : Nat → FF} {xG : Nat → FF} {xP : Nat → FF} {xQ : Nat → FF} {xmm : Nat → FF} {xsl : Nat → Nat} {xkd : Nat → Nat} {xhs : Nat → Nat} {xht : Nat → Nat} {xsg : Nat → Nat} {xdv : Nat → Nat} (H : mw E M m xln xlen xlab xbad xlev xtr xwa xpl xfo xsf xbf xF xG xP xQ xmm xsl xkd xhs xht xsg xdv) (r d : Nat) (hr : r < 78) (hd : d ≤ 1) : zMet E l y_M_top c_M_top 4 (some .int) { frames := 0, cells := 0, slots := 0, locals := 0 } 0 0 [.ref m, .int (nI r), .int (nI d)] sz M (fun v s M' => ∃ k, some (.int (tI k)) = v ∧ sz = s ∧ M = M' ∧ isC (pg (sel d xF xG) r) k) := by
  refine zMet.ofZ (by decide) (Nat.le_of_ble_eq_true rfl) ?_
  intro X hl hini C
  have loop : ∀ k, k ≤ 13 → (∀ i, k ≤ i → pg (sel d xF xG) r i = 0) → Z X E 4 (zQ X E 0 0 (fun v s M' => ∃ k, some (.int (tI k)) = v ∧ sz = s ∧ M = M' ∧ isC (pg (sel d xF xG) r) k)) 0 0 sz M 3 [(0, .ref m), (1, .int (nI r)), (2, .int (nI d)), (3, .int (tI k))] [] := by
    intro k
    induction k with
    | zero =>
      intro hk hz
      refine z_iload_n C d_M_top_3 rfl rfl ?_
      refine z_if_lt (tgt := 47) C d_M_top_4 (by decide) (fun _ => ?_) (fun c_4 => absurd (by decide) c_4)
      refine z_iconst (v := tI 0) C d_M_top_47 (by decide) ?_
      exact z_iret C ⟨0, rfl, rfl, rfl, hz, fun m hm => by omega⟩ d_M_top_48
    | succ k ih =>
      intro hk hz
      rw [tI_s k]
      refine z_iload_n C d_M_top_3 rfl rfl ?_
      refine z_if_lt (tgt := 47) C d_M_top_4 (by decide) (fun c_4 => absurd c_4 (fun q => absurd ((nI_ltI (a := k) (b := 0) (by omega) (by omega)).mp q) (by omega))) (fun _ => ?_)
      refine z_iload_n C d_M_top_7 rfl rfl ?_
      refine z_if_eq (tgt := 25) C d_M_top_8 (by decide) (fun c_8 => ?_) (fun c_8 => ?_)
      · have c_8 : d = 0 := (nI_eq (a := d) (b := 0) (by omega) (by omega)).mp c_8
        refine z_aload_n C d_M_top_25 rfl rfl ?_
        refine z_get C in_M H.1 rfl 11 (by decide) fl_M_23 rfl rfl d_M_top_26 ?_
        refine z_iload_n C d_M_top_29 rfl rfl ?_
        refine z_bipush (v := nI 13) C d_M_top_30 (by decide) ?_
        refine z_imul C d_M_top_32 ?_
        refine z_top (y := nI (r * 13)) (pk_mul _ _) ?_
        refine z_iload_n C d_M_top_33 rfl rfl ?_
        refine z_iadd C d_M_top_34 ?_
        refine z_top (y := nI ((r * 13) + k)) (nI_add _ _) ?_
        refine z_iald C H.2.2.2.2.1 0 rfl ((r * 13) + k) (rfl) (by omega) (by omega) d_M_top_35 ?_
        refine z_top (y := fI (xF ((r * 13) + k))) rfl ?_
        refine z_if_eq (tgt := 41) C d_M_top_36 (by decide) (fun c_36 => ?_) (fun c_36 => ?_)
        · have c_36 : (xF ((r * 13) + k)) = 0 := fI_eq0.mp c_36
          refine z_iinc (v := tI k) (L' := [(0, .ref m), (1, .int (nI r)), (2, .int (nI d)), (3, .int (tI k))]) C d_M_top_41 rfl (nI_dec k) (by decide) rfl ?_
          refine z_goto (tgt := 3) C d_M_top_44 (by decide) ?_
          exact ih (by omega) (fun i hi => by
            rcases Nat.lt_or_ge k i with q | q
            · exact hz i q
            · rw [show i = k by omega, pg_at (by omega)]; first | rw [sel_0 c_8]; exact c_36 | rw [sel_1 c_8]; exact c_36)
        · have c_36 : ¬ (xF ((r * 13) + k)) = 0 := fun q => c_36 (fI_eq0.mpr q)
          refine z_iload_n C d_M_top_39 rfl rfl ?_
          refine z_top (y := tI (k + 1)) (tI_s k).symm ?_
          exact z_iret C ⟨k + 1, rfl, rfl, rfl, hz, fun m hm => by rw [show m = k by omega, pg_at (by omega)]; first | rw [sel_0 c_8]; exact c_36 | rw [sel_1 c_8]; exact c_36⟩ d_M_top_40
      · have c_8 : ¬ d = 0 := fun q => c_8 (congrArg nI q)
        refine z_aload_n C d_M_top_11 rfl rfl ?_
        refine z_get C in_M H.1 rfl 12 (by decide) fl_M_26 rfl rfl d_M_top_12 ?_
        refine z_iload_n C d_M_top_15 rfl rfl ?_
        refine z_bipush (v := nI 13) C d_M_top_16 (by decide) ?_
        refine z_imul C d_M_top_18 ?_
        refine z_top (y := nI (r * 13)) (pk_mul _ _) ?_
        refine z_iload_n C d_M_top_19 rfl rfl ?_
        refine z_iadd C d_M_top_20 ?_
        refine z_top (y := nI ((r * 13) + k)) (nI_add _ _) ?_
        refine z_iald C H.2.2.2.2.2.1 0 rfl ((r * 13) + k) (rfl) (by omega) (by omega) d_M_top_21 ?_
        refine z_top (y := fI (xG ((r * 13) + k))) rfl ?_
        refine z_goto (tgt := 36) C d_M_top_22 (by decide) ?_
        refine z_if_eq (tgt := 41) C d_M_top_36 (by decide) (fun c_36 => ?_) (fun c_36 => ?_)
        · have c_36 : (xG ((r * 13) + k)) = 0 := fI_eq0.mp c_36
          refine z_iinc (v := tI k) (L' := [(0, .ref m), (1, .int (nI r)), (2, .int (nI d)), (3, .int (tI k))]) C d_M_top_41 rfl (nI_dec k) (by decide) rfl ?_
          refine z_goto (tgt := 3) C d_M_top_44 (by decide) ?_
          exact ih (by omega) (fun i hi => by
            rcases Nat.lt_or_ge k i with q | q
            · exact hz i q
            · rw [show i = k by omega, pg_at (by omega)]; first | rw [sel_0 c_8]; exact c_36 | rw [sel_1 c_8]; exact c_36)
        · have c_36 : ¬ (xG ((r * 13) + k)) = 0 := fun q => c_36 (fI_eq0.mpr q)
          refine z_iload_n C d_M_top_39 rfl rfl ?_
          refine z_top (y := tI (k + 1)) (tI_s k).symm ?_
          exact z_iret C ⟨k + 1, rfl, rfl, rfl, hz, fun m hm => by rw [show m = k by omega, pg_at (by omega)]; first | rw [sel_0 c_8]; exact c_36 | rw [sel_1 c_8]; exact c_36⟩ d_M_top_40
  show Z X E 4 _ 0 0 sz M 0 [(0, .ref m), (1, .int (nI r)), (2, .int (nI d))] []
  refine z_bipush (v := tI 13) C d_M_top_0 (by decide) ?_
  refine z_istore_n (L' := [(0, .ref m), (1, .int (nI r)), (2, .int (nI d)), (3, .int (tI 13))]) C d_M_top_2 rfl (by decide) rfl ?_
  exact loop 13 (by omega) pg_z
set_option maxHeartbeats 4000000 in
/-- copy -/
theorem m_copy (E : zE) (l : Launch) (sz : Nat) (M : zM) {m : Nat} {xln : Nat → Nat} {xlen : Nat} {xlab : Nat} {xbad : Int32} {xlev : Nat} {xtr : Int32} {xwa : Nat} {xpl : Nat} {xfo : Nat} {xsf : Nat → Nat} {xbf : Nat → Nat} {xF : Nat → FF} {xG : Nat → FF} {xP : Nat → FF} {xQ : Nat → FF} {xmm : Nat → FF} {xsl : Nat → Nat} {xkd : Nat → Nat} {xhs : Nat → Nat} {xht : Nat → Nat} {xsg : Nat → Nat} {xdv : Nat → Nat} (H : mw E M m xln xlen xlab xbad xlev xtr xwa xpl xfo xsf xbf xF xG xP xQ xmm xsl xkd xhs xht xsg xdv) (f t : Nat) (hf : f < 78) (ht : t < 78) (hne : f ≠ t) : zMet E l y_M_copy c_M_copy 4 none { frames := 0, cells := 0, slots := 0, locals := 0 } 0 0 [.ref m, .int (nI f), .int (nI t)] sz M (fun v s M' => none = v ∧ sz = s ∧ zoutR M M' m (m + 15) ∧ mw E M' m xln xlen xlab xbad xlev xtr xwa xpl xfo xsf xbf (cpF xF f t 13) (cpF xG f t 13) xP xQ xmm xsl xkd xhs xht xsg xdv) := by
  refine zMet.ofZ (by decide) (Nat.le_of_ble_eq_true rfl) ?_
  intro X hl hini C
  have loop : ∀ (e i : Nat) (M1 : zM), i + e = 13 → mw E M1 m xln xlen xlab xbad xlev xtr xwa xpl xfo xsf xbf (cpF xF f t i) (cpF xG f t i) xP xQ xmm xsl xkd xhs xht xsg xdv → zoutR M M1 m (m + 15) → Z X E 4 (zQ X E 0 0 (fun v s M' => none = v ∧ sz = s ∧ zoutR M M' m (m + 15) ∧ mw E M' m xln xlen xlab xbad xlev xtr xwa xpl xfo xsf xbf (cpF xF f t 13) (cpF xG f t 13) xP xQ xmm xsl xkd xhs xht xsg xdv)) 0 0 sz M1 2 [(0, .ref m), (1, .int (nI f)), (2, .int (nI t)), (3, .int (nI i))] [] := by
    intro e
    induction e with
    | zero =>
      intro i M1 hi H1 hz1
      have hi : i = 13 := by omega
      subst hi
      refine z_iload_n C d_M_copy_2 rfl rfl ?_
      refine z_bipush (v := nI 13) C d_M_copy_3 (by decide) ?_
      refine z_icmp_ge (tgt := 58) C d_M_copy_5 (by decide) (fun _ => ?_) (fun c_5 => absurd (by decide) c_5)
      exact z_vret C ⟨rfl, rfl, hz1, H1⟩ d_M_copy_58
    | succ e ih =>
      intro i M1 hi H1 hz1
      refine z_iload_n C d_M_copy_2 rfl rfl ?_
      refine z_bipush (v := nI 13) C d_M_copy_3 (by decide) ?_
      refine z_icmp_ge (tgt := 58) C d_M_copy_5 (by decide) (fun c_5 => absurd c_5 (fun q => absurd ((nI_leI (a := 13) (b := i) (by omega) (by omega)).mp q) (by omega))) (fun _ => ?_)
      refine z_aload_n C d_M_copy_8 rfl rfl ?_
      refine z_get C in_M H1.1 rfl 11 (by decide) fl_M_23 rfl rfl d_M_copy_9 ?_
      refine z_iload_n C d_M_copy_12 rfl rfl ?_
      refine z_bipush (v := nI 13) C d_M_copy_13 (by decide) ?_
      refine z_imul C d_M_copy_15 ?_
      refine z_top (y := nI (t * 13)) (pk_mul _ _) ?_
      refine z_iload_n C d_M_copy_16 rfl rfl ?_
      refine z_iadd C d_M_copy_17 ?_
      refine z_top (y := nI ((t * 13) + i)) (nI_add _ _) ?_
      refine z_aload_n C d_M_copy_18 rfl rfl ?_
      refine z_get C in_M H1.1 rfl 11 (by decide) fl_M_23 rfl rfl d_M_copy_19 ?_
      refine z_iload_n C d_M_copy_22 rfl rfl ?_
      refine z_bipush (v := nI 13) C d_M_copy_23 (by decide) ?_
      refine z_imul C d_M_copy_25 ?_
      refine z_top (y := nI (f * 13)) (pk_mul _ _) ?_
      refine z_iload_n C d_M_copy_26 rfl rfl ?_
      refine z_iadd C d_M_copy_27 ?_
      refine z_top (y := nI ((f * 13) + i)) (nI_add _ _) ?_
      refine z_iald C H1.2.2.2.2.1 0 rfl ((f * 13) + i) (rfl) (by omega) (by omega) d_M_copy_28 ?_
      refine z_top (y := fI ((cpF xF f t i) ((f * 13) + i))) rfl ?_
      refine z_iast C H1.2.2.2.2.1 0 rfl ((t * 13) + i) (rfl) (by omega) (by omega) d_M_copy_29 ?_
      refine z_world (M' := zU M1 (m + 4) (.inl (E.2.1 0, 1014, .inl (fun j => fI ((updF (cpF xF f t i) ((t * 13) + i) ((cpF xF f t i) ((f * 13) + i))) j))))) (congrArg (fun e => zU M1 (m + 4) (.inl (E.2.1 0, 1014, .inl e))) fI_upd) ?_
      refine z_aload_n C d_M_copy_30 rfl rfl ?_
      refine z_get C in_M ((zU_ne (by omega)).trans H1.1) rfl 12 (by decide) fl_M_26 rfl rfl d_M_copy_31 ?_
      refine z_iload_n C d_M_copy_34 rfl rfl ?_
      refine z_bipush (v := nI 13) C d_M_copy_35 (by decide) ?_
      refine z_imul C d_M_copy_37 ?_
      refine z_top (y := nI (t * 13)) (pk_mul _ _) ?_
      refine z_iload_n C d_M_copy_38 rfl rfl ?_
      refine z_iadd C d_M_copy_39 ?_
      refine z_top (y := nI ((t * 13) + i)) (nI_add _ _) ?_
      refine z_aload_n C d_M_copy_40 rfl rfl ?_
      refine z_get C in_M ((zU_ne (by omega)).trans H1.1) rfl 12 (by decide) fl_M_26 rfl rfl d_M_copy_41 ?_
      refine z_iload_n C d_M_copy_44 rfl rfl ?_
      refine z_bipush (v := nI 13) C d_M_copy_45 (by decide) ?_
      refine z_imul C d_M_copy_47 ?_
      refine z_top (y := nI (f * 13)) (pk_mul _ _) ?_
      refine z_iload_n C d_M_copy_48 rfl rfl ?_
      refine z_iadd C d_M_copy_49 ?_
      refine z_top (y := nI ((f * 13) + i)) (nI_add _ _) ?_
      refine z_iald C ((zU_ne (by omega)).trans H1.2.2.2.2.2.1) 0 rfl ((f * 13) + i) (rfl) (by omega) (by omega) d_M_copy_50 ?_
      refine z_top (y := fI ((cpF xG f t i) ((f * 13) + i))) rfl ?_
      refine z_iast C ((zU_ne (by omega)).trans H1.2.2.2.2.2.1) 0 rfl ((t * 13) + i) (rfl) (by omega) (by omega) d_M_copy_51 ?_
      refine z_world (M' := zU (zU M1 (m + 4) (.inl (E.2.1 0, 1014, .inl (fun j => fI ((updF (cpF xF f t i) ((t * 13) + i) ((cpF xF f t i) ((f * 13) + i))) j))))) (m + 5) (.inl (E.2.1 0, 1014, .inl (fun j => fI ((updF (cpF xG f t i) ((t * 13) + i) ((cpF xG f t i) ((f * 13) + i))) j))))) (congrArg (fun e => zU (zU M1 (m + 4) (.inl (E.2.1 0, 1014, .inl (fun j => fI ((updF (cpF xF f t i) ((t * 13) + i) ((cpF xF f t i) ((f * 13) + i))) j))))) (m + 5) (.inl (E.2.1 0, 1014, .inl e))) fI_upd) ?_
      refine z_iinc (v := nI (i + 1)) (L' := [(0, .ref m), (1, .int (nI f)), (2, .int (nI t)), (3, .int (nI (i + 1)))]) C d_M_copy_52 rfl (nI_add _ 1) (by decide) rfl ?_
      refine z_goto (tgt := 2) C d_M_copy_55 (by decide) ?_
      refine ih (i + 1) _ (by omega) ?_ (zoutR_tr (zoutR_tr hz1 (zo_u (by omega) (by omega))) (zo_u (by omega) (by omega)))
      rw [← cpF_s hne (show i < 13 by omega), ← cpF_s hne (show i < 13 by omega)]
      exact (mw_a5 (mw_a4 H1 (updF (cpF xF f t i) ((t * 13) + i) ((cpF xF f t i) ((f * 13) + i)))) (updF (cpF xG f t i) ((t * 13) + i) ((cpF xG f t i) ((f * 13) + i))))
  show Z X E 4 _ 0 0 sz M 0 [(0, .ref m), (1, .int (nI f)), (2, .int (nI t))] []
  refine z_iconst (v := nI 0) C d_M_copy_0 (by decide) ?_
  refine z_istore_n (L' := [(0, .ref m), (1, .int (nI f)), (2, .int (nI t)), (3, .int (nI 0))]) C d_M_copy_1 rfl (by decide) rfl ?_
  exact loop 13 0 M (by omega) (by rw [cpF_0, cpF_0]; exact H) zoutR_rf
set_option maxHeartbeats 4000000 in
/-- constant -/
theorem m_constant (E : zE) (l : Launch) (sz : Nat) (M : zM) {m : Nat} {xln : Nat → Nat} {xlen : Nat} {xlab : Nat} {xbad : Int32} {xlev : Nat} {xtr : Int32} {xwa : Nat} {xpl : Nat} {xfo : Nat} {xsf : Nat → Nat} {xbf : Nat → Nat} {xF : Nat → FF} {xG : Nat → FF} {xP : Nat → FF} {xQ : Nat → FF} {xmm : Nat → FF} {xsl : Nat → Nat} {xkd : Nat → Nat} {xhs : Nat → Nat} {xht : Nat → Nat} {xsg : Nat → Nat} {xdv : Nat → Nat} (H : mw E M m xln xlen xlab xbad xlev xtr xwa xpl xfo xsf xbf xF xG xP xQ xmm xsl xkd xhs xht xsg xdv) (t : Nat) (ht : t < 78) (v0 : FF) : zMet E l y_M_constant c_M_constant 4 none { frames := 0, cells := 0, slots := 0, locals := 0 } 0 0 [.ref m, .int (nI t), .int (fI v0)] sz M (fun v s M' => none = v ∧ sz = s ∧ zoutR M M' m (m + 15) ∧ mw E M' m xln xlen xlab xbad xlev xtr xwa xpl xfo xsf xbf (coF xF t v0 13) (coF xG t 1 13) xP xQ xmm xsl xkd xhs xht xsg xdv) := by
  refine zMet.ofZ (by decide) (Nat.le_of_ble_eq_true rfl) ?_
  intro X hl hini C
  have loop : ∀ (e i : Nat) (M1 : zM), i + e = 13 → mw E M1 m xln xlen xlab xbad xlev xtr xwa xpl xfo xsf xbf (coF xF t 0 i) (coF xG t 0 i) xP xQ xmm xsl xkd xhs xht xsg xdv → zoutR M M1 m (m + 15) → Z X E 4 (zQ X E 0 0 (fun v s M' => none = v ∧ sz = s ∧ zoutR M M' m (m + 15) ∧ mw E M' m xln xlen xlab xbad xlev xtr xwa xpl xfo xsf xbf (coF xF t v0 13) (coF xG t 1 13) xP xQ xmm xsl xkd xhs xht xsg xdv)) 0 0 sz M1 2 [(0, .ref m), (1, .int (nI t)), (2, .int (fI v0)), (3, .int (nI i))] [] := by
    intro e
    induction e with
    | zero =>
      intro i M1 hi H1 hz1
      have hi : i = 13 := by omega
      subst hi
      refine z_iload_n C d_M_constant_2 rfl rfl ?_
      refine z_bipush (v := nI 13) C d_M_constant_3 (by decide) ?_
      refine z_icmp_ge (tgt := 38) C d_M_constant_5 (by decide) (fun _ => ?_) (fun c_5 => absurd (by decide) c_5)
      refine z_aload_n C d_M_constant_38 rfl rfl ?_
      refine z_get C in_M H1.1 rfl 11 (by decide) fl_M_23 rfl rfl d_M_constant_39 ?_
      refine z_iload_n C d_M_constant_42 rfl rfl ?_
      refine z_bipush (v := nI 13) C d_M_constant_43 (by decide) ?_
      refine z_imul C d_M_constant_45 ?_
      refine z_top (y := nI (t * 13)) (pk_mul _ _) ?_
      refine z_iload_n C d_M_constant_46 rfl rfl ?_
      refine z_iast C H1.2.2.2.2.1 0 rfl (t * 13) (rfl) (by omega) (by omega) d_M_constant_47 ?_
      refine z_world (M' := zU M1 (m + 4) (.inl (E.2.1 0, 1014, .inl (fun j => fI ((updF (coF xF t 0 13) (t * 13) v0) j))))) (congrArg (fun e => zU M1 (m + 4) (.inl (E.2.1 0, 1014, .inl e))) fI_upd) ?_
      refine z_aload_n C d_M_constant_48 rfl rfl ?_
      refine z_get C in_M ((zU_ne (by omega)).trans H1.1) rfl 12 (by decide) fl_M_26 rfl rfl d_M_constant_49 ?_
      refine z_iload_n C d_M_constant_52 rfl rfl ?_
      refine z_bipush (v := nI 13) C d_M_constant_53 (by decide) ?_
      refine z_imul C d_M_constant_55 ?_
      refine z_top (y := nI (t * 13)) (pk_mul _ _) ?_
      refine z_iconst (v := fI 1) C d_M_constant_56 (by decide) ?_
      refine z_iast C ((zU_ne (by omega)).trans H1.2.2.2.2.2.1) 0 rfl (t * 13) (rfl) (by omega) (by omega) d_M_constant_57 ?_
      refine z_world (M' := zU (zU M1 (m + 4) (.inl (E.2.1 0, 1014, .inl (fun j => fI ((updF (coF xF t 0 13) (t * 13) v0) j))))) (m + 5) (.inl (E.2.1 0, 1014, .inl (fun j => fI ((updF (coF xG t 0 13) (t * 13) 1) j))))) (congrArg (fun e => zU (zU M1 (m + 4) (.inl (E.2.1 0, 1014, .inl (fun j => fI ((updF (coF xF t 0 13) (t * 13) v0) j))))) (m + 5) (.inl (E.2.1 0, 1014, .inl e))) fI_upd) ?_
      refine z_vret C ⟨rfl, rfl, (zoutR_tr (zoutR_tr hz1 (zo_u (by omega) (by omega))) (zo_u (by omega) (by omega))), ?_⟩ d_M_constant_58
      rw [← coF_v (v := v0), ← coF_v (v := (1 : FF))]
      exact (mw_a5 (mw_a4 H1 (updF (coF xF t 0 13) (t * 13) v0)) (updF (coF xG t 0 13) (t * 13) 1))
    | succ e ih =>
      intro i M1 hi H1 hz1
      refine z_iload_n C d_M_constant_2 rfl rfl ?_
      refine z_bipush (v := nI 13) C d_M_constant_3 (by decide) ?_
      refine z_icmp_ge (tgt := 38) C d_M_constant_5 (by decide) (fun c_5 => absurd c_5 (fun q => absurd ((nI_leI (a := 13) (b := i) (by omega) (by omega)).mp q) (by omega))) (fun _ => ?_)
      refine z_aload_n C d_M_constant_8 rfl rfl ?_
      refine z_get C in_M H1.1 rfl 11 (by decide) fl_M_23 rfl rfl d_M_constant_9 ?_
      refine z_iload_n C d_M_constant_12 rfl rfl ?_
      refine z_bipush (v := nI 13) C d_M_constant_13 (by decide) ?_
      refine z_imul C d_M_constant_15 ?_
      refine z_top (y := nI (t * 13)) (pk_mul _ _) ?_
      refine z_iload_n C d_M_constant_16 rfl rfl ?_
      refine z_iadd C d_M_constant_17 ?_
      refine z_top (y := nI ((t * 13) + i)) (nI_add _ _) ?_
      refine z_iconst (v := fI 0) C d_M_constant_18 (by decide) ?_
      refine z_iast C H1.2.2.2.2.1 0 rfl ((t * 13) + i) (rfl) (by omega) (by omega) d_M_constant_19 ?_
      refine z_world (M' := zU M1 (m + 4) (.inl (E.2.1 0, 1014, .inl (fun j => fI ((updF (coF xF t 0 i) ((t * 13) + i) 0) j))))) (congrArg (fun e => zU M1 (m + 4) (.inl (E.2.1 0, 1014, .inl e))) fI_upd) ?_
      refine z_aload_n C d_M_constant_20 rfl rfl ?_
      refine z_get C in_M ((zU_ne (by omega)).trans H1.1) rfl 12 (by decide) fl_M_26 rfl rfl d_M_constant_21 ?_
      refine z_iload_n C d_M_constant_24 rfl rfl ?_
      refine z_bipush (v := nI 13) C d_M_constant_25 (by decide) ?_
      refine z_imul C d_M_constant_27 ?_
      refine z_top (y := nI (t * 13)) (pk_mul _ _) ?_
      refine z_iload_n C d_M_constant_28 rfl rfl ?_
      refine z_iadd C d_M_constant_29 ?_
      refine z_top (y := nI ((t * 13) + i)) (nI_add _ _) ?_
      refine z_iconst (v := fI 0) C d_M_constant_30 (by decide) ?_
      refine z_iast C ((zU_ne (by omega)).trans H1.2.2.2.2.2.1) 0 rfl ((t * 13) + i) (rfl) (by omega) (by omega) d_M_constant_31 ?_
      refine z_world (M' := zU (zU M1 (m + 4) (.inl (E.2.1 0, 1014, .inl (fun j => fI ((updF (coF xF t 0 i) ((t * 13) + i) 0) j))))) (m + 5) (.inl (E.2.1 0, 1014, .inl (fun j => fI ((updF (coF xG t 0 i) ((t * 13) + i) 0) j))))) (congrArg (fun e => zU (zU M1 (m + 4) (.inl (E.2.1 0, 1014, .inl (fun j => fI ((updF (coF xF t 0 i) ((t * 13) + i) 0) j))))) (m + 5) (.inl (E.2.1 0, 1014, .inl e))) fI_upd) ?_
      refine z_iinc (v := nI (i + 1)) (L' := [(0, .ref m), (1, .int (nI t)), (2, .int (fI v0)), (3, .int (nI (i + 1)))]) C d_M_constant_32 rfl (nI_add _ 1) (by decide) rfl ?_
      refine z_goto (tgt := 2) C d_M_constant_35 (by decide) ?_
      refine ih (i + 1) _ (by omega) ?_ (zoutR_tr (zoutR_tr hz1 (zo_u (by omega) (by omega))) (zo_u (by omega) (by omega)))
      rw [← coF_s, ← coF_s]
      exact (mw_a5 (mw_a4 H1 (updF (coF xF t 0 i) ((t * 13) + i) 0)) (updF (coF xG t 0 i) ((t * 13) + i) 0))
  show Z X E 4 _ 0 0 sz M 0 [(0, .ref m), (1, .int (nI t)), (2, .int (fI v0))] []
  refine z_iconst (v := nI 0) C d_M_constant_0 (by decide) ?_
  refine z_istore_n (L' := [(0, .ref m), (1, .int (nI t)), (2, .int (fI v0)), (3, .int (nI 0))]) C d_M_constant_1 rfl (by decide) rfl ?_
  exact loop 13 0 M (by omega) (by rw [coF_0, coF_0]; exact H) zoutR_rf
def mi_loop : Nat → Nat → Nat → Nat
  | 0, _, r => r
  | b + 1, v, r => mi_loop b v (if (10005 >>> b) % 2 = 0 then r * r % 10007 else r * r % 10007 * v % 10007)
set_option maxRecDepth 100000 in
theorem mi_all : (List.range 10007).all (fun a => Nat.beq (mi_loop 14 a 1) (fi a)) = true := by decide +kernel
theorem mi_eq (v : FF) : mi_loop 14 v.val 1 = (ff_inv v).val := by
  have h := List.all_eq_true.mp mi_all v.val (List.mem_range.mpr v.isLt)
  have h2 := Nat.eq_of_beq_eq_true h
  rw [h2]
  show fi v.val = fi v.val % 10007
  rw [Nat.mod_eq_of_lt (fi_lt v.isLt)]
theorem bit_10005 {b : Nat} (h : b < 14) : ((nI 10005 >>> (nI b &&& 31)) &&& nI 1) = nI ((10005 >>> b) % 2) := by
  have : ∀ b, b < 14 → ((nI 10005 >>> (nI b &&& 31)) &&& nI 1) = nI ((10005 >>> b) % 2) := by decide
  exact this b h
set_option maxHeartbeats 4000000 in
/-- inverse -/
theorem m_inverse (E : zE) (l : Launch) (sz : Nat) (M : zM) {m : Nat} {xln : Nat → Nat} {xlen : Nat} {xlab : Nat} {xbad : Int32} {xlev : Nat} {xtr : Int32} {xwa : Nat} {xpl : Nat} {xfo : Nat} {xsf : Nat → Nat} {xbf : Nat → Nat} {xF : Nat → FF} {xG : Nat → FF} {xP : Nat → FF} {xQ : Nat → FF} {xmm : Nat → FF} {xsl : Nat → Nat} {xkd : Nat → Nat} {xhs : Nat → Nat} {xht : Nat → Nat} {xsg : Nat → Nat} {xdv : Nat → Nat} (H : mw E M m xln xlen xlab xbad xlev xtr xwa xpl xfo xsf xbf xF xG xP xQ xmm xsl xkd xhs xht xsg xdv) (v0 : FF) : zMet E l y_M_inverse c_M_inverse 4 (some .int) { frames := 0, cells := 0, slots := 0, locals := 0 } 0 0 [.ref m, .int (fI v0)] sz M (zRet (some (.int (fI (ff_inv v0)))) sz M) := by
  have hv0 := v0.isLt
  refine zMet.ofZ (by decide) (Nat.le_of_ble_eq_true rfl) ?_
  intro X hl hini C
  have loop : ∀ (b r : Nat), b ≤ 14 → r < 10007 → mi_loop b v0.val r = (ff_inv v0).val → Z X E 4 (zQ X E 0 0 (zRet (some (.int (fI (ff_inv v0)))) sz M)) 0 0 sz M 5 [(0, .ref m), (1, .int (fI v0)), (2, .int (nI r)), (3, .int (tI b))] [] := by
    intro b
    induction b with
    | zero =>
      intro r hb hr he
      refine z_iload_n C d_M_inverse_5 rfl rfl ?_
      refine z_if_lt (tgt := 41) C d_M_inverse_6 (by decide) (fun _ => ?_) (fun c_6 => absurd (by decide) c_6)
      refine z_iload_n C d_M_inverse_41 rfl rfl ?_
      have he2 : r = (ff_inv v0).val := he
      exact z_iret C ⟨by rw [he2]; rfl, rfl, rfl⟩ d_M_inverse_42
    | succ b ih =>
      intro r hb hr he
      rw [tI_s b]
      have hrr : r * r ≤ 10006 * 10006 := Nat.mul_le_mul (by omega) (by omega)
      have hm : r * r % 10007 < 10007 := Nat.mod_lt _ (by decide)
      have hmv : r * r % 10007 * v0.val ≤ 10006 * 10006 := Nat.mul_le_mul (by omega) (by omega)
      have hb2 := bit_10005 (b := b) (by omega)
      refine z_iload_n C d_M_inverse_5 rfl rfl ?_
      refine z_if_lt (tgt := 41) C d_M_inverse_6 (by decide) (fun c_6 => absurd c_6 (fun q => absurd ((nI_ltI (a := b) (b := 0) (by omega) (by omega)).mp q) (by omega))) (fun _ => ?_)
      refine z_iload_n C d_M_inverse_9 rfl rfl ?_
      refine z_iload_n C d_M_inverse_10 rfl rfl ?_
      refine z_imul C d_M_inverse_11 ?_
      refine z_top (y := nI (r * r)) (pk_mul _ _) ?_
      refine z_sipush (v := nI 10007) C d_M_inverse_12 (by decide) ?_
      refine z_irem C d_M_inverse_15 (by decide) ?_
      refine z_top (y := nI ((r * r) % 10007)) (pk_rem (by omega) (by decide) (by decide)) ?_
      refine z_istore_n (L' := [(0, .ref m), (1, .int (fI v0)), (2, .int (nI ((r * r) % 10007))), (3, .int (nI b))]) C d_M_inverse_16 rfl (by decide) rfl ?_
      refine z_sipush (v := nI 10005) C d_M_inverse_17 (by decide) ?_
      refine z_iload_n C d_M_inverse_20 rfl rfl ?_
      refine z_ishr C d_M_inverse_21 ?_
      refine z_iconst (v := nI 1) C d_M_inverse_22 (by decide) ?_
      refine z_iand C d_M_inverse_23 ?_
      refine z_top (y := nI ((10005 >>> b) % 2)) hb2 ?_
      refine z_if_eq (tgt := 35) C d_M_inverse_24 (by decide) (fun c_24 => ?_) (fun c_24 => ?_)
      · have c_24 : ((10005 >>> b) % 2) = 0 := (nI_eq (a := ((10005 >>> b) % 2)) (b := 0) (by omega) (by omega)).mp c_24
        refine z_iinc (v := tI b) (L' := [(0, .ref m), (1, .int (fI v0)), (2, .int (nI ((r * r) % 10007))), (3, .int (tI b))]) C d_M_inverse_35 rfl (nI_dec b) (by decide) rfl ?_
        refine z_goto (tgt := 5) C d_M_inverse_38 (by decide) ?_
        refine ih _ (by omega) (Nat.mod_lt _ (by decide)) ?_
        rw [← he, mi_loop, if_pos c_24]
      · have c_24 : ¬ ((10005 >>> b) % 2) = 0 := fun q => c_24 (congrArg nI q)
        refine z_iload_n C d_M_inverse_27 rfl rfl ?_
        refine z_iload_n C d_M_inverse_28 rfl rfl ?_
        refine z_top (y := nI v0.val) rfl ?_
        refine z_imul C d_M_inverse_29 ?_
        refine z_top (y := nI (((r * r) % 10007) * v0.val)) (pk_mul _ _) ?_
        refine z_sipush (v := nI 10007) C d_M_inverse_30 (by decide) ?_
        refine z_irem C d_M_inverse_33 (by decide) ?_
        refine z_top (y := nI ((((r * r) % 10007) * v0.val) % 10007)) (pk_rem (by omega) (by decide) (by decide)) ?_
        refine z_istore_n (L' := [(0, .ref m), (1, .int (fI v0)), (2, .int (nI ((((r * r) % 10007) * v0.val) % 10007))), (3, .int (nI b))]) C d_M_inverse_34 rfl (by decide) rfl ?_
        refine z_iinc (v := tI b) (L' := [(0, .ref m), (1, .int (fI v0)), (2, .int (nI ((((r * r) % 10007) * v0.val) % 10007))), (3, .int (tI b))]) C d_M_inverse_35 rfl (nI_dec b) (by decide) rfl ?_
        refine z_goto (tgt := 5) C d_M_inverse_38 (by decide) ?_
        refine ih _ (by omega) (Nat.mod_lt _ (by decide)) ?_
        rw [← he, mi_loop, if_neg c_24]
  show Z X E 4 _ 0 0 sz M 0 [(0, .ref m), (1, .int (fI v0))] []
  refine z_iconst (v := nI 1) C d_M_inverse_0 (by decide) ?_
  refine z_istore_n (L' := [(0, .ref m), (1, .int (fI v0)), (2, .int (nI 1))]) C d_M_inverse_1 rfl (by decide) rfl ?_
  refine z_bipush (v := tI 14) C d_M_inverse_2 (by decide) ?_
  refine z_istore_n (L' := [(0, .ref m), (1, .int (fI v0)), (2, .int (nI 1)), (3, .int (tI 14))]) C d_M_inverse_4 rfl (by decide) rfl ?_
  exact loop 14 1 (by omega) (by omega) (mi_eq v0)
def blF (F : Nat → FF) (i : Nat) : Nat → FF := fun j => if j < i then 0 else F j
theorem blF_s {F : Nat → FF} {i : Nat} : updF (blF F i) i 0 = blF F (i + 1) := by
  funext j
  unfold updF blF
  by_cases h : j = i
  · rw [if_pos h, if_pos (by omega)]
  · rw [if_neg h]
    by_cases h2 : j < i
    · rw [if_pos h2, if_pos (by omega)]
    · rw [if_neg h2, if_neg (by omega)]
theorem blF_m {F : Nat → FF} {i : Nat} (h : i < 40) : updF (blF F (min i 40)) i 0 = blF F (min (i + 1) 40) := by
  rw [show min i 40 = i by omega, show min (i + 1) 40 = i + 1 by omega]
  exact blF_s
theorem blF_0 (F : Nat → FF) : blF F 0 = F := by
  funext j
  unfold blF
  rw [if_neg (by omega)]
set_option maxHeartbeats 4000000 in
/-- blank -/
theorem m_blank (E : zE) (l : Launch) (sz : Nat) (M : zM) {m : Nat} {xln : Nat → Nat} {xlen : Nat} {xlab : Nat} {xbad : Int32} {xlev : Nat} {xtr : Int32} {xwa : Nat} {xpl : Nat} {xfo : Nat} {xsf : Nat → Nat} {xbf : Nat → Nat} {xF : Nat → FF} {xG : Nat → FF} {xP : Nat → FF} {xQ : Nat → FF} {xmm : Nat → FF} {xsl : Nat → Nat} {xkd : Nat → Nat} {xhs : Nat → Nat} {xht : Nat → Nat} {xsg : Nat → Nat} {xdv : Nat → Nat} (H : mw E M m xln xlen xlab xbad xlev xtr xwa xpl xfo xsf xbf xF xG xP xQ xmm xsl xkd xhs xht xsg xdv) : zMet E l y_M_blank c_M_blank 2 none { frames := 0, cells := 0, slots := 0, locals := 0 } 0 0 [.ref m] sz M (fun v s M' => none = v ∧ sz = s ∧ zoutR M M' m (m + 15) ∧ mw E M' m xln xlen xlab xbad xlev xtr xwa xpl xfo xsf xbf xF xG (blF xP 40) (blF xQ 40) xmm xsl xkd xhs xht xsg xdv) := by
  refine zMet.ofZ (by decide) (Nat.le_of_ble_eq_true rfl) ?_
  intro X hl hini C
  have loop : ∀ (e i : Nat) (M1 : zM), i + e = 80 → mw E M1 m xln xlen xlab xbad xlev xtr xwa xpl xfo xsf xbf xF xG (blF xP (min i 40)) (blF xQ (i - 40)) xmm xsl xkd xhs xht xsg xdv → zoutR M M1 m (m + 15) → Z X E 2 (zQ X E 0 0 (fun v s M' => none = v ∧ sz = s ∧ zoutR M M' m (m + 15) ∧ mw E M' m xln xlen xlab xbad xlev xtr xwa xpl xfo xsf xbf xF xG (blF xP 40) (blF xQ 40) xmm xsl xkd xhs xht xsg xdv)) 0 0 sz M1 2 [(0, .ref m), (1, .int (nI i))] [] := by
    intro e
    induction e with
    | zero =>
      intro i M1 hi H1 hz1
      have hi : i = 80 := by omega
      subst hi
      refine z_iload_n C d_M_blank_2 rfl rfl ?_
      refine z_bipush (v := nI 80) C d_M_blank_3 (by decide) ?_
      refine z_icmp_ge (tgt := 40) C d_M_blank_5 (by decide) (fun _ => ?_) (fun c_5 => absurd (by decide) c_5)
      exact z_vret C ⟨rfl, rfl, hz1, H1⟩ d_M_blank_40
    | succ e ih =>
      intro i M1 hi H1 hz1
      refine z_iload_n C d_M_blank_2 rfl rfl ?_
      refine z_bipush (v := nI 80) C d_M_blank_3 (by decide) ?_
      refine z_icmp_ge (tgt := 40) C d_M_blank_5 (by decide) (fun c_5 => absurd c_5 (fun q => absurd ((nI_leI (a := 80) (b := i) (by omega) (by omega)).mp q) (by omega))) (fun _ => ?_)
      refine z_iload_n C d_M_blank_8 rfl rfl ?_
      refine z_bipush (v := nI 40) C d_M_blank_9 (by decide) ?_
      refine z_icmp_ge (tgt := 24) C d_M_blank_11 (by decide) (fun c_11 => ?_) (fun c_11 => ?_)
      · have c_11 : 40 ≤ i := (nI_leI (a := 40) (b := i) (by omega) (by omega)).mp c_11
        refine z_aload_n C d_M_blank_24 rfl rfl ?_
        refine z_get C in_M H1.1 rfl 14 (by decide) fl_M_32 rfl rfl d_M_blank_25 ?_
        refine z_iload_n C d_M_blank_28 rfl rfl ?_
        refine z_bipush (v := nI 40) C d_M_blank_29 (by decide) ?_
        refine z_isub C d_M_blank_31 ?_
        refine z_top (y := nI (i - 40)) (pk_sub (by omega)) ?_
        refine z_iconst (v := fI 0) C d_M_blank_32 (by decide) ?_
        refine z_iast C H1.2.2.2.2.2.2.2.1 0 rfl (i - 40) (rfl) (by omega) (by omega) d_M_blank_33 ?_
        refine z_world (M' := zU M1 (m + 7) (.inl (E.2.1 0, 40, .inl (fun j => fI ((updF (blF xQ (i - 40)) (i - 40) 0) j))))) (congrArg (fun e => zU M1 (m + 7) (.inl (E.2.1 0, 40, .inl e))) fI_upd) ?_
        refine z_iinc (v := nI (i + 1)) (L' := [(0, .ref m), (1, .int (nI (i + 1)))]) C d_M_blank_34 rfl (nI_add _ 1) (by decide) rfl ?_
        refine z_goto (tgt := 2) C d_M_blank_37 (by decide) ?_
        refine ih (i + 1) _ (by omega) ?_ (zoutR_tr hz1 (zo_u (by omega) (by omega)))
        rw [show min (i + 1) 40 = min i 40 by omega, show i + 1 - 40 = i - 40 + 1 by omega, ← blF_s]
        exact (mw_a7 H1 (updF (blF xQ (i - 40)) (i - 40) 0))
      · have c_11 : i < 40 := Nat.not_le.mp (fun q => c_11 ((nI_leI (a := 40) (b := i) (by omega) (by omega)).mpr q))
        refine z_aload_n C d_M_blank_14 rfl rfl ?_
        refine z_get C in_M H1.1 rfl 13 (by decide) fl_M_29 rfl rfl d_M_blank_15 ?_
        refine z_iload_n C d_M_blank_18 rfl rfl ?_
        refine z_iconst (v := fI 0) C d_M_blank_19 (by decide) ?_
        refine z_iast C H1.2.2.2.2.2.2.1 0 rfl i (rfl) (by omega) (by omega) d_M_blank_20 ?_
        refine z_world (M' := zU M1 (m + 6) (.inl (E.2.1 0, 40, .inl (fun j => fI ((updF (blF xP (min i 40)) i 0) j))))) (congrArg (fun e => zU M1 (m + 6) (.inl (E.2.1 0, 40, .inl e))) fI_upd) ?_
        refine z_goto (tgt := 34) C d_M_blank_21 (by decide) ?_
        refine z_iinc (v := nI (i + 1)) (L' := [(0, .ref m), (1, .int (nI (i + 1)))]) C d_M_blank_34 rfl (nI_add _ 1) (by decide) rfl ?_
        refine z_goto (tgt := 2) C d_M_blank_37 (by decide) ?_
        refine ih (i + 1) _ (by omega) ?_ (zoutR_tr hz1 (zo_u (by omega) (by omega)))
        rw [show i + 1 - 40 = i - 40 by omega, ← blF_m (show i < 40 by omega)]
        exact (mw_a6 H1 (updF (blF xP (min i 40)) i 0))
  show Z X E 2 _ 0 0 sz M 0 [(0, .ref m)] []
  refine z_iconst (v := nI 0) C d_M_blank_0 (by decide) ?_
  refine z_istore_n (L' := [(0, .ref m), (1, .int (nI 0))]) C d_M_blank_1 rfl (by decide) rfl ?_
  exact loop 80 0 M (by omega) (by rw [show min 0 40 = 0 from rfl, show 0 - 40 = 0 from rfl, blF_0, blF_0]; exact H) zoutR_rf
set_option maxHeartbeats 4000000 in
/-- topOf -/
theorem m_topOf (E : zE) (l : Launch) (sz : Nat) (M : zM) {m : Nat} {xln : Nat → Nat} {xlen : Nat} {xlab : Nat} {xbad : Int32} {xlev : Nat} {xtr : Int32} {xwa : Nat} {xpl : Nat} {xfo : Nat} {xsf : Nat → Nat} {xbf : Nat → Nat} {xF : Nat → FF} {xG : Nat → FF} {xP : Nat → FF} {xQ : Nat → FF} {xmm : Nat → FF} {xsl : Nat → Nat} {xkd : Nat → Nat} {xhs : Nat → Nat} {xht : Nat → Nat} {xsg : Nat → Nat} {xdv : Nat → Nat} (H : mw E M m xln xlen xlab xbad xlev xtr xwa xpl xfo xsf xbf xF xG xP xQ xmm xsl xkd xhs xht xsg xdv) (d : Nat) (hd : d ≤ 1) : zMet E l y_M_topOf c_M_topOf 3 (some .int) { frames := 0, cells := 0, slots := 0, locals := 0 } 0 0 [.ref m, .int (nI d)] sz M (fun v s M' => ∃ k, some (.int (tI k)) = v ∧ sz = s ∧ M = M' ∧ isC (ps_tr (sel d xP xQ) 40) k ∧ k ≤ 40) := by
  refine zMet.ofZ (by decide) (Nat.le_of_ble_eq_true rfl) ?_
  intro X hl hini C
  have loop : ∀ k, k ≤ 40 → (∀ i, k ≤ i → ps_tr (sel d xP xQ) 40 i = 0) → Z X E 3 (zQ X E 0 0 (fun v s M' => ∃ k, some (.int (tI k)) = v ∧ sz = s ∧ M = M' ∧ isC (ps_tr (sel d xP xQ) 40) k ∧ k ≤ 40)) 0 0 sz M 3 [(0, .ref m), (1, .int (nI d)), (2, .int (tI k))] [] := by
    intro k
    induction k with
    | zero =>
      intro hk hz
      refine z_iload_n C d_M_topOf_3 rfl rfl ?_
      refine z_if_lt (tgt := 37) C d_M_topOf_4 (by decide) (fun _ => ?_) (fun c_4 => absurd (by decide) c_4)
      refine z_iconst (v := tI 0) C d_M_topOf_37 (by decide) ?_
      exact z_iret C ⟨0, rfl, rfl, rfl, ⟨hz, fun m hm => by omega⟩, by omega⟩ d_M_topOf_38
    | succ k ih =>
      intro hk hz
      rw [tI_s k]
      refine z_iload_n C d_M_topOf_3 rfl rfl ?_
      refine z_if_lt (tgt := 37) C d_M_topOf_4 (by decide) (fun c_4 => absurd c_4 (fun q => absurd ((nI_ltI (a := k) (b := 0) (by omega) (by omega)).mp q) (by omega))) (fun _ => ?_)
      refine z_iload_n C d_M_topOf_7 rfl rfl ?_
      refine z_if_eq (tgt := 20) C d_M_topOf_8 (by decide) (fun c_8 => ?_) (fun c_8 => ?_)
      · have c_8 : d = 0 := (nI_eq (a := d) (b := 0) (by omega) (by omega)).mp c_8
        refine z_aload_n C d_M_topOf_20 rfl rfl ?_
        refine z_get C in_M H.1 rfl 13 (by decide) fl_M_29 rfl rfl d_M_topOf_21 ?_
        refine z_iload_n C d_M_topOf_24 rfl rfl ?_
        refine z_iald C H.2.2.2.2.2.2.1 0 rfl k (rfl) (by omega) (by omega) d_M_topOf_25 ?_
        refine z_top (y := fI (xP k)) rfl ?_
        refine z_if_eq (tgt := 31) C d_M_topOf_26 (by decide) (fun c_26 => ?_) (fun c_26 => ?_)
        · have c_26 : (xP k) = 0 := fI_eq0.mp c_26
          refine z_iinc (v := tI k) (L' := [(0, .ref m), (1, .int (nI d)), (2, .int (tI k))]) C d_M_topOf_31 rfl (nI_dec k) (by decide) rfl ?_
          refine z_goto (tgt := 3) C d_M_topOf_34 (by decide) ?_
          exact ih (by omega) (fun i hi => by
            rcases Nat.lt_or_ge k i with q | q
            · exact hz i q
            · rw [show i = k by omega, ps_tr, if_pos (by omega)]; first | rw [sel_0 c_8]; exact c_26 | rw [sel_1 c_8]; exact c_26)
        · have c_26 : ¬ (xP k) = 0 := fun q => c_26 (fI_eq0.mpr q)
          refine z_iload_n C d_M_topOf_29 rfl rfl ?_
          refine z_top (y := tI (k + 1)) (tI_s k).symm ?_
          exact z_iret C ⟨k + 1, rfl, rfl, rfl, ⟨hz, fun m hm => by rw [show m = k by omega, ps_tr, if_pos (by omega)]; first | rw [sel_0 c_8]; exact c_26 | rw [sel_1 c_8]; exact c_26⟩, hk⟩ d_M_topOf_30
      · have c_8 : ¬ d = 0 := fun q => c_8 (congrArg nI q)
        refine z_aload_n C d_M_topOf_11 rfl rfl ?_
        refine z_get C in_M H.1 rfl 14 (by decide) fl_M_32 rfl rfl d_M_topOf_12 ?_
        refine z_iload_n C d_M_topOf_15 rfl rfl ?_
        refine z_iald C H.2.2.2.2.2.2.2.1 0 rfl k (rfl) (by omega) (by omega) d_M_topOf_16 ?_
        refine z_top (y := fI (xQ k)) rfl ?_
        refine z_goto (tgt := 26) C d_M_topOf_17 (by decide) ?_
        refine z_if_eq (tgt := 31) C d_M_topOf_26 (by decide) (fun c_26 => ?_) (fun c_26 => ?_)
        · have c_26 : (xQ k) = 0 := fI_eq0.mp c_26
          refine z_iinc (v := tI k) (L' := [(0, .ref m), (1, .int (nI d)), (2, .int (tI k))]) C d_M_topOf_31 rfl (nI_dec k) (by decide) rfl ?_
          refine z_goto (tgt := 3) C d_M_topOf_34 (by decide) ?_
          exact ih (by omega) (fun i hi => by
            rcases Nat.lt_or_ge k i with q | q
            · exact hz i q
            · rw [show i = k by omega, ps_tr, if_pos (by omega)]; first | rw [sel_0 c_8]; exact c_26 | rw [sel_1 c_8]; exact c_26)
        · have c_26 : ¬ (xQ k) = 0 := fun q => c_26 (fI_eq0.mpr q)
          refine z_iload_n C d_M_topOf_29 rfl rfl ?_
          refine z_top (y := tI (k + 1)) (tI_s k).symm ?_
          exact z_iret C ⟨k + 1, rfl, rfl, rfl, ⟨hz, fun m hm => by rw [show m = k by omega, ps_tr, if_pos (by omega)]; first | rw [sel_0 c_8]; exact c_26 | rw [sel_1 c_8]; exact c_26⟩, hk⟩ d_M_topOf_30
  show Z X E 3 _ 0 0 sz M 0 [(0, .ref m), (1, .int (nI d))] []
  refine z_bipush (v := tI 40) C d_M_topOf_0 (by decide) ?_
  refine z_istore_n (L' := [(0, .ref m), (1, .int (nI d)), (2, .int (tI 40))]) C d_M_topOf_2 rfl (by decide) rfl ?_
  exact loop 40 (by omega) (fun i hi => if_neg (by omega))
set_option maxHeartbeats 4000000 in
/-- unknown -/
theorem m_unknown (E : zE) (l : Launch) (sz : Nat) (M : zM) {m : Nat} {xln : Nat → Nat} {xlen : Nat} {xlab : Nat} {xbad : Int32} {xlev : Nat} {xtr : Int32} {xwa : Nat} {xpl : Nat} {xfo : Nat} {xsf : Nat → Nat} {xbf : Nat → Nat} {xF : Nat → FF} {xG : Nat → FF} {xP : Nat → FF} {xQ : Nat → FF} {xmm : Nat → FF} {xsl : Nat → Nat} {xkd : Nat → Nat} {xhs : Nat → Nat} {xht : Nat → Nat} {xsg : Nat → Nat} {xdv : Nat → Nat} (H : mw E M m xln xlen xlab xbad xlev xtr xwa xpl xfo xsf xbf xF xG xP xQ xmm xsl xkd xhs xht xsg xdv) (j n : Nat) (hj : j < 26) (hn : n < 26) (hs : xsl j ≤ 37) : zMet E l y_M_unknown c_M_unknown 3 (some .int) { frames := 0, cells := 0, slots := 0, locals := 0 } 0 0 [.ref m, .int (nI j), .int (nI n)] sz M (zRet (some (.int (fI (if xsl j = 0 then 0 else xmm ((xsl j - 1) * 26 + n))))) sz M) := by
  refine zMet.ofZ (by decide) (Nat.le_of_ble_eq_true rfl) ?_
  intro X hl hini C
  show Z X E 3 _ 0 0 sz M 0 [(0, .ref m), (1, .int (nI j)), (2, .int (nI n))] []
  refine z_aload_n C d_M_unknown_0 rfl rfl ?_
  refine z_get C in_M H.1 rfl 16 (by decide) fl_M_38 rfl rfl d_M_unknown_1 ?_
  refine z_iload_n C d_M_unknown_4 rfl rfl ?_
  refine z_iald C H.2.2.2.2.2.2.2.2.2.1 0 rfl j (rfl) (by omega) (by omega) d_M_unknown_5 ?_
  refine z_top (y := tI (xsl j)) rfl ?_
  refine z_if_ge (tgt := 13) C d_M_unknown_6 (by decide) (fun c_6 => ?_) (fun c_6 => ?_)
  · have c_6 : 0 < (xsl j) := (tI_ge0 (n := (xsl j)) (by omega)).mp c_6
    refine z_aload_n C d_M_unknown_13 rfl rfl ?_
    refine z_get C in_M H.1 rfl 15 (by decide) fl_M_35 rfl rfl d_M_unknown_14 ?_
    refine z_aload_n C d_M_unknown_17 rfl rfl ?_
    refine z_get C in_M H.1 rfl 16 (by decide) fl_M_38 rfl rfl d_M_unknown_18 ?_
    refine z_iload_n C d_M_unknown_21 rfl rfl ?_
    refine z_iald C H.2.2.2.2.2.2.2.2.2.1 0 rfl j (rfl) (by omega) (by omega) d_M_unknown_22 ?_
    refine z_top (y := nI (xsl j - 1)) (tI_nI c_6) ?_
    refine z_bipush (v := nI 26) C d_M_unknown_23 (by decide) ?_
    refine z_imul C d_M_unknown_25 ?_
    refine z_top (y := nI ((xsl j - 1) * 26)) (pk_mul _ _) ?_
    refine z_iload_n C d_M_unknown_26 rfl rfl ?_
    refine z_iadd C d_M_unknown_27 ?_
    refine z_top (y := nI (((xsl j - 1) * 26) + n)) (nI_add _ _) ?_
    refine z_iald C H.2.2.2.2.2.2.2.2.1 0 rfl (((xsl j - 1) * 26) + n) (rfl) (by omega) (by omega) d_M_unknown_28 ?_
    refine z_top (y := fI (xmm (((xsl j - 1) * 26) + n))) rfl ?_
    exact z_iret C ⟨by rw [if_neg (by omega)], rfl, rfl⟩ d_M_unknown_29
  · have c_6 : (xsl j) = 0 := Nat.eq_zero_of_not_pos (fun q => c_6 ((tI_ge0 (n := (xsl j)) (by omega)).mpr q))
    refine z_iconst (v := fI 0) C d_M_unknown_9 (by decide) ?_
    refine z_goto (tgt := 29) C d_M_unknown_10 (by decide) ?_
    exact z_iret C ⟨by rw [if_pos c_6], rfl, rfl⟩ d_M_unknown_29
