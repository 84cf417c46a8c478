def prF (P : Nat → FF) (f : FF) (A B : PS) (k : Nat) : Nat → FF := fun t => P t + f * pacc A B (k / 13) (k % 13) t
def prd (P : Nat → FF) (f : FF) (A B : PS) : Nat → FF := fun t => P t + f * ps_mul A B t
theorem prF_0 (P : Nat → FF) (f : FF) (A B : PS) : prF P f A B 0 = P := by
  funext t
  unfold prF
  rw [show 0 / 13 = 0 from rfl, show 0 % 13 = 0 from rfl, pacc_0]
  simp only [ps_0]
  grind
theorem prF_s {P : Nat → FF} {f : FF} {A B : PS} {k : Nat} (hB : ∀ j, 13 ≤ j → B j = 0) : updF (prF P f A B k) (k / 13 + k % 13) (prF P f A B k (k / 13 + k % 13) + A (k / 13) * B (k % 13) * f) = prF P f A B (k + 1) := by
  funext t
  have e : pacc A B ((k + 1) / 13) ((k + 1) % 13) = pacc A B (k / 13) (k % 13 + 1) := by
    by_cases h : k % 13 = 12
    · rw [show (k + 1) / 13 = k / 13 + 1 by omega, show (k + 1) % 13 = 0 by omega, pacc_next hB, h]
    · rw [show (k + 1) / 13 = k / 13 by omega, show (k + 1) % 13 = k % 13 + 1 by omega]
  unfold updF prF
  rw [e, pacc_step]
  by_cases h : t = k / 13 + k % 13
  · rw [if_pos h, if_pos h, h]; grind
  · rw [if_neg h, if_neg h]
theorem prF_e {P : Nat → FF} {f : FF} {A B : PS} (hA : ∀ j, 13 ≤ j → A j = 0) : prF P f A B 169 = prd P f A B := by
  funext t
  unfold prF prd
  rw [show 169 / 13 = 13 from rfl, show 169 % 13 = 0 from rfl, pacc_end hA]
set_option maxHeartbeats 4000000 in
/-- product -/
theorem m_productP (E : zE) (l : Launch) (sz : Nat) (M : zM) {m : Nat} {xln : Nat → Nat} {xlen : Nat} {xlab : Nat} {xbad : Int32} {xlev : Nat} {xtr : Int32} {xwa : Nat} {xpl : Nat} {xfo : Nat} {xsf : Nat → Nat} {xbf : Nat → Nat} {xF : Nat → FF} {xG : Nat → FF} {xP : Nat → FF} {xQ : Nat → FF} {xmm : Nat → FF} {xsl : Nat → Nat} {xkd : Nat → Nat} {xhs : Nat → Nat} {xht : Nat → Nat} {xsg : Nat → Nat} {xdv : Nat → Nat} (H : mw E M m xln xlen xlab xbad xlev xtr xwa xpl xfo xsf xbf xF xG xP xQ xmm xsl xkd xhs xht xsg xdv) (a da b db : Nat) (f : FF) (ha : a < 78) (hb : b < 78) (hda : da ≤ 1) (hdb : db ≤ 1) : zMet E l y_M_product c_M_product 13 none { frames := 0, cells := 0, slots := 0, locals := 0 } 0 0 [.ref m, .int (nI a), .int (nI da), .int (nI b), .int (nI db), .int (fI f), .int (nI 0)] sz M (fun v s M' => none = v ∧ sz = s ∧ zoutR M M' m (m + 15) ∧ mw E M' m xln xlen xlab xbad xlev xtr xwa xpl xfo xsf xbf xF xG (prd xP f (pg (sel da xF xG) a) (pg (sel db xF xG) b)) xQ xmm xsl xkd xhs xht xsg xdv) := by
  refine zMet.ofZ (by decide) (Nat.le_of_ble_eq_true rfl) ?_
  intro X hl hini C
  have loop : ∀ (e k : Nat) (M1 : zM), k + e = 169 → mw E M1 m xln xlen xlab xbad xlev xtr xwa xpl xfo xsf xbf xF xG (prF xP f (pg (sel da xF xG) a) (pg (sel db xF xG) b) k) xQ xmm xsl xkd xhs xht xsg xdv → zoutR M M1 m (m + 15) → Z X E 13 (zQ X E 0 0 (fun v s M' => none = v ∧ sz = s ∧ zoutR M M' m (m + 15) ∧ mw E M' m xln xlen xlab xbad xlev xtr xwa xpl xfo xsf xbf xF xG (prd xP f (pg (sel da xF xG) a) (pg (sel db xF xG) b)) xQ xmm xsl xkd xhs xht xsg xdv)) 0 0 sz M1 3 [(0, .ref m), (1, .int (nI a)), (2, .int (nI da)), (3, .int (nI b)), (4, .int (nI db)), (5, .int (fI f)), (6, .int (nI 0)), (7, .int (nI k))] [] := by
    intro e
    induction e with
    | zero =>
      intro k M1 hk H1 hz1
      have hk : k = 169 := by omega
      subst hk
      refine z_iload C d_M_product_3 rfl ?_
      refine z_sipush (v := nI 169) C d_M_product_5 (by decide) ?_
      refine z_icmp_ge (tgt := 178) C d_M_product_8 (by decide) (fun _ => ?_) (fun c_8 => absurd (by decide) c_8)
      refine z_vret C ⟨rfl, rfl, hz1, ?_⟩ d_M_product_178
      rw [← prF_e pg_z]
      exact H1
    | succ e ih =>
      intro k M1 hk H1 hz1
      refine z_iload C d_M_product_3 rfl ?_
      refine z_sipush (v := nI 169) C d_M_product_5 (by decide) ?_
      refine z_icmp_ge (tgt := 178) C d_M_product_8 (by decide) (fun c_8 => absurd c_8 (fun q => absurd ((nI_leI (a := 169) (b := k) (by omega) (by omega)).mp q) (by omega))) (fun _ => ?_)
      refine z_iload C d_M_product_11 rfl ?_
      refine z_bipush (v := nI 13) C d_M_product_13 (by decide) ?_
      refine z_idiv C d_M_product_15 (by decide) ?_
      refine z_top (y := nI (k / 13)) (pk_div (by omega) (by decide) (by decide)) ?_
      refine z_istore (L' := [(0, .ref m), (1, .int (nI a)), (2, .int (nI da)), (3, .int (nI b)), (4, .int (nI db)), (5, .int (fI f)), (6, .int (nI 0)), (7, .int (nI k)), (8, .int (nI (k / 13)))]) C d_M_product_16 (by decide) rfl ?_
      refine z_iload C d_M_product_18 rfl ?_
      refine z_bipush (v := nI 13) C d_M_product_20 (by decide) ?_
      refine z_irem C d_M_product_22 (by decide) ?_
      refine z_top (y := nI (k % 13)) (pk_rem (by omega) (by decide) (by decide)) ?_
      refine z_istore (L' := [(0, .ref m), (1, .int (nI a)), (2, .int (nI da)), (3, .int (nI b)), (4, .int (nI db)), (5, .int (fI f)), (6, .int (nI 0)), (7, .int (nI k)), (8, .int (nI (k / 13))), (9, .int (nI (k % 13)))]) C d_M_product_23 (by decide) rfl ?_
      refine z_iload_n C d_M_product_25 rfl rfl ?_
      refine z_if_eq (tgt := 44) C d_M_product_26 (by decide) (fun c_26 => ?_) (fun c_26 => ?_)
      · have c_26 : da = 0 := (nI_eq (a := da) (b := 0) (by omega) (by omega)).mp c_26
        refine z_aload_n C d_M_product_44 rfl rfl ?_
        refine z_get C in_M H1.1 rfl 11 (by decide) fl_M_23 rfl rfl d_M_product_45 ?_
        refine z_iload_n C d_M_product_48 rfl rfl ?_
        refine z_bipush (v := nI 13) C d_M_product_49 (by decide) ?_
        refine z_imul C d_M_product_51 ?_
        refine z_top (y := nI (a * 13)) (pk_mul _ _) ?_
        refine z_iload C d_M_product_52 rfl ?_
        refine z_iadd C d_M_product_54 ?_
        refine z_top (y := nI ((a * 13) + (k / 13))) (nI_add _ _) ?_
        refine z_iald C H1.2.2.2.2.1 0 rfl ((a * 13) + (k / 13)) (rfl) (by omega) (by omega) d_M_product_55 ?_
        refine z_top (y := fI ((pg (sel da xF xG) a) (k / 13))) (by rw [pg_at (by omega), sel_0 c_26]) ?_
        refine z_istore (L' := [(0, .ref m), (1, .int (nI a)), (2, .int (nI da)), (3, .int (nI b)), (4, .int (nI db)), (5, .int (fI f)), (6, .int (nI 0)), (7, .int (nI k)), (8, .int (nI (k / 13))), (9, .int (nI (k % 13))), (10, .int (fI ((pg (sel da xF xG) a) (k / 13))))]) C d_M_product_56 (by decide) rfl ?_
        refine z_iload C d_M_product_58 rfl ?_
        refine z_if_eq (tgt := 78) C d_M_product_60 (by decide) (fun c_60 => ?_) (fun c_60 => ?_)
        · have c_60 : db = 0 := (nI_eq (a := db) (b := 0) (by omega) (by omega)).mp c_60
          refine z_aload_n C d_M_product_78 rfl rfl ?_
          refine z_get C in_M H1.1 rfl 11 (by decide) fl_M_23 rfl rfl d_M_product_79 ?_
          refine z_iload_n C d_M_product_82 rfl rfl ?_
          refine z_bipush (v := nI 13) C d_M_product_83 (by decide) ?_
          refine z_imul C d_M_product_85 ?_
          refine z_top (y := nI (b * 13)) (pk_mul _ _) ?_
          refine z_iload C d_M_product_86 rfl ?_
          refine z_iadd C d_M_product_88 ?_
          refine z_top (y := nI ((b * 13) + (k % 13))) (nI_add _ _) ?_
          refine z_iald C H1.2.2.2.2.1 0 rfl ((b * 13) + (k % 13)) (rfl) (by omega) (by omega) d_M_product_89 ?_
          refine z_top (y := fI ((pg (sel db xF xG) b) (k % 13))) (by rw [pg_at (by omega), sel_0 c_60]) ?_
          refine z_istore (L' := [(0, .ref m), (1, .int (nI a)), (2, .int (nI da)), (3, .int (nI b)), (4, .int (nI db)), (5, .int (fI f)), (6, .int (nI 0)), (7, .int (nI k)), (8, .int (nI (k / 13))), (9, .int (nI (k % 13))), (10, .int (fI ((pg (sel da xF xG) a) (k / 13)))), (11, .int (fI ((pg (sel db xF xG) b) (k % 13))))]) C d_M_product_90 (by decide) rfl ?_
          refine z_iload C d_M_product_92 rfl ?_
          refine z_iload C d_M_product_94 rfl ?_
          refine z_imul C d_M_product_96 ?_
          refine z_sipush (v := nI 10007) C d_M_product_97 (by decide) ?_
          refine z_irem C d_M_product_100 (by decide) ?_
          refine z_top (y := fI (((pg (sel da xF xG) a) (k / 13)) * ((pg (sel db xF xG) b) (k % 13)))) (fI_mul _ _) ?_
          refine z_iload C d_M_product_101 rfl ?_
          refine z_imul C d_M_product_103 ?_
          refine z_sipush (v := nI 10007) C d_M_product_104 (by decide) ?_
          refine z_irem C d_M_product_107 (by decide) ?_
          refine z_top (y := fI ((((pg (sel da xF xG) a) (k / 13)) * ((pg (sel db xF xG) b) (k % 13))) * f)) (fI_mul _ _) ?_
          refine z_istore (L' := [(0, .ref m), (1, .int (nI a)), (2, .int (nI da)), (3, .int (nI b)), (4, .int (nI db)), (5, .int (fI f)), (6, .int (nI 0)), (7, .int (nI k)), (8, .int (nI (k / 13))), (9, .int (nI (k % 13))), (10, .int (fI ((pg (sel da xF xG) a) (k / 13)))), (11, .int (fI ((pg (sel db xF xG) b) (k % 13)))), (12, .int (fI ((((pg (sel da xF xG) a) (k / 13)) * ((pg (sel db xF xG) b) (k % 13))) * f)))]) C d_M_product_108 (by decide) rfl ?_
          refine z_iload C d_M_product_110 rfl ?_
          refine z_if_eq (tgt := 145) C d_M_product_112 (by decide) (fun _ => ?_) (fun c_112 => absurd (rfl) c_112)
          refine z_aload_n C d_M_product_145 rfl rfl ?_
          refine z_get C in_M H1.1 rfl 13 (by decide) fl_M_29 rfl rfl d_M_product_146 ?_
          refine z_iload C d_M_product_149 rfl ?_
          refine z_iload C d_M_product_151 rfl ?_
          refine z_iadd C d_M_product_153 ?_
          refine z_top (y := nI ((k / 13) + (k % 13))) (nI_add _ _) ?_
          refine z_aload_n C d_M_product_154 rfl rfl ?_
          refine z_get C in_M H1.1 rfl 13 (by decide) fl_M_29 rfl rfl d_M_product_155 ?_
          refine z_iload C d_M_product_158 rfl ?_
          refine z_iload C d_M_product_160 rfl ?_
          refine z_iadd C d_M_product_162 ?_
          refine z_top (y := nI ((k / 13) + (k % 13))) (nI_add _ _) ?_
          refine z_iald C H1.2.2.2.2.2.2.1 0 rfl ((k / 13) + (k % 13)) (rfl) (by omega) (by omega) d_M_product_163 ?_
          refine z_top (y := fI ((prF xP f (pg (sel da xF xG) a) (pg (sel db xF xG) b) k) ((k / 13) + (k % 13)))) rfl ?_
          refine z_iload C d_M_product_164 rfl ?_
          refine z_iadd C d_M_product_166 ?_
          refine z_sipush (v := nI 10007) C d_M_product_167 (by decide) ?_
          refine z_irem C d_M_product_170 (by decide) ?_
          refine z_top (y := fI (((prF xP f (pg (sel da xF xG) a) (pg (sel db xF xG) b) k) ((k / 13) + (k % 13))) + ((((pg (sel da xF xG) a) (k / 13)) * ((pg (sel db xF xG) b) (k % 13))) * f))) (fI_add _ _) ?_
          refine z_iast C H1.2.2.2.2.2.2.1 0 rfl ((k / 13) + (k % 13)) (rfl) (by omega) (by omega) d_M_product_171 ?_
          refine z_world (M' := zU M1 (m + 6) (.inl (E.2.1 0, 40, .inl (fun z_ => fI ((updF (prF xP f (pg (sel da xF xG) a) (pg (sel db xF xG) b) k) ((k / 13) + (k % 13)) (((prF xP f (pg (sel da xF xG) a) (pg (sel db xF xG) b) k) ((k / 13) + (k % 13))) + ((((pg (sel da xF xG) a) (k / 13)) * ((pg (sel db xF xG) b) (k % 13))) * f))) z_))))) (congrArg (fun e => zU M1 (m + 6) (.inl (E.2.1 0, 40, .inl e))) fI_upd) ?_
          refine z_iinc (v := nI (k + 1)) (L' := [(0, .ref m), (1, .int (nI a)), (2, .int (nI da)), (3, .int (nI b)), (4, .int (nI db)), (5, .int (fI f)), (6, .int (nI 0)), (7, .int (nI (k + 1))), (8, .int (nI (k / 13))), (9, .int (nI (k % 13))), (10, .int (fI ((pg (sel da xF xG) a) (k / 13)))), (11, .int (fI ((pg (sel db xF xG) b) (k % 13)))), (12, .int (fI ((((pg (sel da xF xG) a) (k / 13)) * ((pg (sel db xF xG) b) (k % 13))) * f)))]) C d_M_product_172 rfl (nI_add _ 1) (by decide) rfl ?_
          refine z_goto (tgt := 3) C d_M_product_175 (by decide) ?_
          refine z_sub [0, 1, 2, 3, 4, 5, 6, 7] rfl ?_
          refine ih (k + 1) _ (by omega) ?_ (zoutR_tr hz1 (zo_u (by omega) (by omega)))
          rw [← prF_s pg_z]
          exact (mw_a6 H1 (updF (prF xP f (pg (sel da xF xG) a) (pg (sel db xF xG) b) k) ((k / 13) + (k % 13)) (((prF xP f (pg (sel da xF xG) a) (pg (sel db xF xG) b) k) ((k / 13) + (k % 13))) + ((((pg (sel da xF xG) a) (k / 13)) * ((pg (sel db xF xG) b) (k % 13))) * f))))
        · have c_60 : ¬ db = 0 := fun q => c_60 (congrArg nI q)
          refine z_aload_n C d_M_product_63 rfl rfl ?_
          refine z_get C in_M H1.1 rfl 12 (by decide) fl_M_26 rfl rfl d_M_product_64 ?_
          refine z_iload_n C d_M_product_67 rfl rfl ?_
          refine z_bipush (v := nI 13) C d_M_product_68 (by decide) ?_
          refine z_imul C d_M_product_70 ?_
          refine z_top (y := nI (b * 13)) (pk_mul _ _) ?_
          refine z_iload C d_M_product_71 rfl ?_
          refine z_iadd C d_M_product_73 ?_
          refine z_top (y := nI ((b * 13) + (k % 13))) (nI_add _ _) ?_
          refine z_iald C H1.2.2.2.2.2.1 0 rfl ((b * 13) + (k % 13)) (rfl) (by omega) (by omega) d_M_product_74 ?_
          refine z_top (y := fI ((pg (sel db xF xG) b) (k % 13))) (by rw [pg_at (by omega), sel_1 c_60]) ?_
          refine z_goto (tgt := 90) C d_M_product_75 (by decide) ?_
          refine z_istore (L' := [(0, .ref m), (1, .int (nI a)), (2, .int (nI da)), (3, .int (nI b)), (4, .int (nI db)), (5, .int (fI f)), (6, .int (nI 0)), (7, .int (nI k)), (8, .int (nI (k / 13))), (9, .int (nI (k % 13))), (10, .int (fI ((pg (sel da xF xG) a) (k / 13)))), (11, .int (fI ((pg (sel db xF xG) b) (k % 13))))]) C d_M_product_90 (by decide) rfl ?_
          refine z_iload C d_M_product_92 rfl ?_
          refine z_iload C d_M_product_94 rfl ?_
          refine z_imul C d_M_product_96 ?_
          refine z_sipush (v := nI 10007) C d_M_product_97 (by decide) ?_
          refine z_irem C d_M_product_100 (by decide) ?_
          refine z_top (y := fI (((pg (sel da xF xG) a) (k / 13)) * ((pg (sel db xF xG) b) (k % 13)))) (fI_mul _ _) ?_
          refine z_iload C d_M_product_101 rfl ?_
          refine z_imul C d_M_product_103 ?_
          refine z_sipush (v := nI 10007) C d_M_product_104 (by decide) ?_
          refine z_irem C d_M_product_107 (by decide) ?_
          refine z_top (y := fI ((((pg (sel da xF xG) a) (k / 13)) * ((pg (sel db xF xG) b) (k % 13))) * f)) (fI_mul _ _) ?_
          refine z_istore (L' := [(0, .ref m), (1, .int (nI a)), (2, .int (nI da)), (3, .int (nI b)), (4, .int (nI db)), (5, .int (fI f)), (6, .int (nI 0)), (7, .int (nI k)), (8, .int (nI (k / 13))), (9, .int (nI (k % 13))), (10, .int (fI ((pg (sel da xF xG) a) (k / 13)))), (11, .int (fI ((pg (sel db xF xG) b) (k % 13)))), (12, .int (fI ((((pg (sel da xF xG) a) (k / 13)) * ((pg (sel db xF xG) b) (k % 13))) * f)))]) C d_M_product_108 (by decide) rfl ?_
          refine z_iload C d_M_product_110 rfl ?_
          refine z_if_eq (tgt := 145) C d_M_product_112 (by decide) (fun _ => ?_) (fun c_112 => absurd (rfl) c_112)
          refine z_aload_n C d_M_product_145 rfl rfl ?_
          refine z_get C in_M H1.1 rfl 13 (by decide) fl_M_29 rfl rfl d_M_product_146 ?_
          refine z_iload C d_M_product_149 rfl ?_
          refine z_iload C d_M_product_151 rfl ?_
          refine z_iadd C d_M_product_153 ?_
          refine z_top (y := nI ((k / 13) + (k % 13))) (nI_add _ _) ?_
          refine z_aload_n C d_M_product_154 rfl rfl ?_
          refine z_get C in_M H1.1 rfl 13 (by decide) fl_M_29 rfl rfl d_M_product_155 ?_
          refine z_iload C d_M_product_158 rfl ?_
          refine z_iload C d_M_product_160 rfl ?_
          refine z_iadd C d_M_product_162 ?_
          refine z_top (y := nI ((k / 13) + (k % 13))) (nI_add _ _) ?_
          refine z_iald C H1.2.2.2.2.2.2.1 0 rfl ((k / 13) + (k % 13)) (rfl) (by omega) (by omega) d_M_product_163 ?_
          refine z_top (y := fI ((prF xP f (pg (sel da xF xG) a) (pg (sel db xF xG) b) k) ((k / 13) + (k % 13)))) rfl ?_
          refine z_iload C d_M_product_164 rfl ?_
          refine z_iadd C d_M_product_166 ?_
          refine z_sipush (v := nI 10007) C d_M_product_167 (by decide) ?_
          refine z_irem C d_M_product_170 (by decide) ?_
          refine z_top (y := fI (((prF xP f (pg (sel da xF xG) a) (pg (sel db xF xG) b) k) ((k / 13) + (k % 13))) + ((((pg (sel da xF xG) a) (k / 13)) * ((pg (sel db xF xG) b) (k % 13))) * f))) (fI_add _ _) ?_
          refine z_iast C H1.2.2.2.2.2.2.1 0 rfl ((k / 13) + (k % 13)) (rfl) (by omega) (by omega) d_M_product_171 ?_
          refine z_world (M' := zU M1 (m + 6) (.inl (E.2.1 0, 40, .inl (fun z_ => fI ((updF (prF xP f (pg (sel da xF xG) a) (pg (sel db xF xG) b) k) ((k / 13) + (k % 13)) (((prF xP f (pg (sel da xF xG) a) (pg (sel db xF xG) b) k) ((k / 13) + (k % 13))) + ((((pg (sel da xF xG) a) (k / 13)) * ((pg (sel db xF xG) b) (k % 13))) * f))) z_))))) (congrArg (fun e => zU M1 (m + 6) (.inl (E.2.1 0, 40, .inl e))) fI_upd) ?_
          refine z_iinc (v := nI (k + 1)) (L' := [(0, .ref m), (1, .int (nI a)), (2, .int (nI da)), (3, .int (nI b)), (4, .int (nI db)), (5, .int (fI f)), (6, .int (nI 0)), (7, .int (nI (k + 1))), (8, .int (nI (k / 13))), (9, .int (nI (k % 13))), (10, .int (fI ((pg (sel da xF xG) a) (k / 13)))), (11, .int (fI ((pg (sel db xF xG) b) (k % 13)))), (12, .int (fI ((((pg (sel da xF xG) a) (k / 13)) * ((pg (sel db xF xG) b) (k % 13))) * f)))]) C d_M_product_172 rfl (nI_add _ 1) (by decide) rfl ?_
          refine z_goto (tgt := 3) C d_M_product_175 (by decide) ?_
          refine z_sub [0, 1, 2, 3, 4, 5, 6, 7] rfl ?_
          refine ih (k + 1) _ (by omega) ?_ (zoutR_tr hz1 (zo_u (by omega) (by omega)))
          rw [← prF_s pg_z]
          exact (mw_a6 H1 (updF (prF xP f (pg (sel da xF xG) a) (pg (sel db xF xG) b) k) ((k / 13) + (k % 13)) (((prF xP f (pg (sel da xF xG) a) (pg (sel db xF xG) b) k) ((k / 13) + (k % 13))) + ((((pg (sel da xF xG) a) (k / 13)) * ((pg (sel db xF xG) b) (k % 13))) * f))))
      · have c_26 : ¬ da = 0 := fun q => c_26 (congrArg nI q)
        refine z_aload_n C d_M_product_29 rfl rfl ?_
        refine z_get C in_M H1.1 rfl 12 (by decide) fl_M_26 rfl rfl d_M_product_30 ?_
        refine z_iload_n C d_M_product_33 rfl rfl ?_
        refine z_bipush (v := nI 13) C d_M_product_34 (by decide) ?_
        refine z_imul C d_M_product_36 ?_
        refine z_top (y := nI (a * 13)) (pk_mul _ _) ?_
        refine z_iload C d_M_product_37 rfl ?_
        refine z_iadd C d_M_product_39 ?_
        refine z_top (y := nI ((a * 13) + (k / 13))) (nI_add _ _) ?_
        refine z_iald C H1.2.2.2.2.2.1 0 rfl ((a * 13) + (k / 13)) (rfl) (by omega) (by omega) d_M_product_40 ?_
        refine z_top (y := fI ((pg (sel da xF xG) a) (k / 13))) (by rw [pg_at (by omega), sel_1 c_26]) ?_
        refine z_goto (tgt := 56) C d_M_product_41 (by decide) ?_
        refine z_istore (L' := [(0, .ref m), (1, .int (nI a)), (2, .int (nI da)), (3, .int (nI b)), (4, .int (nI db)), (5, .int (fI f)), (6, .int (nI 0)), (7, .int (nI k)), (8, .int (nI (k / 13))), (9, .int (nI (k % 13))), (10, .int (fI ((pg (sel da xF xG) a) (k / 13))))]) C d_M_product_56 (by decide) rfl ?_
        refine z_iload C d_M_product_58 rfl ?_
        refine z_if_eq (tgt := 78) C d_M_product_60 (by decide) (fun c_60 => ?_) (fun c_60 => ?_)
        · have c_60 : db = 0 := (nI_eq (a := db) (b := 0) (by omega) (by omega)).mp c_60
          refine z_aload_n C d_M_product_78 rfl rfl ?_
          refine z_get C in_M H1.1 rfl 11 (by decide) fl_M_23 rfl rfl d_M_product_79 ?_
          refine z_iload_n C d_M_product_82 rfl rfl ?_
          refine z_bipush (v := nI 13) C d_M_product_83 (by decide) ?_
          refine z_imul C d_M_product_85 ?_
          refine z_top (y := nI (b * 13)) (pk_mul _ _) ?_
          refine z_iload C d_M_product_86 rfl ?_
          refine z_iadd C d_M_product_88 ?_
          refine z_top (y := nI ((b * 13) + (k % 13))) (nI_add _ _) ?_
          refine z_iald C H1.2.2.2.2.1 0 rfl ((b * 13) + (k % 13)) (rfl) (by omega) (by omega) d_M_product_89 ?_
          refine z_top (y := fI ((pg (sel db xF xG) b) (k % 13))) (by rw [pg_at (by omega), sel_0 c_60]) ?_
          refine z_istore (L' := [(0, .ref m), (1, .int (nI a)), (2, .int (nI da)), (3, .int (nI b)), (4, .int (nI db)), (5, .int (fI f)), (6, .int (nI 0)), (7, .int (nI k)), (8, .int (nI (k / 13))), (9, .int (nI (k % 13))), (10, .int (fI ((pg (sel da xF xG) a) (k / 13)))), (11, .int (fI ((pg (sel db xF xG) b) (k % 13))))]) C d_M_product_90 (by decide) rfl ?_
          refine z_iload C d_M_product_92 rfl ?_
          refine z_iload C d_M_product_94 rfl ?_
          refine z_imul C d_M_product_96 ?_
          refine z_sipush (v := nI 10007) C d_M_product_97 (by decide) ?_
          refine z_irem C d_M_product_100 (by decide) ?_
          refine z_top (y := fI (((pg (sel da xF xG) a) (k / 13)) * ((pg (sel db xF xG) b) (k % 13)))) (fI_mul _ _) ?_
          refine z_iload C d_M_product_101 rfl ?_
          refine z_imul C d_M_product_103 ?_
          refine z_sipush (v := nI 10007) C d_M_product_104 (by decide) ?_
          refine z_irem C d_M_product_107 (by decide) ?_
          refine z_top (y := fI ((((pg (sel da xF xG) a) (k / 13)) * ((pg (sel db xF xG) b) (k % 13))) * f)) (fI_mul _ _) ?_
          refine z_istore (L' := [(0, .ref m), (1, .int (nI a)), (2, .int (nI da)), (3, .int (nI b)), (4, .int (nI db)), (5, .int (fI f)), (6, .int (nI 0)), (7, .int (nI k)), (8, .int (nI (k / 13))), (9, .int (nI (k % 13))), (10, .int (fI ((pg (sel da xF xG) a) (k / 13)))), (11, .int (fI ((pg (sel db xF xG) b) (k % 13)))), (12, .int (fI ((((pg (sel da xF xG) a) (k / 13)) * ((pg (sel db xF xG) b) (k % 13))) * f)))]) C d_M_product_108 (by decide) rfl ?_
          refine z_iload C d_M_product_110 rfl ?_
          refine z_if_eq (tgt := 145) C d_M_product_112 (by decide) (fun _ => ?_) (fun c_112 => absurd (rfl) c_112)
          refine z_aload_n C d_M_product_145 rfl rfl ?_
          refine z_get C in_M H1.1 rfl 13 (by decide) fl_M_29 rfl rfl d_M_product_146 ?_
          refine z_iload C d_M_product_149 rfl ?_
          refine z_iload C d_M_product_151 rfl ?_
          refine z_iadd C d_M_product_153 ?_
          refine z_top (y := nI ((k / 13) + (k % 13))) (nI_add _ _) ?_
          refine z_aload_n C d_M_product_154 rfl rfl ?_
          refine z_get C in_M H1.1 rfl 13 (by decide) fl_M_29 rfl rfl d_M_product_155 ?_
          refine z_iload C d_M_product_158 rfl ?_
          refine z_iload C d_M_product_160 rfl ?_
          refine z_iadd C d_M_product_162 ?_
          refine z_top (y := nI ((k / 13) + (k % 13))) (nI_add _ _) ?_
          refine z_iald C H1.2.2.2.2.2.2.1 0 rfl ((k / 13) + (k % 13)) (rfl) (by omega) (by omega) d_M_product_163 ?_
          refine z_top (y := fI ((prF xP f (pg (sel da xF xG) a) (pg (sel db xF xG) b) k) ((k / 13) + (k % 13)))) rfl ?_
          refine z_iload C d_M_product_164 rfl ?_
          refine z_iadd C d_M_product_166 ?_
          refine z_sipush (v := nI 10007) C d_M_product_167 (by decide) ?_
          refine z_irem C d_M_product_170 (by decide) ?_
          refine z_top (y := fI (((prF xP f (pg (sel da xF xG) a) (pg (sel db xF xG) b) k) ((k / 13) + (k % 13))) + ((((pg (sel da xF xG) a) (k / 13)) * ((pg (sel db xF xG) b) (k % 13))) * f))) (fI_add _ _) ?_
          refine z_iast C H1.2.2.2.2.2.2.1 0 rfl ((k / 13) + (k % 13)) (rfl) (by omega) (by omega) d_M_product_171 ?_
          refine z_world (M' := zU M1 (m + 6) (.inl (E.2.1 0, 40, .inl (fun z_ => fI ((updF (prF xP f (pg (sel da xF xG) a) (pg (sel db xF xG) b) k) ((k / 13) + (k % 13)) (((prF xP f (pg (sel da xF xG) a) (pg (sel db xF xG) b) k) ((k / 13) + (k % 13))) + ((((pg (sel da xF xG) a) (k / 13)) * ((pg (sel db xF xG) b) (k % 13))) * f))) z_))))) (congrArg (fun e => zU M1 (m + 6) (.inl (E.2.1 0, 40, .inl e))) fI_upd) ?_
          refine z_iinc (v := nI (k + 1)) (L' := [(0, .ref m), (1, .int (nI a)), (2, .int (nI da)), (3, .int (nI b)), (4, .int (nI db)), (5, .int (fI f)), (6, .int (nI 0)), (7, .int (nI (k + 1))), (8, .int (nI (k / 13))), (9, .int (nI (k % 13))), (10, .int (fI ((pg (sel da xF xG) a) (k / 13)))), (11, .int (fI ((pg (sel db xF xG) b) (k % 13)))), (12, .int (fI ((((pg (sel da xF xG) a) (k / 13)) * ((pg (sel db xF xG) b) (k % 13))) * f)))]) C d_M_product_172 rfl (nI_add _ 1) (by decide) rfl ?_
          refine z_goto (tgt := 3) C d_M_product_175 (by decide) ?_
          refine z_sub [0, 1, 2, 3, 4, 5, 6, 7] rfl ?_
          refine ih (k + 1) _ (by omega) ?_ (zoutR_tr hz1 (zo_u (by omega) (by omega)))
          rw [← prF_s pg_z]
          exact (mw_a6 H1 (updF (prF xP f (pg (sel da xF xG) a) (pg (sel db xF xG) b) k) ((k / 13) + (k % 13)) (((prF xP f (pg (sel da xF xG) a) (pg (sel db xF xG) b) k) ((k / 13) + (k % 13))) + ((((pg (sel da xF xG) a) (k / 13)) * ((pg (sel db xF xG) b) (k % 13))) * f))))
        · have c_60 : ¬ db = 0 := fun q => c_60 (congrArg nI q)
          refine z_aload_n C d_M_product_63 rfl rfl ?_
          refine z_get C in_M H1.1 rfl 12 (by decide) fl_M_26 rfl rfl d_M_product_64 ?_
          refine z_iload_n C d_M_product_67 rfl rfl ?_
          refine z_bipush (v := nI 13) C d_M_product_68 (by decide) ?_
          refine z_imul C d_M_product_70 ?_
          refine z_top (y := nI (b * 13)) (pk_mul _ _) ?_
          refine z_iload C d_M_product_71 rfl ?_
          refine z_iadd C d_M_product_73 ?_
          refine z_top (y := nI ((b * 13) + (k % 13))) (nI_add _ _) ?_
          refine z_iald C H1.2.2.2.2.2.1 0 rfl ((b * 13) + (k % 13)) (rfl) (by omega) (by omega) d_M_product_74 ?_
          refine z_top (y := fI ((pg (sel db xF xG) b) (k % 13))) (by rw [pg_at (by omega), sel_1 c_60]) ?_
          refine z_goto (tgt := 90) C d_M_product_75 (by decide) ?_
          refine z_istore (L' := [(0, .ref m), (1, .int (nI a)), (2, .int (nI da)), (3, .int (nI b)), (4, .int (nI db)), (5, .int (fI f)), (6, .int (nI 0)), (7, .int (nI k)), (8, .int (nI (k / 13))), (9, .int (nI (k % 13))), (10, .int (fI ((pg (sel da xF xG) a) (k / 13)))), (11, .int (fI ((pg (sel db xF xG) b) (k % 13))))]) C d_M_product_90 (by decide) rfl ?_
          refine z_iload C d_M_product_92 rfl ?_
          refine z_iload C d_M_product_94 rfl ?_
          refine z_imul C d_M_product_96 ?_
          refine z_sipush (v := nI 10007) C d_M_product_97 (by decide) ?_
          refine z_irem C d_M_product_100 (by decide) ?_
          refine z_top (y := fI (((pg (sel da xF xG) a) (k / 13)) * ((pg (sel db xF xG) b) (k % 13)))) (fI_mul _ _) ?_
          refine z_iload C d_M_product_101 rfl ?_
          refine z_imul C d_M_product_103 ?_
          refine z_sipush (v := nI 10007) C d_M_product_104 (by decide) ?_
          refine z_irem C d_M_product_107 (by decide) ?_
          refine z_top (y := fI ((((pg (sel da xF xG) a) (k / 13)) * ((pg (sel db xF xG) b) (k % 13))) * f)) (fI_mul _ _) ?_
          refine z_istore (L' := [(0, .ref m), (1, .int (nI a)), (2, .int (nI da)), (3, .int (nI b)), (4, .int (nI db)), (5, .int (fI f)), (6, .int (nI 0)), (7, .int (nI k)), (8, .int (nI (k / 13))), (9, .int (nI (k % 13))), (10, .int (fI ((pg (sel da xF xG) a) (k / 13)))), (11, .int (fI ((pg (sel db xF xG) b) (k % 13)))), (12, .int (fI ((((pg (sel da xF xG) a) (k / 13)) * ((pg (sel db xF xG) b) (k % 13))) * f)))]) C d_M_product_108 (by decide) rfl ?_
          refine z_iload C d_M_product_110 rfl ?_
          refine z_if_eq (tgt := 145) C d_M_product_112 (by decide) (fun _ => ?_) (fun c_112 => absurd (rfl) c_112)
          refine z_aload_n C d_M_product_145 rfl rfl ?_
          refine z_get C in_M H1.1 rfl 13 (by decide) fl_M_29 rfl rfl d_M_product_146 ?_
          refine z_iload C d_M_product_149 rfl ?_
          refine z_iload C d_M_product_151 rfl ?_
          refine z_iadd C d_M_product_153 ?_
          refine z_top (y := nI ((k / 13) + (k % 13))) (nI_add _ _) ?_
          refine z_aload_n C d_M_product_154 rfl rfl ?_
          refine z_get C in_M H1.1 rfl 13 (by decide) fl_M_29 rfl rfl d_M_product_155 ?_
          refine z_iload C d_M_product_158 rfl ?_
          refine z_iload C d_M_product_160 rfl ?_
          refine z_iadd C d_M_product_162 ?_
          refine z_top (y := nI ((k / 13) + (k % 13))) (nI_add _ _) ?_
          refine z_iald C H1.2.2.2.2.2.2.1 0 rfl ((k / 13) + (k % 13)) (rfl) (by omega) (by omega) d_M_product_163 ?_
          refine z_top (y := fI ((prF xP f (pg (sel da xF xG) a) (pg (sel db xF xG) b) k) ((k / 13) + (k % 13)))) rfl ?_
          refine z_iload C d_M_product_164 rfl ?_
          refine z_iadd C d_M_product_166 ?_
          refine z_sipush (v := nI 10007) C d_M_product_167 (by decide) ?_
          refine z_irem C d_M_product_170 (by decide) ?_
          refine z_top (y := fI (((prF xP f (pg (sel da xF xG) a) (pg (sel db xF xG) b) k) ((k / 13) + (k % 13))) + ((((pg (sel da xF xG) a) (k / 13)) * ((pg (sel db xF xG) b) (k % 13))) * f))) (fI_add _ _) ?_
          refine z_iast C H1.2.2.2.2.2.2.1 0 rfl ((k / 13) + (k % 13)) (rfl) (by omega) (by omega) d_M_product_171 ?_
          refine z_world (M' := zU M1 (m + 6) (.inl (E.2.1 0, 40, .inl (fun z_ => fI ((updF (prF xP f (pg (sel da xF xG) a) (pg (sel db xF xG) b) k) ((k / 13) + (k % 13)) (((prF xP f (pg (sel da xF xG) a) (pg (sel db xF xG) b) k) ((k / 13) + (k % 13))) + ((((pg (sel da xF xG) a) (k / 13)) * ((pg (sel db xF xG) b) (k % 13))) * f))) z_))))) (congrArg (fun e => zU M1 (m + 6) (.inl (E.2.1 0, 40, .inl e))) fI_upd) ?_
          refine z_iinc (v := nI (k + 1)) (L' := [(0, .ref m), (1, .int (nI a)), (2, .int (nI da)), (3, .int (nI b)), (4, .int (nI db)), (5, .int (fI f)), (6, .int (nI 0)), (7, .int (nI (k + 1))), (8, .int (nI (k / 13))), (9, .int (nI (k % 13))), (10, .int (fI ((pg (sel da xF xG) a) (k / 13)))), (11, .int (fI ((pg (sel db xF xG) b) (k % 13)))), (12, .int (fI ((((pg (sel da xF xG) a) (k / 13)) * ((pg (sel db xF xG) b) (k % 13))) * f)))]) C d_M_product_172 rfl (nI_add _ 1) (by decide) rfl ?_
          refine z_goto (tgt := 3) C d_M_product_175 (by decide) ?_
          refine z_sub [0, 1, 2, 3, 4, 5, 6, 7] rfl ?_
          refine ih (k + 1) _ (by omega) ?_ (zoutR_tr hz1 (zo_u (by omega) (by omega)))
          rw [← prF_s pg_z]
          exact (mw_a6 H1 (updF (prF xP f (pg (sel da xF xG) a) (pg (sel db xF xG) b) k) ((k / 13) + (k % 13)) (((prF xP f (pg (sel da xF xG) a) (pg (sel db xF xG) b) k) ((k / 13) + (k % 13))) + ((((pg (sel da xF xG) a) (k / 13)) * ((pg (sel db xF xG) b) (k % 13))) * f))))
  show Z X E 13 _ 0 0 sz M 0 [(0, .ref m), (1, .int (nI a)), (2, .int (nI da)), (3, .int (nI b)), (4, .int (nI db)), (5, .int (fI f)), (6, .int (nI 0))] []
  refine z_iconst (v := nI 0) C d_M_product_0 (by decide) ?_
  refine z_istore (L' := [(0, .ref m), (1, .int (nI a)), (2, .int (nI da)), (3, .int (nI b)), (4, .int (nI db)), (5, .int (fI f)), (6, .int (nI 0)), (7, .int (nI 0))]) C d_M_product_1 (by decide) rfl ?_
  exact loop 169 0 M (by omega) (by rw [prF_0]; exact H) zoutR_rf
set_option maxHeartbeats 4000000 in
/-- product -/
theorem m_productQ (E : zE) (l : Launch) (sz : Nat) (M : zM) {m : Nat} {xln : Nat → Nat} {xlen : Nat} {xlab : Nat} {xbad : Int32} {xlev : Nat} {xtr : Int32} {xwa : Nat} {xpl : Nat} {xfo : Nat} {xsf : Nat → Nat} {xbf : Nat → Nat} {xF : Nat → FF} {xG : Nat → FF} {xP : Nat → FF} {xQ : Nat → FF} {xmm : Nat → FF} {xsl : Nat → Nat} {xkd : Nat → Nat} {xhs : Nat → Nat} {xht : Nat → Nat} {xsg : Nat → Nat} {xdv : Nat → Nat} (H : mw E M m xln xlen xlab xbad xlev xtr xwa xpl xfo xsf xbf xF xG xP xQ xmm xsl xkd xhs xht xsg xdv) (a da b db : Nat) (f : FF) (ha : a < 78) (hb : b < 78) (hda : da ≤ 1) (hdb : db ≤ 1) : zMet E l y_M_product c_M_product 13 none { frames := 0, cells := 0, slots := 0, locals := 0 } 0 0 [.ref m, .int (nI a), .int (nI da), .int (nI b), .int (nI db), .int (fI f), .int (nI 1)] sz M (fun v s M' => none = v ∧ sz = s ∧ zoutR M M' m (m + 15) ∧ mw E M' m xln xlen xlab xbad xlev xtr xwa xpl xfo xsf xbf xF xG xP (prd xQ f (pg (sel da xF xG) a) (pg (sel db xF xG) b)) xmm xsl xkd xhs xht xsg xdv) := by
  refine zMet.ofZ (by decide) (Nat.le_of_ble_eq_true rfl) ?_
  intro X hl hini C
  have loop : ∀ (e k : Nat) (M1 : zM), k + e = 169 → mw E M1 m xln xlen xlab xbad xlev xtr xwa xpl xfo xsf xbf xF xG xP (prF xQ f (pg (sel da xF xG) a) (pg (sel db xF xG) b) k) xmm xsl xkd xhs xht xsg xdv → zoutR M M1 m (m + 15) → Z X E 13 (zQ X E 0 0 (fun v s M' => none = v ∧ sz = s ∧ zoutR M M' m (m + 15) ∧ mw E M' m xln xlen xlab xbad xlev xtr xwa xpl xfo xsf xbf xF xG xP (prd xQ f (pg (sel da xF xG) a) (pg (sel db xF xG) b)) xmm xsl xkd xhs xht xsg xdv)) 0 0 sz M1 3 [(0, .ref m), (1, .int (nI a)), (2, .int (nI da)), (3, .int (nI b)), (4, .int (nI db)), (5, .int (fI f)), (6, .int (nI 1)), (7, .int (nI k))] [] := by
    intro e
    induction e with
    | zero =>
      intro k M1 hk H1 hz1
      have hk : k = 169 := by omega
      subst hk
      refine z_iload C d_M_product_3 rfl ?_
      refine z_sipush (v := nI 169) C d_M_product_5 (by decide) ?_
      refine z_icmp_ge (tgt := 178) C d_M_product_8 (by decide) (fun _ => ?_) (fun c_8 => absurd (by decide) c_8)
      refine z_vret C ⟨rfl, rfl, hz1, ?_⟩ d_M_product_178
      rw [← prF_e pg_z]
      exact H1
    | succ e ih =>
      intro k M1 hk H1 hz1
      refine z_iload C d_M_product_3 rfl ?_
      refine z_sipush (v := nI 169) C d_M_product_5 (by decide) ?_
      refine z_icmp_ge (tgt := 178) C d_M_product_8 (by decide) (fun c_8 => absurd c_8 (fun q => absurd ((nI_leI (a := 169) (b := k) (by omega) (by omega)).mp q) (by omega))) (fun _ => ?_)
      refine z_iload C d_M_product_11 rfl ?_
      refine z_bipush (v := nI 13) C d_M_product_13 (by decide) ?_
      refine z_idiv C d_M_product_15 (by decide) ?_
      refine z_top (y := nI (k / 13)) (pk_div (by omega) (by decide) (by decide)) ?_
      refine z_istore (L' := [(0, .ref m), (1, .int (nI a)), (2, .int (nI da)), (3, .int (nI b)), (4, .int (nI db)), (5, .int (fI f)), (6, .int (nI 1)), (7, .int (nI k)), (8, .int (nI (k / 13)))]) C d_M_product_16 (by decide) rfl ?_
      refine z_iload C d_M_product_18 rfl ?_
      refine z_bipush (v := nI 13) C d_M_product_20 (by decide) ?_
      refine z_irem C d_M_product_22 (by decide) ?_
      refine z_top (y := nI (k % 13)) (pk_rem (by omega) (by decide) (by decide)) ?_
      refine z_istore (L' := [(0, .ref m), (1, .int (nI a)), (2, .int (nI da)), (3, .int (nI b)), (4, .int (nI db)), (5, .int (fI f)), (6, .int (nI 1)), (7, .int (nI k)), (8, .int (nI (k / 13))), (9, .int (nI (k % 13)))]) C d_M_product_23 (by decide) rfl ?_
      refine z_iload_n C d_M_product_25 rfl rfl ?_
      refine z_if_eq (tgt := 44) C d_M_product_26 (by decide) (fun c_26 => ?_) (fun c_26 => ?_)
      · have c_26 : da = 0 := (nI_eq (a := da) (b := 0) (by omega) (by omega)).mp c_26
        refine z_aload_n C d_M_product_44 rfl rfl ?_
        refine z_get C in_M H1.1 rfl 11 (by decide) fl_M_23 rfl rfl d_M_product_45 ?_
        refine z_iload_n C d_M_product_48 rfl rfl ?_
        refine z_bipush (v := nI 13) C d_M_product_49 (by decide) ?_
        refine z_imul C d_M_product_51 ?_
        refine z_top (y := nI (a * 13)) (pk_mul _ _) ?_
        refine z_iload C d_M_product_52 rfl ?_
        refine z_iadd C d_M_product_54 ?_
        refine z_top (y := nI ((a * 13) + (k / 13))) (nI_add _ _) ?_
        refine z_iald C H1.2.2.2.2.1 0 rfl ((a * 13) + (k / 13)) (rfl) (by omega) (by omega) d_M_product_55 ?_
        refine z_top (y := fI ((pg (sel da xF xG) a) (k / 13))) (by rw [pg_at (by omega), sel_0 c_26]) ?_
        refine z_istore (L' := [(0, .ref m), (1, .int (nI a)), (2, .int (nI da)), (3, .int (nI b)), (4, .int (nI db)), (5, .int (fI f)), (6, .int (nI 1)), (7, .int (nI k)), (8, .int (nI (k / 13))), (9, .int (nI (k % 13))), (10, .int (fI ((pg (sel da xF xG) a) (k / 13))))]) C d_M_product_56 (by decide) rfl ?_
        refine z_iload C d_M_product_58 rfl ?_
        refine z_if_eq (tgt := 78) C d_M_product_60 (by decide) (fun c_60 => ?_) (fun c_60 => ?_)
        · have c_60 : db = 0 := (nI_eq (a := db) (b := 0) (by omega) (by omega)).mp c_60
          refine z_aload_n C d_M_product_78 rfl rfl ?_
          refine z_get C in_M H1.1 rfl 11 (by decide) fl_M_23 rfl rfl d_M_product_79 ?_
          refine z_iload_n C d_M_product_82 rfl rfl ?_
          refine z_bipush (v := nI 13) C d_M_product_83 (by decide) ?_
          refine z_imul C d_M_product_85 ?_
          refine z_top (y := nI (b * 13)) (pk_mul _ _) ?_
          refine z_iload C d_M_product_86 rfl ?_
          refine z_iadd C d_M_product_88 ?_
          refine z_top (y := nI ((b * 13) + (k % 13))) (nI_add _ _) ?_
          refine z_iald C H1.2.2.2.2.1 0 rfl ((b * 13) + (k % 13)) (rfl) (by omega) (by omega) d_M_product_89 ?_
          refine z_top (y := fI ((pg (sel db xF xG) b) (k % 13))) (by rw [pg_at (by omega), sel_0 c_60]) ?_
          refine z_istore (L' := [(0, .ref m), (1, .int (nI a)), (2, .int (nI da)), (3, .int (nI b)), (4, .int (nI db)), (5, .int (fI f)), (6, .int (nI 1)), (7, .int (nI k)), (8, .int (nI (k / 13))), (9, .int (nI (k % 13))), (10, .int (fI ((pg (sel da xF xG) a) (k / 13)))), (11, .int (fI ((pg (sel db xF xG) b) (k % 13))))]) C d_M_product_90 (by decide) rfl ?_
          refine z_iload C d_M_product_92 rfl ?_
          refine z_iload C d_M_product_94 rfl ?_
          refine z_imul C d_M_product_96 ?_
          refine z_sipush (v := nI 10007) C d_M_product_97 (by decide) ?_
          refine z_irem C d_M_product_100 (by decide) ?_
          refine z_top (y := fI (((pg (sel da xF xG) a) (k / 13)) * ((pg (sel db xF xG) b) (k % 13)))) (fI_mul _ _) ?_
          refine z_iload C d_M_product_101 rfl ?_
          refine z_imul C d_M_product_103 ?_
          refine z_sipush (v := nI 10007) C d_M_product_104 (by decide) ?_
          refine z_irem C d_M_product_107 (by decide) ?_
          refine z_top (y := fI ((((pg (sel da xF xG) a) (k / 13)) * ((pg (sel db xF xG) b) (k % 13))) * f)) (fI_mul _ _) ?_
          refine z_istore (L' := [(0, .ref m), (1, .int (nI a)), (2, .int (nI da)), (3, .int (nI b)), (4, .int (nI db)), (5, .int (fI f)), (6, .int (nI 1)), (7, .int (nI k)), (8, .int (nI (k / 13))), (9, .int (nI (k % 13))), (10, .int (fI ((pg (sel da xF xG) a) (k / 13)))), (11, .int (fI ((pg (sel db xF xG) b) (k % 13)))), (12, .int (fI ((((pg (sel da xF xG) a) (k / 13)) * ((pg (sel db xF xG) b) (k % 13))) * f)))]) C d_M_product_108 (by decide) rfl ?_
          refine z_iload C d_M_product_110 rfl ?_
          refine z_if_eq (tgt := 145) C d_M_product_112 (by decide) (fun c_112 => absurd c_112 (by decide)) (fun _ => ?_)
          refine z_aload_n C d_M_product_115 rfl rfl ?_
          refine z_get C in_M H1.1 rfl 14 (by decide) fl_M_32 rfl rfl d_M_product_116 ?_
          refine z_iload C d_M_product_119 rfl ?_
          refine z_iload C d_M_product_121 rfl ?_
          refine z_iadd C d_M_product_123 ?_
          refine z_top (y := nI ((k / 13) + (k % 13))) (nI_add _ _) ?_
          refine z_aload_n C d_M_product_124 rfl rfl ?_
          refine z_get C in_M H1.1 rfl 14 (by decide) fl_M_32 rfl rfl d_M_product_125 ?_
          refine z_iload C d_M_product_128 rfl ?_
          refine z_iload C d_M_product_130 rfl ?_
          refine z_iadd C d_M_product_132 ?_
          refine z_top (y := nI ((k / 13) + (k % 13))) (nI_add _ _) ?_
          refine z_iald C H1.2.2.2.2.2.2.2.1 0 rfl ((k / 13) + (k % 13)) (rfl) (by omega) (by omega) d_M_product_133 ?_
          refine z_top (y := fI ((prF xQ f (pg (sel da xF xG) a) (pg (sel db xF xG) b) k) ((k / 13) + (k % 13)))) rfl ?_
          refine z_iload C d_M_product_134 rfl ?_
          refine z_iadd C d_M_product_136 ?_
          refine z_sipush (v := nI 10007) C d_M_product_137 (by decide) ?_
          refine z_irem C d_M_product_140 (by decide) ?_
          refine z_top (y := fI (((prF xQ f (pg (sel da xF xG) a) (pg (sel db xF xG) b) k) ((k / 13) + (k % 13))) + ((((pg (sel da xF xG) a) (k / 13)) * ((pg (sel db xF xG) b) (k % 13))) * f))) (fI_add _ _) ?_
          refine z_iast C H1.2.2.2.2.2.2.2.1 0 rfl ((k / 13) + (k % 13)) (rfl) (by omega) (by omega) d_M_product_141 ?_
          refine z_world (M' := zU M1 (m + 7) (.inl (E.2.1 0, 40, .inl (fun z_ => fI ((updF (prF xQ f (pg (sel da xF xG) a) (pg (sel db xF xG) b) k) ((k / 13) + (k % 13)) (((prF xQ f (pg (sel da xF xG) a) (pg (sel db xF xG) b) k) ((k / 13) + (k % 13))) + ((((pg (sel da xF xG) a) (k / 13)) * ((pg (sel db xF xG) b) (k % 13))) * f))) z_))))) (congrArg (fun e => zU M1 (m + 7) (.inl (E.2.1 0, 40, .inl e))) fI_upd) ?_
          refine z_goto (tgt := 172) C d_M_product_142 (by decide) ?_
          refine z_iinc (v := nI (k + 1)) (L' := [(0, .ref m), (1, .int (nI a)), (2, .int (nI da)), (3, .int (nI b)), (4, .int (nI db)), (5, .int (fI f)), (6, .int (nI 1)), (7, .int (nI (k + 1))), (8, .int (nI (k / 13))), (9, .int (nI (k % 13))), (10, .int (fI ((pg (sel da xF xG) a) (k / 13)))), (11, .int (fI ((pg (sel db xF xG) b) (k % 13)))), (12, .int (fI ((((pg (sel da xF xG) a) (k / 13)) * ((pg (sel db xF xG) b) (k % 13))) * f)))]) C d_M_product_172 rfl (nI_add _ 1) (by decide) rfl ?_
          refine z_goto (tgt := 3) C d_M_product_175 (by decide) ?_
          refine z_sub [0, 1, 2, 3, 4, 5, 6, 7] rfl ?_
          refine ih (k + 1) _ (by omega) ?_ (zoutR_tr hz1 (zo_u (by omega) (by omega)))
          rw [← prF_s pg_z]
          exact (mw_a7 H1 (updF (prF xQ f (pg (sel da xF xG) a) (pg (sel db xF xG) b) k) ((k / 13) + (k % 13)) (((prF xQ f (pg (sel da xF xG) a) (pg (sel db xF xG) b) k) ((k / 13) + (k % 13))) + ((((pg (sel da xF xG) a) (k / 13)) * ((pg (sel db xF xG) b) (k % 13))) * f))))
        · have c_60 : ¬ db = 0 := fun q => c_60 (congrArg nI q)
          refine z_aload_n C d_M_product_63 rfl rfl ?_
          refine z_get C in_M H1.1 rfl 12 (by decide) fl_M_26 rfl rfl d_M_product_64 ?_
          refine z_iload_n C d_M_product_67 rfl rfl ?_
          refine z_bipush (v := nI 13) C d_M_product_68 (by decide) ?_
          refine z_imul C d_M_product_70 ?_
          refine z_top (y := nI (b * 13)) (pk_mul _ _) ?_
          refine z_iload C d_M_product_71 rfl ?_
          refine z_iadd C d_M_product_73 ?_
          refine z_top (y := nI ((b * 13) + (k % 13))) (nI_add _ _) ?_
          refine z_iald C H1.2.2.2.2.2.1 0 rfl ((b * 13) + (k % 13)) (rfl) (by omega) (by omega) d_M_product_74 ?_
          refine z_top (y := fI ((pg (sel db xF xG) b) (k % 13))) (by rw [pg_at (by omega), sel_1 c_60]) ?_
          refine z_goto (tgt := 90) C d_M_product_75 (by decide) ?_
          refine z_istore (L' := [(0, .ref m), (1, .int (nI a)), (2, .int (nI da)), (3, .int (nI b)), (4, .int (nI db)), (5, .int (fI f)), (6, .int (nI 1)), (7, .int (nI k)), (8, .int (nI (k / 13))), (9, .int (nI (k % 13))), (10, .int (fI ((pg (sel da xF xG) a) (k / 13)))), (11, .int (fI ((pg (sel db xF xG) b) (k % 13))))]) C d_M_product_90 (by decide) rfl ?_
          refine z_iload C d_M_product_92 rfl ?_
          refine z_iload C d_M_product_94 rfl ?_
          refine z_imul C d_M_product_96 ?_
          refine z_sipush (v := nI 10007) C d_M_product_97 (by decide) ?_
          refine z_irem C d_M_product_100 (by decide) ?_
          refine z_top (y := fI (((pg (sel da xF xG) a) (k / 13)) * ((pg (sel db xF xG) b) (k % 13)))) (fI_mul _ _) ?_
          refine z_iload C d_M_product_101 rfl ?_
          refine z_imul C d_M_product_103 ?_
          refine z_sipush (v := nI 10007) C d_M_product_104 (by decide) ?_
          refine z_irem C d_M_product_107 (by decide) ?_
          refine z_top (y := fI ((((pg (sel da xF xG) a) (k / 13)) * ((pg (sel db xF xG) b) (k % 13))) * f)) (fI_mul _ _) ?_
          refine z_istore (L' := [(0, .ref m), (1, .int (nI a)), (2, .int (nI da)), (3, .int (nI b)), (4, .int (nI db)), (5, .int (fI f)), (6, .int (nI 1)), (7, .int (nI k)), (8, .int (nI (k / 13))), (9, .int (nI (k % 13))), (10, .int (fI ((pg (sel da xF xG) a) (k / 13)))), (11, .int (fI ((pg (sel db xF xG) b) (k % 13)))), (12, .int (fI ((((pg (sel da xF xG) a) (k / 13)) * ((pg (sel db xF xG) b) (k % 13))) * f)))]) C d_M_product_108 (by decide) rfl ?_
          refine z_iload C d_M_product_110 rfl ?_
          refine z_if_eq (tgt := 145) C d_M_product_112 (by decide) (fun c_112 => absurd c_112 (by decide)) (fun _ => ?_)
          refine z_aload_n C d_M_product_115 rfl rfl ?_
          refine z_get C in_M H1.1 rfl 14 (by decide) fl_M_32 rfl rfl d_M_product_116 ?_
          refine z_iload C d_M_product_119 rfl ?_
          refine z_iload C d_M_product_121 rfl ?_
          refine z_iadd C d_M_product_123 ?_
          refine z_top (y := nI ((k / 13) + (k % 13))) (nI_add _ _) ?_
          refine z_aload_n C d_M_product_124 rfl rfl ?_
          refine z_get C in_M H1.1 rfl 14 (by decide) fl_M_32 rfl rfl d_M_product_125 ?_
          refine z_iload C d_M_product_128 rfl ?_
          refine z_iload C d_M_product_130 rfl ?_
          refine z_iadd C d_M_product_132 ?_
          refine z_top (y := nI ((k / 13) + (k % 13))) (nI_add _ _) ?_
          refine z_iald C H1.2.2.2.2.2.2.2.1 0 rfl ((k / 13) + (k % 13)) (rfl) (by omega) (by omega) d_M_product_133 ?_
          refine z_top (y := fI ((prF xQ f (pg (sel da xF xG) a) (pg (sel db xF xG) b) k) ((k / 13) + (k % 13)))) rfl ?_
          refine z_iload C d_M_product_134 rfl ?_
          refine z_iadd C d_M_product_136 ?_
          refine z_sipush (v := nI 10007) C d_M_product_137 (by decide) ?_
          refine z_irem C d_M_product_140 (by decide) ?_
          refine z_top (y := fI (((prF xQ f (pg (sel da xF xG) a) (pg (sel db xF xG) b) k) ((k / 13) + (k % 13))) + ((((pg (sel da xF xG) a) (k / 13)) * ((pg (sel db xF xG) b) (k % 13))) * f))) (fI_add _ _) ?_
          refine z_iast C H1.2.2.2.2.2.2.2.1 0 rfl ((k / 13) + (k % 13)) (rfl) (by omega) (by omega) d_M_product_141 ?_
          refine z_world (M' := zU M1 (m + 7) (.inl (E.2.1 0, 40, .inl (fun z_ => fI ((updF (prF xQ f (pg (sel da xF xG) a) (pg (sel db xF xG) b) k) ((k / 13) + (k % 13)) (((prF xQ f (pg (sel da xF xG) a) (pg (sel db xF xG) b) k) ((k / 13) + (k % 13))) + ((((pg (sel da xF xG) a) (k / 13)) * ((pg (sel db xF xG) b) (k % 13))) * f))) z_))))) (congrArg (fun e => zU M1 (m + 7) (.inl (E.2.1 0, 40, .inl e))) fI_upd) ?_
          refine z_goto (tgt := 172) C d_M_product_142 (by decide) ?_
          refine z_iinc (v := nI (k + 1)) (L' := [(0, .ref m), (1, .int (nI a)), (2, .int (nI da)), (3, .int (nI b)), (4, .int (nI db)), (5, .int (fI f)), (6, .int (nI 1)), (7, .int (nI (k + 1))), (8, .int (nI (k / 13))), (9, .int (nI (k % 13))), (10, .int (fI ((pg (sel da xF xG) a) (k / 13)))), (11, .int (fI ((pg (sel db xF xG) b) (k % 13)))), (12, .int (fI ((((pg (sel da xF xG) a) (k / 13)) * ((pg (sel db xF xG) b) (k % 13))) * f)))]) C d_M_product_172 rfl (nI_add _ 1) (by decide) rfl ?_
          refine z_goto (tgt := 3) C d_M_product_175 (by decide) ?_
          refine z_sub [0, 1, 2, 3, 4, 5, 6, 7] rfl ?_
          refine ih (k + 1) _ (by omega) ?_ (zoutR_tr hz1 (zo_u (by omega) (by omega)))
          rw [← prF_s pg_z]
          exact (mw_a7 H1 (updF (prF xQ f (pg (sel da xF xG) a) (pg (sel db xF xG) b) k) ((k / 13) + (k % 13)) (((prF xQ f (pg (sel da xF xG) a) (pg (sel db xF xG) b) k) ((k / 13) + (k % 13))) + ((((pg (sel da xF xG) a) (k / 13)) * ((pg (sel db xF xG) b) (k % 13))) * f))))
      · have c_26 : ¬ da = 0 := fun q => c_26 (congrArg nI q)
        refine z_aload_n C d_M_product_29 rfl rfl ?_
        refine z_get C in_M H1.1 rfl 12 (by decide) fl_M_26 rfl rfl d_M_product_30 ?_
        refine z_iload_n C d_M_product_33 rfl rfl ?_
        refine z_bipush (v := nI 13) C d_M_product_34 (by decide) ?_
        refine z_imul C d_M_product_36 ?_
        refine z_top (y := nI (a * 13)) (pk_mul _ _) ?_
        refine z_iload C d_M_product_37 rfl ?_
        refine z_iadd C d_M_product_39 ?_
        refine z_top (y := nI ((a * 13) + (k / 13))) (nI_add _ _) ?_
        refine z_iald C H1.2.2.2.2.2.1 0 rfl ((a * 13) + (k / 13)) (rfl) (by omega) (by omega) d_M_product_40 ?_
        refine z_top (y := fI ((pg (sel da xF xG) a) (k / 13))) (by rw [pg_at (by omega), sel_1 c_26]) ?_
        refine z_goto (tgt := 56) C d_M_product_41 (by decide) ?_
        refine z_istore (L' := [(0, .ref m), (1, .int (nI a)), (2, .int (nI da)), (3, .int (nI b)), (4, .int (nI db)), (5, .int (fI f)), (6, .int (nI 1)), (7, .int (nI k)), (8, .int (nI (k / 13))), (9, .int (nI (k % 13))), (10, .int (fI ((pg (sel da xF xG) a) (k / 13))))]) C d_M_product_56 (by decide) rfl ?_
        refine z_iload C d_M_product_58 rfl ?_
        refine z_if_eq (tgt := 78) C d_M_product_60 (by decide) (fun c_60 => ?_) (fun c_60 => ?_)
        · have c_60 : db = 0 := (nI_eq (a := db) (b := 0) (by omega) (by omega)).mp c_60
          refine z_aload_n C d_M_product_78 rfl rfl ?_
          refine z_get C in_M H1.1 rfl 11 (by decide) fl_M_23 rfl rfl d_M_product_79 ?_
          refine z_iload_n C d_M_product_82 rfl rfl ?_
          refine z_bipush (v := nI 13) C d_M_product_83 (by decide) ?_
          refine z_imul C d_M_product_85 ?_
          refine z_top (y := nI (b * 13)) (pk_mul _ _) ?_
          refine z_iload C d_M_product_86 rfl ?_
          refine z_iadd C d_M_product_88 ?_
          refine z_top (y := nI ((b * 13) + (k % 13))) (nI_add _ _) ?_
          refine z_iald C H1.2.2.2.2.1 0 rfl ((b * 13) + (k % 13)) (rfl) (by omega) (by omega) d_M_product_89 ?_
          refine z_top (y := fI ((pg (sel db xF xG) b) (k % 13))) (by rw [pg_at (by omega), sel_0 c_60]) ?_
          refine z_istore (L' := [(0, .ref m), (1, .int (nI a)), (2, .int (nI da)), (3, .int (nI b)), (4, .int (nI db)), (5, .int (fI f)), (6, .int (nI 1)), (7, .int (nI k)), (8, .int (nI (k / 13))), (9, .int (nI (k % 13))), (10, .int (fI ((pg (sel da xF xG) a) (k / 13)))), (11, .int (fI ((pg (sel db xF xG) b) (k % 13))))]) C d_M_product_90 (by decide) rfl ?_
          refine z_iload C d_M_product_92 rfl ?_
          refine z_iload C d_M_product_94 rfl ?_
          refine z_imul C d_M_product_96 ?_
          refine z_sipush (v := nI 10007) C d_M_product_97 (by decide) ?_
          refine z_irem C d_M_product_100 (by decide) ?_
          refine z_top (y := fI (((pg (sel da xF xG) a) (k / 13)) * ((pg (sel db xF xG) b) (k % 13)))) (fI_mul _ _) ?_
          refine z_iload C d_M_product_101 rfl ?_
          refine z_imul C d_M_product_103 ?_
          refine z_sipush (v := nI 10007) C d_M_product_104 (by decide) ?_
          refine z_irem C d_M_product_107 (by decide) ?_
          refine z_top (y := fI ((((pg (sel da xF xG) a) (k / 13)) * ((pg (sel db xF xG) b) (k % 13))) * f)) (fI_mul _ _) ?_
          refine z_istore (L' := [(0, .ref m), (1, .int (nI a)), (2, .int (nI da)), (3, .int (nI b)), (4, .int (nI db)), (5, .int (fI f)), (6, .int (nI 1)), (7, .int (nI k)), (8, .int (nI (k / 13))), (9, .int (nI (k % 13))), (10, .int (fI ((pg (sel da xF xG) a) (k / 13)))), (11, .int (fI ((pg (sel db xF xG) b) (k % 13)))), (12, .int (fI ((((pg (sel da xF xG) a) (k / 13)) * ((pg (sel db xF xG) b) (k % 13))) * f)))]) C d_M_product_108 (by decide) rfl ?_
          refine z_iload C d_M_product_110 rfl ?_
          refine z_if_eq (tgt := 145) C d_M_product_112 (by decide) (fun c_112 => absurd c_112 (by decide)) (fun _ => ?_)
          refine z_aload_n C d_M_product_115 rfl rfl ?_
          refine z_get C in_M H1.1 rfl 14 (by decide) fl_M_32 rfl rfl d_M_product_116 ?_
          refine z_iload C d_M_product_119 rfl ?_
          refine z_iload C d_M_product_121 rfl ?_
          refine z_iadd C d_M_product_123 ?_
          refine z_top (y := nI ((k / 13) + (k % 13))) (nI_add _ _) ?_
          refine z_aload_n C d_M_product_124 rfl rfl ?_
          refine z_get C in_M H1.1 rfl 14 (by decide) fl_M_32 rfl rfl d_M_product_125 ?_
          refine z_iload C d_M_product_128 rfl ?_
          refine z_iload C d_M_product_130 rfl ?_
          refine z_iadd C d_M_product_132 ?_
          refine z_top (y := nI ((k / 13) + (k % 13))) (nI_add _ _) ?_
          refine z_iald C H1.2.2.2.2.2.2.2.1 0 rfl ((k / 13) + (k % 13)) (rfl) (by omega) (by omega) d_M_product_133 ?_
          refine z_top (y := fI ((prF xQ f (pg (sel da xF xG) a) (pg (sel db xF xG) b) k) ((k / 13) + (k % 13)))) rfl ?_
          refine z_iload C d_M_product_134 rfl ?_
          refine z_iadd C d_M_product_136 ?_
          refine z_sipush (v := nI 10007) C d_M_product_137 (by decide) ?_
          refine z_irem C d_M_product_140 (by decide) ?_
          refine z_top (y := fI (((prF xQ f (pg (sel da xF xG) a) (pg (sel db xF xG) b) k) ((k / 13) + (k % 13))) + ((((pg (sel da xF xG) a) (k / 13)) * ((pg (sel db xF xG) b) (k % 13))) * f))) (fI_add _ _) ?_
          refine z_iast C H1.2.2.2.2.2.2.2.1 0 rfl ((k / 13) + (k % 13)) (rfl) (by omega) (by omega) d_M_product_141 ?_
          refine z_world (M' := zU M1 (m + 7) (.inl (E.2.1 0, 40, .inl (fun z_ => fI ((updF (prF xQ f (pg (sel da xF xG) a) (pg (sel db xF xG) b) k) ((k / 13) + (k % 13)) (((prF xQ f (pg (sel da xF xG) a) (pg (sel db xF xG) b) k) ((k / 13) + (k % 13))) + ((((pg (sel da xF xG) a) (k / 13)) * ((pg (sel db xF xG) b) (k % 13))) * f))) z_))))) (congrArg (fun e => zU M1 (m + 7) (.inl (E.2.1 0, 40, .inl e))) fI_upd) ?_
          refine z_goto (tgt := 172) C d_M_product_142 (by decide) ?_
          refine z_iinc (v := nI (k + 1)) (L' := [(0, .ref m), (1, .int (nI a)), (2, .int (nI da)), (3, .int (nI b)), (4, .int (nI db)), (5, .int (fI f)), (6, .int (nI 1)), (7, .int (nI (k + 1))), (8, .int (nI (k / 13))), (9, .int (nI (k % 13))), (10, .int (fI ((pg (sel da xF xG) a) (k / 13)))), (11, .int (fI ((pg (sel db xF xG) b) (k % 13)))), (12, .int (fI ((((pg (sel da xF xG) a) (k / 13)) * ((pg (sel db xF xG) b) (k % 13))) * f)))]) C d_M_product_172 rfl (nI_add _ 1) (by decide) rfl ?_
          refine z_goto (tgt := 3) C d_M_product_175 (by decide) ?_
          refine z_sub [0, 1, 2, 3, 4, 5, 6, 7] rfl ?_
          refine ih (k + 1) _ (by omega) ?_ (zoutR_tr hz1 (zo_u (by omega) (by omega)))
          rw [← prF_s pg_z]
          exact (mw_a7 H1 (updF (prF xQ f (pg (sel da xF xG) a) (pg (sel db xF xG) b) k) ((k / 13) + (k % 13)) (((prF xQ f (pg (sel da xF xG) a) (pg (sel db xF xG) b) k) ((k / 13) + (k % 13))) + ((((pg (sel da xF xG) a) (k / 13)) * ((pg (sel db xF xG) b) (k % 13))) * f))))
        · have c_60 : ¬ db = 0 := fun q => c_60 (congrArg nI q)
          refine z_aload_n C d_M_product_63 rfl rfl ?_
          refine z_get C in_M H1.1 rfl 12 (by decide) fl_M_26 rfl rfl d_M_product_64 ?_
          refine z_iload_n C d_M_product_67 rfl rfl ?_
          refine z_bipush (v := nI 13) C d_M_product_68 (by decide) ?_
          refine z_imul C d_M_product_70 ?_
          refine z_top (y := nI (b * 13)) (pk_mul _ _) ?_
          refine z_iload C d_M_product_71 rfl ?_
          refine z_iadd C d_M_product_73 ?_
          refine z_top (y := nI ((b * 13) + (k % 13))) (nI_add _ _) ?_
          refine z_iald C H1.2.2.2.2.2.1 0 rfl ((b * 13) + (k % 13)) (rfl) (by omega) (by omega) d_M_product_74 ?_
          refine z_top (y := fI ((pg (sel db xF xG) b) (k % 13))) (by rw [pg_at (by omega), sel_1 c_60]) ?_
          refine z_goto (tgt := 90) C d_M_product_75 (by decide) ?_
          refine z_istore (L' := [(0, .ref m), (1, .int (nI a)), (2, .int (nI da)), (3, .int (nI b)), (4, .int (nI db)), (5, .int (fI f)), (6, .int (nI 1)), (7, .int (nI k)), (8, .int (nI (k / 13))), (9, .int (nI (k % 13))), (10, .int (fI ((pg (sel da xF xG) a) (k / 13)))), (11, .int (fI ((pg (sel db xF xG) b) (k % 13))))]) C d_M_product_90 (by decide) rfl ?_
          refine z_iload C d_M_product_92 rfl ?_
          refine z_iload C d_M_product_94 rfl ?_
          refine z_imul C d_M_product_96 ?_
          refine z_sipush (v := nI 10007) C d_M_product_97 (by decide) ?_
          refine z_irem C d_M_product_100 (by decide) ?_
          refine z_top (y := fI (((pg (sel da xF xG) a) (k / 13)) * ((pg (sel db xF xG) b) (k % 13)))) (fI_mul _ _) ?_
          refine z_iload C d_M_product_101 rfl ?_
          refine z_imul C d_M_product_103 ?_
          refine z_sipush (v := nI 10007) C d_M_product_104 (by decide) ?_
          refine z_irem C d_M_product_107 (by decide) ?_
          refine z_top (y := fI ((((pg (sel da xF xG) a) (k / 13)) * ((pg (sel db xF xG) b) (k % 13))) * f)) (fI_mul _ _) ?_
          refine z_istore (L' := [(0, .ref m), (1, .int (nI a)), (2, .int (nI da)), (3, .int (nI b)), (4, .int (nI db)), (5, .int (fI f)), (6, .int (nI 1)), (7, .int (nI k)), (8, .int (nI (k / 13))), (9, .int (nI (k % 13))), (10, .int (fI ((pg (sel da xF xG) a) (k / 13)))), (11, .int (fI ((pg (sel db xF xG) b) (k % 13)))), (12, .int (fI ((((pg (sel da xF xG) a) (k / 13)) * ((pg (sel db xF xG) b) (k % 13))) * f)))]) C d_M_product_108 (by decide) rfl ?_
          refine z_iload C d_M_product_110 rfl ?_
          refine z_if_eq (tgt := 145) C d_M_product_112 (by decide) (fun c_112 => absurd c_112 (by decide)) (fun _ => ?_)
          refine z_aload_n C d_M_product_115 rfl rfl ?_
          refine z_get C in_M H1.1 rfl 14 (by decide) fl_M_32 rfl rfl d_M_product_116 ?_
          refine z_iload C d_M_product_119 rfl ?_
          refine z_iload C d_M_product_121 rfl ?_
          refine z_iadd C d_M_product_123 ?_
          refine z_top (y := nI ((k / 13) + (k % 13))) (nI_add _ _) ?_
          refine z_aload_n C d_M_product_124 rfl rfl ?_
          refine z_get C in_M H1.1 rfl 14 (by decide) fl_M_32 rfl rfl d_M_product_125 ?_
          refine z_iload C d_M_product_128 rfl ?_
          refine z_iload C d_M_product_130 rfl ?_
          refine z_iadd C d_M_product_132 ?_
          refine z_top (y := nI ((k / 13) + (k % 13))) (nI_add _ _) ?_
          refine z_iald C H1.2.2.2.2.2.2.2.1 0 rfl ((k / 13) + (k % 13)) (rfl) (by omega) (by omega) d_M_product_133 ?_
          refine z_top (y := fI ((prF xQ f (pg (sel da xF xG) a) (pg (sel db xF xG) b) k) ((k / 13) + (k % 13)))) rfl ?_
          refine z_iload C d_M_product_134 rfl ?_
          refine z_iadd C d_M_product_136 ?_
          refine z_sipush (v := nI 10007) C d_M_product_137 (by decide) ?_
          refine z_irem C d_M_product_140 (by decide) ?_
          refine z_top (y := fI (((prF xQ f (pg (sel da xF xG) a) (pg (sel db xF xG) b) k) ((k / 13) + (k % 13))) + ((((pg (sel da xF xG) a) (k / 13)) * ((pg (sel db xF xG) b) (k % 13))) * f))) (fI_add _ _) ?_
          refine z_iast C H1.2.2.2.2.2.2.2.1 0 rfl ((k / 13) + (k % 13)) (rfl) (by omega) (by omega) d_M_product_141 ?_
          refine z_world (M' := zU M1 (m + 7) (.inl (E.2.1 0, 40, .inl (fun z_ => fI ((updF (prF xQ f (pg (sel da xF xG) a) (pg (sel db xF xG) b) k) ((k / 13) + (k % 13)) (((prF xQ f (pg (sel da xF xG) a) (pg (sel db xF xG) b) k) ((k / 13) + (k % 13))) + ((((pg (sel da xF xG) a) (k / 13)) * ((pg (sel db xF xG) b) (k % 13))) * f))) z_))))) (congrArg (fun e => zU M1 (m + 7) (.inl (E.2.1 0, 40, .inl e))) fI_upd) ?_
          refine z_goto (tgt := 172) C d_M_product_142 (by decide) ?_
          refine z_iinc (v := nI (k + 1)) (L' := [(0, .ref m), (1, .int (nI a)), (2, .int (nI da)), (3, .int (nI b)), (4, .int (nI db)), (5, .int (fI f)), (6, .int (nI 1)), (7, .int (nI (k + 1))), (8, .int (nI (k / 13))), (9, .int (nI (k % 13))), (10, .int (fI ((pg (sel da xF xG) a) (k / 13)))), (11, .int (fI ((pg (sel db xF xG) b) (k % 13)))), (12, .int (fI ((((pg (sel da xF xG) a) (k / 13)) * ((pg (sel db xF xG) b) (k % 13))) * f)))]) C d_M_product_172 rfl (nI_add _ 1) (by decide) rfl ?_
          refine z_goto (tgt := 3) C d_M_product_175 (by decide) ?_
          refine z_sub [0, 1, 2, 3, 4, 5, 6, 7] rfl ?_
          refine ih (k + 1) _ (by omega) ?_ (zoutR_tr hz1 (zo_u (by omega) (by omega)))
          rw [← prF_s pg_z]
          exact (mw_a7 H1 (updF (prF xQ f (pg (sel da xF xG) a) (pg (sel db xF xG) b) k) ((k / 13) + (k % 13)) (((prF xQ f (pg (sel da xF xG) a) (pg (sel db xF xG) b) k) ((k / 13) + (k % 13))) + ((((pg (sel da xF xG) a) (k / 13)) * ((pg (sel db xF xG) b) (k % 13))) * f))))
  show Z X E 13 _ 0 0 sz M 0 [(0, .ref m), (1, .int (nI a)), (2, .int (nI da)), (3, .int (nI b)), (4, .int (nI db)), (5, .int (fI f)), (6, .int (nI 1))] []
  refine z_iconst (v := nI 0) C d_M_product_0 (by decide) ?_
  refine z_istore (L' := [(0, .ref m), (1, .int (nI a)), (2, .int (nI da)), (3, .int (nI b)), (4, .int (nI db)), (5, .int (fI f)), (6, .int (nI 1)), (7, .int (nI 0))]) C d_M_product_1 (by decide) rfl ?_
  exact loop 169 0 M (by omega) (by rw [prF_0]; exact H) zoutR_rf
def sbF (F : Nat → FF) (r row : Nat) (f : FF) (k : Nat) : Nat → FF := fun j => if r * 26 ≤ j ∧ j < r * 26 + k then F j - f * F (j - r * 26 + row * 26) else F j
theorem sbF_0 (F : Nat → FF) (r row : Nat) (f : FF) : sbF F r row f 0 = F := by
  funext j
  unfold sbF
  rw [if_neg (by omega)]
theorem sbF_s {F : Nat → FF} {r row k : Nat} {f : FF} (hne : r ≠ row) (hk : k < 26) : updF (sbF F r row f k) (r * 26 + k) (sbF F r row f k (r * 26 + k) - f * sbF F r row f k (row * 26 + k)) = sbF F r row f (k + 1) := by
  funext j
  unfold updF sbF
  by_cases h : j = r * 26 + k
  · rw [if_pos h, if_neg (by omega), if_neg (by omega), if_pos (by omega), h, show r * 26 + k - r * 26 + row * 26 = row * 26 + k by omega]
  · rw [if_neg h]
    by_cases h2 : r * 26 ≤ j ∧ j < r * 26 + k
    · rw [if_pos h2, if_pos (show r * 26 ≤ j ∧ j < r * 26 + (k + 1) by omega)]
    · rw [if_neg h2, if_neg (show ¬ (r * 26 ≤ j ∧ j < r * 26 + (k + 1)) by omega)]
set_option maxHeartbeats 4000000 in
/-- subtract -/
theorem m_subtract (E : zE) (l : Launch) (sz : Nat) (M : zM) {m : Nat} {xln : Nat → Nat} {xlen : Nat} {xlab : Nat} {xbad : Int32} {xlev : Nat} {xtr : Int32} {xwa : Nat} {xpl : Nat} {xfo : Nat} {xsf : Nat → Nat} {xbf : Nat → Nat} {xF : Nat → FF} {xG : Nat → FF} {xP : Nat → FF} {xQ : Nat → FF} {xmm : Nat → FF} {xsl : Nat → Nat} {xkd : Nat → Nat} {xhs : Nat → Nat} {xht : Nat → Nat} {xsg : Nat → Nat} {xdv : Nat → Nat} (H : mw E M m xln xlen xlab xbad xlev xtr xwa xpl xfo xsf xbf xF xG xP xQ xmm xsl xkd xhs xht xsg xdv) (r row : Nat) (f : FF) (hr : r < 37) (hrow : row < 37) (hne : r ≠ row) : zMet E l y_M_subtract c_M_subtract 5 none { frames := 0, cells := 0, slots := 0, locals := 0 } 0 0 [.ref m, .int (nI r), .int (nI row), .int (fI f)] sz M (fun v s M' => none = v ∧ sz = s ∧ zoutR M M' m (m + 15) ∧ mw E M' m xln xlen xlab xbad xlev xtr xwa xpl xfo xsf xbf xF xG xP xQ (sbF xmm r row f 26) xsl xkd xhs xht xsg xdv) := by
  refine zMet.ofZ (by decide) (Nat.le_of_ble_eq_true rfl) ?_
  intro X hl hini C
  have loop : ∀ (e k : Nat) (M1 : zM), k + e = 26 → mw E M1 m xln xlen xlab xbad xlev xtr xwa xpl xfo xsf xbf xF xG xP xQ (sbF xmm r row f k) xsl xkd xhs xht xsg xdv → zoutR M M1 m (m + 15) → Z X E 5 (zQ X E 0 0 (fun v s M' => none = v ∧ sz = s ∧ zoutR M M' m (m + 15) ∧ mw E M' m xln xlen xlab xbad xlev xtr xwa xpl xfo xsf xbf xF xG xP xQ (sbF xmm r row f 26) xsl xkd xhs xht xsg xdv)) 0 0 sz M1 3 [(0, .ref m), (1, .int (nI r)), (2, .int (nI row)), (3, .int (fI f)), (4, .int (nI k))] [] := by
    intro e
    induction e with
    | zero =>
      intro k M1 hk H1 hz1
      have hk : k = 26 := by omega
      subst hk
      refine z_iload C d_M_subtract_3 rfl ?_
      refine z_bipush (v := nI 26) C d_M_subtract_5 (by decide) ?_
      refine z_icmp_ge (tgt := 63) C d_M_subtract_7 (by decide) (fun _ => ?_) (fun c_7 => absurd (by decide) c_7)
      exact z_vret C ⟨rfl, rfl, hz1, H1⟩ d_M_subtract_63
    | succ e ih =>
      intro k M1 hk H1 hz1
      refine z_iload C d_M_subtract_3 rfl ?_
      refine z_bipush (v := nI 26) C d_M_subtract_5 (by decide) ?_
      refine z_icmp_ge (tgt := 63) C d_M_subtract_7 (by decide) (fun c_7 => absurd c_7 (fun q => absurd ((nI_leI (a := 26) (b := k) (by omega) (by omega)).mp q) (by omega))) (fun _ => ?_)
      refine z_aload_n C d_M_subtract_10 rfl rfl ?_
      refine z_get C in_M H1.1 rfl 15 (by decide) fl_M_35 rfl rfl d_M_subtract_11 ?_
      refine z_iload_n C d_M_subtract_14 rfl rfl ?_
      refine z_bipush (v := nI 26) C d_M_subtract_15 (by decide) ?_
      refine z_imul C d_M_subtract_17 ?_
      refine z_top (y := nI (r * 26)) (pk_mul _ _) ?_
      refine z_iload C d_M_subtract_18 rfl ?_
      refine z_iadd C d_M_subtract_20 ?_
      refine z_top (y := nI ((r * 26) + k)) (nI_add _ _) ?_
      refine z_aload_n C d_M_subtract_21 rfl rfl ?_
      refine z_get C in_M H1.1 rfl 15 (by decide) fl_M_35 rfl rfl d_M_subtract_22 ?_
      refine z_iload_n C d_M_subtract_25 rfl rfl ?_
      refine z_bipush (v := nI 26) C d_M_subtract_26 (by decide) ?_
      refine z_imul C d_M_subtract_28 ?_
      refine z_top (y := nI (r * 26)) (pk_mul _ _) ?_
      refine z_iload C d_M_subtract_29 rfl ?_
      refine z_iadd C d_M_subtract_31 ?_
      refine z_top (y := nI ((r * 26) + k)) (nI_add _ _) ?_
      refine z_iald C H1.2.2.2.2.2.2.2.2.1 0 rfl ((r * 26) + k) (rfl) (by omega) (by omega) d_M_subtract_32 ?_
      refine z_top (y := fI ((sbF xmm r row f k) ((r * 26) + k))) rfl ?_
      refine z_sipush (v := nI 10007) C d_M_subtract_33 (by decide) ?_
      refine z_iload_n C d_M_subtract_36 rfl rfl ?_
      refine z_isub C d_M_subtract_37 ?_
      refine z_aload_n C d_M_subtract_38 rfl rfl ?_
      refine z_get C in_M H1.1 rfl 15 (by decide) fl_M_35 rfl rfl d_M_subtract_39 ?_
      refine z_iload_n C d_M_subtract_42 rfl rfl ?_
      refine z_bipush (v := nI 26) C d_M_subtract_43 (by decide) ?_
      refine z_imul C d_M_subtract_45 ?_
      refine z_top (y := nI (row * 26)) (pk_mul _ _) ?_
      refine z_iload C d_M_subtract_46 rfl ?_
      refine z_iadd C d_M_subtract_48 ?_
      refine z_top (y := nI ((row * 26) + k)) (nI_add _ _) ?_
      refine z_iald C H1.2.2.2.2.2.2.2.2.1 0 rfl ((row * 26) + k) (rfl) (by omega) (by omega) d_M_subtract_49 ?_
      refine z_top (y := fI ((sbF xmm r row f k) ((row * 26) + k))) rfl ?_
      refine z_imul C d_M_subtract_50 ?_
      refine z_iadd C d_M_subtract_51 ?_
      refine z_sipush (v := nI 10007) C d_M_subtract_52 (by decide) ?_
      refine z_irem C d_M_subtract_55 (by decide) ?_
      refine z_top (y := fI (((sbF xmm r row f k) ((r * 26) + k)) - f * ((sbF xmm r row f k) ((row * 26) + k)))) (fI_msub _ _ _) ?_
      refine z_iast C H1.2.2.2.2.2.2.2.2.1 0 rfl ((r * 26) + k) (rfl) (by omega) (by omega) d_M_subtract_56 ?_
      refine z_world (M' := zU M1 (m + 8) (.inl (E.2.1 0, 962, .inl (fun z_ => fI ((updF (sbF xmm r row f k) ((r * 26) + k) (((sbF xmm r row f k) ((r * 26) + k)) - f * ((sbF xmm r row f k) ((row * 26) + k)))) z_))))) (congrArg (fun e => zU M1 (m + 8) (.inl (E.2.1 0, 962, .inl e))) fI_upd) ?_
      refine z_iinc (v := nI (k + 1)) (L' := [(0, .ref m), (1, .int (nI r)), (2, .int (nI row)), (3, .int (fI f)), (4, .int (nI (k + 1)))]) C d_M_subtract_57 rfl (nI_add _ 1) (by decide) rfl ?_
      refine z_goto (tgt := 3) C d_M_subtract_60 (by decide) ?_
      refine ih (k + 1) _ (by omega) ?_ (zoutR_tr hz1 (zo_u (by omega) (by omega)))
      rw [← sbF_s hne (show k < 26 by omega)]
      exact (mw_a8 H1 (updF (sbF xmm r row f k) ((r * 26) + k) (((sbF xmm r row f k) ((r * 26) + k)) - f * ((sbF xmm r row f k) ((row * 26) + k)))))
  show Z X E 5 _ 0 0 sz M 0 [(0, .ref m), (1, .int (nI r)), (2, .int (nI row)), (3, .int (fI f))] []
  refine z_iconst (v := nI 0) C d_M_subtract_0 (by decide) ?_
  refine z_istore (L' := [(0, .ref m), (1, .int (nI r)), (2, .int (nI row)), (3, .int (fI f)), (4, .int (nI 0))]) C d_M_subtract_1 (by decide) rfl ?_
  exact loop 26 0 M (by omega) (by rw [sbF_0]; exact H) zoutR_rf
def scF (F : Nat → FF) (row : Nat) (f : FF) (k : Nat) : Nat → FF := fun j => if row * 26 ≤ j ∧ j < row * 26 + k then F j * f else F j
theorem scF_0 (F : Nat → FF) (row : Nat) (f : FF) : scF F row f 0 = F := by
  funext j
  unfold scF
  rw [if_neg (by omega)]
theorem scF_s {F : Nat → FF} {row k : Nat} {f : FF} : updF (scF F row f k) (row * 26 + k) (scF F row f k (row * 26 + k) * f) = scF F row f (k + 1) := by
  funext j
  unfold updF scF
  by_cases h : j = row * 26 + k
  · rw [if_pos h, if_neg (by omega), if_pos (by omega), h]
  · rw [if_neg h]
    by_cases h2 : row * 26 ≤ j ∧ j < row * 26 + k
    · rw [if_pos h2, if_pos (show row * 26 ≤ j ∧ j < row * 26 + (k + 1) by omega)]
    · rw [if_neg h2, if_neg (show ¬ (row * 26 ≤ j ∧ j < row * 26 + (k + 1)) by omega)]
def elF (F : Nat → FF) (row j R : Nat) : Nat → FF := fun i => if i / 26 < R ∧ i / 26 ≠ row then F i - F (i / 26 * 26 + j) * F (row * 26 + i % 26) else F i
theorem elF_0 (F : Nat → FF) (row j : Nat) : elF F row j 0 = F := by
  funext i
  unfold elF
  rw [if_neg (by omega)]
theorem elF_own {F : Nat → FF} {row j r : Nat} : elF F row j r (r * 26 + j) = F (r * 26 + j) ∨ 26 ≤ j := by
  rcases Nat.lt_or_ge j 26 with h | h
  · left
    unfold elF
    rw [if_neg (by omega)]
  · exact Or.inr h
theorem elF_row {F : Nat → FF} {row j : Nat} : elF F row j (row + 1) = elF F row j row := by
  funext i
  unfold elF
  by_cases h : i / 26 < row ∧ i / 26 ≠ row
  · rw [if_pos h, if_pos (by omega)]
  · rw [if_neg h, if_neg (by omega)]
theorem elF_z {F : Nat → FF} {row j r : Nat} (hj : j < 26) (hz : elF F row j r (r * 26 + j) = 0) : elF F row j (r + 1) = elF F row j r := by
  have hz' : F (r * 26 + j) = 0 := by
    rcases elF_own (F := F) (row := row) (j := j) (r := r) with h | h
    · rw [← h]; exact hz
    · omega
  funext i
  unfold elF
  by_cases h : i / 26 < r ∧ i / 26 ≠ row
  · rw [if_pos h, if_pos (by omega)]
  · rw [if_neg h]
    by_cases h2 : i / 26 = r ∧ r ≠ row
    · rw [if_pos (by omega), h2.1, hz']; grind
    · rw [if_neg (by omega)]
theorem elF_s {F : Nat → FF} {row j r : Nat} (hj : j < 26) (hne : r ≠ row) : sbF (elF F row j r) r row (elF F row j r (r * 26 + j)) 26 = elF F row j (r + 1) := by
  have h1 : elF F row j r (r * 26 + j) = F (r * 26 + j) := by
    rcases elF_own (F := F) (row := row) (j := j) (r := r) with h | h
    · exact h
    · omega
  rw [h1]
  funext i
  unfold sbF
  by_cases h : r * 26 ≤ i ∧ i < r * 26 + 26
  · rw [if_pos h]
    unfold elF
    rw [if_neg (by omega), if_neg (by omega), if_pos (by omega), show i / 26 = r by omega, show i - r * 26 + row * 26 = row * 26 + i % 26 by omega]
  · rw [if_neg h]
    unfold elF
    by_cases h2 : i / 26 < r ∧ i / 26 ≠ row
    · rw [if_pos h2, if_pos (by omega)]
    · rw [if_neg h2, if_neg (by omega)]
def mOf (F : Nat → FF) (r k : Nat) : FF := F (r * 26 + k)
theorem el_is {F : Nat → FF} {rows row j : Nat} (hr : row < rows) (hj : j < 26) : isEl (mOf F) (mOf (elF (scF F row (ff_inv (F (row * 26 + j))) 26) row j rows)) rows row j := by
  refine ⟨fun k hk => ?_, fun r h1 h2 k hk => ?_⟩
  · unfold mOf elF
    rw [if_neg (by omega)]
    unfold scF
    rw [if_pos (by omega)]
  · unfold mOf elF
    rw [if_pos (by omega), show (r * 26 + k) / 26 = r by omega, show (r * 26 + k) % 26 = k by omega]
    unfold scF
    rw [if_neg (by omega), if_neg (by omega), if_pos (by omega)]
set_option maxHeartbeats 4000000 in
/-- eliminate -/
theorem m_eliminate (E : zE) (l : Launch) (sz : Nat) (M : zM) {m : Nat} {xln : Nat → Nat} {xlen : Nat} {xlab : Nat} {xbad : Int32} {xlev : Nat} {xtr : Int32} {xwa : Nat} {xpl : Nat} {xfo : Nat} {xsf : Nat → Nat} {xbf : Nat → Nat} {xF : Nat → FF} {xG : Nat → FF} {xP : Nat → FF} {xQ : Nat → FF} {xmm : Nat → FF} {xsl : Nat → Nat} {xkd : Nat → Nat} {xhs : Nat → Nat} {xht : Nat → Nat} {xsg : Nat → Nat} {xdv : Nat → Nat} (H : mw E M m xln xlen xlab xbad xlev xtr xwa xpl xfo xsf xbf xF xG xP xQ xmm xsl xkd xhs xht xsg xdv) (row j rows : Nat) (hrow : row < 37) (hj : j < 26) (hrows : rows ≤ 37) : zMet E l y_M_eliminate c_M_eliminate 6 none { frames := 1, cells := 0, slots := 0, locals := 24 } 0 0 [.ref m, .int (nI row), .int (nI j), .int (nI rows)] sz M (fun v s M' => none = v ∧ sz = s ∧ zoutR M M' m (m + 15) ∧ mw E M' m xln xlen xlab xbad xlev xtr xwa xpl xfo xsf xbf xF xG xP xQ (elF (scF xmm row (ff_inv (xmm (row * 26 + j))) 26) row j rows) xsl xkd xhs xht xsg xdv) := by
  refine zMet.ofZ (by decide) (Nat.le_of_ble_eq_true rfl) ?_
  intro X hl hini C
  have loop2 : ∀ (e r : Nat) (M1 : zM), r + e = rows → mw E M1 m xln xlen xlab xbad xlev xtr xwa xpl xfo xsf xbf xF xG xP xQ (elF (scF xmm row (ff_inv (xmm (row * 26 + j))) 26) row j r) xsl xkd xhs xht xsg xdv → zoutR M M1 m (m + 15) → Z X E 6 (zQ X E 0 0 (fun v s M' => none = v ∧ sz = s ∧ zoutR M M' m (m + 15) ∧ mw E M' m xln xlen xlab xbad xlev xtr xwa xpl xfo xsf xbf xF xG xP xQ (elF (scF xmm row (ff_inv (xmm (row * 26 + j))) 26) row j rows) xsl xkd xhs xht xsg xdv)) 0 0 sz M1 67 [(0, .ref m), (1, .int (nI row)), (2, .int (nI j)), (3, .int (nI rows)), (4, .int (fI (ff_inv (xmm (row * 26 + j))))), (5, .int (nI r))] [] := by
    intro e
    induction e with
    | zero =>
      intro r M1 hr H1 hz1
      have hr : rows = r := by omega
      subst hr
      refine z_iload C d_M_eliminate_67 rfl ?_
      refine z_iload_n C d_M_eliminate_69 rfl rfl ?_
      refine z_icmp_ge (tgt := 119) C d_M_eliminate_70 (by decide) (fun _ => ?_) (fun c_70 => absurd (Int32.le_refl _) c_70)
      exact z_vret C ⟨rfl, rfl, hz1, H1⟩ d_M_eliminate_119
    | succ e ih =>
      intro r M1 hr H1 hz1
      refine z_iload C d_M_eliminate_67 rfl ?_
      refine z_iload_n C d_M_eliminate_69 rfl rfl ?_
      refine z_icmp_ge (tgt := 119) C d_M_eliminate_70 (by decide) (fun c_70 => absurd c_70 (fun q => absurd ((nI_leI (a := rows) (b := r) (by omega) (by omega)).mp q) (by omega))) (fun _ => ?_)
      refine z_iload C d_M_eliminate_73 rfl ?_
      refine z_iload_n C d_M_eliminate_75 rfl rfl ?_
      refine z_icmp_eq (tgt := 113) C d_M_eliminate_76 (by decide) (fun c_76 => ?_) (fun c_76 => ?_)
      · have c_76 : r = row := (nI_eq (a := r) (b := row) (by omega) (by omega)).mp c_76
        refine z_iinc (v := nI (r + 1)) (L' := [(0, .ref m), (1, .int (nI row)), (2, .int (nI j)), (3, .int (nI rows)), (4, .int (fI (ff_inv (xmm (row * 26 + j))))), (5, .int (nI (r + 1)))]) C d_M_eliminate_113 rfl (nI_add _ 1) (by decide) rfl ?_
        refine z_goto (tgt := 67) C d_M_eliminate_116 (by decide) ?_
        refine ih (r + 1) _ (by omega) ?_ hz1
        first
          | (have c_76 : r = row := c_76; subst c_76; rw [elF_row]; exact H1)
          | (rw [elF_z hj c_91]; exact H1)
          | (rw [← elF_s hj c_76]; exact H1)
      · have c_76 : ¬ r = row := fun q => c_76 (congrArg nI q)
        refine z_aload_n C d_M_eliminate_79 rfl rfl ?_
        refine z_get C in_M H1.1 rfl 15 (by decide) fl_M_35 rfl rfl d_M_eliminate_80 ?_
        refine z_iload C d_M_eliminate_83 rfl ?_
        refine z_bipush (v := nI 26) C d_M_eliminate_85 (by decide) ?_
        refine z_imul C d_M_eliminate_87 ?_
        refine z_top (y := nI (r * 26)) (pk_mul _ _) ?_
        refine z_iload_n C d_M_eliminate_88 rfl rfl ?_
        refine z_iadd C d_M_eliminate_89 ?_
        refine z_top (y := nI ((r * 26) + j)) (nI_add _ _) ?_
        refine z_iald C H1.2.2.2.2.2.2.2.2.1 0 rfl ((r * 26) + j) (rfl) (by omega) (by omega) d_M_eliminate_90 ?_
        refine z_top (y := fI ((elF (scF xmm row (ff_inv (xmm (row * 26 + j))) 26) row j r) ((r * 26) + j))) rfl ?_
        refine z_if_eq (tgt := 113) C d_M_eliminate_91 (by decide) (fun c_91 => ?_) (fun c_91 => ?_)
        · have c_91 : ((elF (scF xmm row (ff_inv (xmm (row * 26 + j))) 26) row j r) ((r * 26) + j)) = 0 := fI_eq0.mp c_91
          refine z_iinc (v := nI (r + 1)) (L' := [(0, .ref m), (1, .int (nI row)), (2, .int (nI j)), (3, .int (nI rows)), (4, .int (fI (ff_inv (xmm (row * 26 + j))))), (5, .int (nI (r + 1)))]) C d_M_eliminate_113 rfl (nI_add _ 1) (by decide) rfl ?_
          refine z_goto (tgt := 67) C d_M_eliminate_116 (by decide) ?_
          refine ih (r + 1) _ (by omega) ?_ hz1
          first
            | (have c_76 : r = row := c_76; subst c_76; rw [elF_row]; exact H1)
            | (rw [elF_z hj c_91]; exact H1)
            | (rw [← elF_s hj c_76]; exact H1)
        · have c_91 : ¬ ((elF (scF xmm row (ff_inv (xmm (row * 26 + j))) 26) row j r) ((r * 26) + j)) = 0 := fun q => c_91 (fI_eq0.mpr q)
          refine z_aload_n C d_M_eliminate_94 rfl rfl ?_
          refine z_iload C d_M_eliminate_95 rfl ?_
          refine z_iload_n C d_M_eliminate_97 rfl rfl ?_
          refine z_aload_n C d_M_eliminate_98 rfl rfl ?_
          refine z_get C in_M H1.1 rfl 15 (by decide) fl_M_35 rfl rfl d_M_eliminate_99 ?_
          refine z_iload C d_M_eliminate_102 rfl ?_
          refine z_bipush (v := nI 26) C d_M_eliminate_104 (by decide) ?_
          refine z_imul C d_M_eliminate_106 ?_
          refine z_top (y := nI (r * 26)) (pk_mul _ _) ?_
          refine z_iload_n C d_M_eliminate_107 rfl rfl ?_
          refine z_iadd C d_M_eliminate_108 ?_
          refine z_top (y := nI ((r * 26) + j)) (nI_add _ _) ?_
          refine z_iald C H1.2.2.2.2.2.2.2.2.1 0 rfl ((r * 26) + j) (rfl) (by omega) (by omega) d_M_eliminate_109 ?_
          refine z_top (y := fI ((elF (scF xmm row (ff_inv (xmm (row * 26 + j))) 26) row j r) ((r * 26) + j))) rfl ?_
          refine z_callV (rest := []) (n := 3) (As := [.int (nI r), .int (nI row), .int (fI ((elF (scF xmm row (ff_inv (xmm (row * 26 + j))) 26) row j r) ((r * 26) + j)))]) C (m_subtract E X.2.1 sz _ H1 r row (((elF (scF xmm row (ff_inv (xmm (row * 26 + j))) 26) row j r) ((r * 26) + j))) (by omega) (by omega) c_76) ⟨z_cb C k_M_subtract ml_M_101 ii_M rfl rfl (by decide +kernel) ⟨by decide, by decide⟩, C.2.2.2.2.1 _ im_M_subtract, C.2.2.2.2.1 _ se_M_subtract⟩ H1.1 rfl rfl rfl (Nat.le_of_ble_eq_true rfl) d_M_eliminate_110 ⟨by decide, by decide⟩ ?_
          intro v_110 s_110 M_110 hp_110
          obtain ⟨rfl, rfl, ho_110, H_110⟩ := hp_110
          have hz_110 : zoutR M M_110 m (m + 15) := zoutR_tr hz1 ho_110
          show Z _ _ _ _ _ _ _ _ 113 _ []
          refine z_iinc (v := nI (r + 1)) (L' := [(0, .ref m), (1, .int (nI row)), (2, .int (nI j)), (3, .int (nI rows)), (4, .int (fI (ff_inv (xmm (row * 26 + j))))), (5, .int (nI (r + 1)))]) C d_M_eliminate_113 rfl (nI_add _ 1) (by decide) rfl ?_
          refine z_goto (tgt := 67) C d_M_eliminate_116 (by decide) ?_
          refine ih (r + 1) _ (by omega) ?_ hz_110
          first
            | (have c_76 : r = row := c_76; subst c_76; rw [elF_row]; exact H_110)
            | (rw [elF_z hj c_91]; exact H_110)
            | (rw [← elF_s hj c_76]; exact H_110)
  have loop1 : ∀ (e k : Nat) (M1 : zM), k + e = 26 → mw E M1 m xln xlen xlab xbad xlev xtr xwa xpl xfo xsf xbf xF xG xP xQ (scF xmm row (ff_inv (xmm (row * 26 + j))) k) xsl xkd xhs xht xsg xdv → zoutR M M1 m (m + 15) → Z X E 6 (zQ X E 0 0 (fun v s M' => none = v ∧ sz = s ∧ zoutR M M' m (m + 15) ∧ mw E M' m xln xlen xlab xbad xlev xtr xwa xpl xfo xsf xbf xF xG xP xQ (elF (scF xmm row (ff_inv (xmm (row * 26 + j))) 26) row j rows) xsl xkd xhs xht xsg xdv)) 0 0 sz M1 20 [(0, .ref m), (1, .int (nI row)), (2, .int (nI j)), (3, .int (nI rows)), (4, .int (fI (ff_inv (xmm (row * 26 + j))))), (5, .int (nI k))] [] := by
    intro e
    induction e with
    | zero =>
      intro k M1 hk H1 hz1
      have hk : k = 26 := by omega
      subst hk
      refine z_iload C d_M_eliminate_20 rfl ?_
      refine z_bipush (v := nI 26) C d_M_eliminate_22 (by decide) ?_
      refine z_icmp_ge (tgt := 64) C d_M_eliminate_24 (by decide) (fun _ => ?_) (fun c_24 => absurd (by decide) c_24)
      refine z_iconst (v := nI 0) C d_M_eliminate_64 (by decide) ?_
      refine z_istore (L' := [(0, .ref m), (1, .int (nI row)), (2, .int (nI j)), (3, .int (nI rows)), (4, .int (fI (ff_inv (xmm (row * 26 + j))))), (5, .int (nI 0))]) C d_M_eliminate_65 (by decide) rfl ?_
      exact loop2 rows 0 M1 (by omega) (by rw [elF_0]; exact H1) hz1
    | succ e ih =>
      intro k M1 hk H1 hz1
      refine z_iload C d_M_eliminate_20 rfl ?_
      refine z_bipush (v := nI 26) C d_M_eliminate_22 (by decide) ?_
      refine z_icmp_ge (tgt := 64) C d_M_eliminate_24 (by decide) (fun c_24 => absurd c_24 (fun q => absurd ((nI_leI (a := 26) (b := k) (by omega) (by omega)).mp q) (by omega))) (fun _ => ?_)
      refine z_aload_n C d_M_eliminate_27 rfl rfl ?_
      refine z_get C in_M H1.1 rfl 15 (by decide) fl_M_35 rfl rfl d_M_eliminate_28 ?_
      refine z_iload_n C d_M_eliminate_31 rfl rfl ?_
      refine z_bipush (v := nI 26) C d_M_eliminate_32 (by decide) ?_
      refine z_imul C d_M_eliminate_34 ?_
      refine z_top (y := nI (row * 26)) (pk_mul _ _) ?_
      refine z_iload C d_M_eliminate_35 rfl ?_
      refine z_iadd C d_M_eliminate_37 ?_
      refine z_top (y := nI ((row * 26) + k)) (nI_add _ _) ?_
      refine z_aload_n C d_M_eliminate_38 rfl rfl ?_
      refine z_get C in_M H1.1 rfl 15 (by decide) fl_M_35 rfl rfl d_M_eliminate_39 ?_
      refine z_iload_n C d_M_eliminate_42 rfl rfl ?_
      refine z_bipush (v := nI 26) C d_M_eliminate_43 (by decide) ?_
      refine z_imul C d_M_eliminate_45 ?_
      refine z_top (y := nI (row * 26)) (pk_mul _ _) ?_
      refine z_iload C d_M_eliminate_46 rfl ?_
      refine z_iadd C d_M_eliminate_48 ?_
      refine z_top (y := nI ((row * 26) + k)) (nI_add _ _) ?_
      refine z_iald C H1.2.2.2.2.2.2.2.2.1 0 rfl ((row * 26) + k) (rfl) (by omega) (by omega) d_M_eliminate_49 ?_
      refine z_top (y := fI ((scF xmm row (ff_inv (xmm (row * 26 + j))) k) ((row * 26) + k))) rfl ?_
      refine z_iload C d_M_eliminate_50 rfl ?_
      refine z_imul C d_M_eliminate_52 ?_
      refine z_sipush (v := nI 10007) C d_M_eliminate_53 (by decide) ?_
      refine z_irem C d_M_eliminate_56 (by decide) ?_
      refine z_top (y := fI (((scF xmm row (ff_inv (xmm (row * 26 + j))) k) ((row * 26) + k)) * (ff_inv (xmm (row * 26 + j))))) (fI_mul _ _) ?_
      refine z_iast C H1.2.2.2.2.2.2.2.2.1 0 rfl ((row * 26) + k) (rfl) (by omega) (by omega) d_M_eliminate_57 ?_
      refine z_world (M' := zU M1 (m + 8) (.inl (E.2.1 0, 962, .inl (fun z_ => fI ((updF (scF xmm row (ff_inv (xmm (row * 26 + j))) k) ((row * 26) + k) (((scF xmm row (ff_inv (xmm (row * 26 + j))) k) ((row * 26) + k)) * (ff_inv (xmm (row * 26 + j))))) z_))))) (congrArg (fun e => zU M1 (m + 8) (.inl (E.2.1 0, 962, .inl e))) fI_upd) ?_
      refine z_iinc (v := nI (k + 1)) (L' := [(0, .ref m), (1, .int (nI row)), (2, .int (nI j)), (3, .int (nI rows)), (4, .int (fI (ff_inv (xmm (row * 26 + j))))), (5, .int (nI (k + 1)))]) C d_M_eliminate_58 rfl (nI_add _ 1) (by decide) rfl ?_
      refine z_goto (tgt := 20) C d_M_eliminate_61 (by decide) ?_
      refine ih (k + 1) _ (by omega) ?_ (zoutR_tr hz1 (zo_u (by omega) (by omega)))
      rw [← scF_s]
      exact (mw_a8 H1 (updF (scF xmm row (ff_inv (xmm (row * 26 + j))) k) ((row * 26) + k) (((scF xmm row (ff_inv (xmm (row * 26 + j))) k) ((row * 26) + k)) * (ff_inv (xmm (row * 26 + j))))))
  show Z X E 6 _ 0 0 sz M 0 [(0, .ref m), (1, .int (nI row)), (2, .int (nI j)), (3, .int (nI rows))] []
  refine z_aload_n C d_M_eliminate_0 rfl rfl ?_
  refine z_aload_n C d_M_eliminate_1 rfl rfl ?_
  refine z_get C in_M H.1 rfl 15 (by decide) fl_M_35 rfl rfl d_M_eliminate_2 ?_
  refine z_iload_n C d_M_eliminate_5 rfl rfl ?_
  refine z_bipush (v := nI 26) C d_M_eliminate_6 (by decide) ?_
  refine z_imul C d_M_eliminate_8 ?_
  refine z_top (y := nI (row * 26)) (pk_mul _ _) ?_
  refine z_iload_n C d_M_eliminate_9 rfl rfl ?_
  refine z_iadd C d_M_eliminate_10 ?_
  refine z_top (y := nI ((row * 26) + j)) (nI_add _ _) ?_
  refine z_iald C H.2.2.2.2.2.2.2.2.1 0 rfl ((row * 26) + j) (rfl) (by omega) (by omega) d_M_eliminate_11 ?_
  refine z_top (y := fI (xmm ((row * 26) + j))) rfl ?_
  refine z_callV (rest := []) (n := 1) (As := [.int (fI (xmm ((row * 26) + j)))]) C (m_inverse E X.2.1 sz _ H (xmm ((row * 26) + j))) ⟨z_cb C k_M_inverse ml_M_98 ii_M rfl rfl (by decide +kernel) ⟨by decide, by decide⟩, C.2.2.2.2.1 _ im_M_inverse, C.2.2.2.2.1 _ se_M_inverse⟩ H.1 rfl rfl rfl (Nat.le_of_ble_eq_true rfl) d_M_eliminate_12 ⟨by decide, by decide⟩ ?_
  intro v_12 s_12 M_12 hp_12
  obtain ⟨rfl, rfl, rfl⟩ := hp_12
  show Z _ _ _ _ _ _ _ _ 15 _ [.int (fI (ff_inv (xmm (row * 26 + j))))]
  refine z_istore (L' := [(0, .ref m), (1, .int (nI row)), (2, .int (nI j)), (3, .int (nI rows)), (4, .int (fI (ff_inv (xmm (row * 26 + j)))))]) C d_M_eliminate_15 (by decide) rfl ?_
  refine z_iconst (v := nI 0) C d_M_eliminate_17 (by decide) ?_
  refine z_istore (L' := [(0, .ref m), (1, .int (nI row)), (2, .int (nI j)), (3, .int (nI rows)), (4, .int (fI (ff_inv (xmm (row * 26 + j))))), (5, .int (nI 0))]) C d_M_eliminate_18 (by decide) rfl ?_
  exact loop1 26 0 M (by omega) (by rw [scF_0]; exact H) zoutR_rf
