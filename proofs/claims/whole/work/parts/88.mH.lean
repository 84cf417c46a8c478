noncomputable def hst (P : PS) (K : Nat) (g : PS × PS) (k : Nat) : PS × PS := if k = K then (ps_C 0, ps_C 1) else (hom (K - 1 - k) (fun j => P (k + j)) g.1 g.2, ps_pow g.2 (K - 1 - k))
noncomputable def hsm (P : PS) (K : Nat) (g : PS × PS) (k : Nat) : PS × PS := if k = K then (ps_C 0, ps_C 1) else (ps_mul (hom (K - 1 - k) (fun j => P (k + j)) g.1 g.2) g.1, ps_pow g.2 (K - 1 - k + 1))
theorem hst_ok {P : PS} {K k : Nat} {g : PS × PS} (hP : isC P K) (hg : isform g.1 g.2) (hk : k ≤ K) : isform (hst P K g k).1 (hst P K g k).2 := by
  unfold hst
  by_cases q : k = K
  · rw [if_pos q]; exact isf_C 0
  · rw [if_neg q]
    obtain ⟨pp, pq, hc, m, hm, hm1⟩ := id hg
    have hF : (fun j => P (k + j)) (K - 1 - k) ≠ 0 := by
      show P (k + (K - 1 - k)) ≠ 0
      exact hP.2 _ (by omega)
    exact ⟨hom_pol pp pq _ _, pol_pow pq _, cop_pow (hom_pol pp pq _ _) pq (cop_sy (cop_hom (F := fun j => P (k + j)) (k := K - 1 - k) hg hF)) _, _, (pow_mono hm hm1 _).1, (pow_mono hm hm1 _).2⟩
theorem hst_mul {P : PS} {K k b : Nat} {g : PS × PS} (hP : isC P K) (hg : isform g.1 g.2) (h1 : ∀ i, b < i → g.1 i = 0) (h2 : ∀ i, b < i → g.2 i = 0) (hb : (K - 1) * b ≤ 12) (hk0 : 1 ≤ k) (hk : k ≤ K) : isform (hsm P K g k).1 (hsm P K g k).2 ∧ oMul (hst P K g k) g = .inr (hsm P K g k) := by
  unfold hsm hst
  by_cases q : k = K
  · rw [if_pos q, if_pos q]; exact ⟨isf_C 0, hn_mul0 hg⟩
  · rw [if_neg q, if_neg q]
    have hF : (fun j => P (k + j)) (K - 1 - k) ≠ 0 := by
      show P (k + (K - 1 - k)) ≠ 0
      exact hP.2 _ (by omega)
    have hb2 : (K - 1 - k + 1) * b ≤ 12 := Nat.le_trans (Nat.mul_le_mul_right b (by omega)) hb
    exact hn_mul (F := fun j => P (k + j)) (k := K - 1 - k) hg hF h1 h2 hb2
theorem hst_add {P : PS} {K i b : Nat} {g : PS × PS} (hP : isC P K) (hg : isform g.1 g.2) (h1 : ∀ i, b < i → g.1 i = 0) (h2 : ∀ i, b < i → g.2 i = 0) (hb : (K - 1) * b ≤ 12) (hi : i < K) : oAdd 1 (hsm P K g (i + 1)) (ps_C (P i), ps_C 1) = .inr (hst P K g i) := by
  unfold hsm hst
  rw [if_neg (show ¬ i = K by omega)]
  by_cases q : i + 1 = K
  · rw [if_pos q, show K - 1 - i = 0 by omega, hn_add0]
    rfl
  · rw [if_neg q]
    have e1 : K - 1 - i = (K - 1 - (i + 1)) + 1 := by omega
    have e2 : (fun j => P (i + 1 + j)) = ps_sh (fun j => P (i + j)) := by
      funext j
      show P (i + 1 + j) = P (i + (j + 1))
      rw [show i + 1 + j = i + (j + 1) by omega]
    rw [e2, e1]
    have hF : (fun j => P (i + j)) (K - 1 - (i + 1) + 1) ≠ 0 := by
      show P (i + (K - 1 - (i + 1) + 1)) ≠ 0
      exact hP.2 _ (by omega)
    have hb2 : (K - 1 - (i + 1) + 1) * b ≤ 12 := Nat.le_trans (Nat.mul_le_mul_right b (by omega)) hb
    exact (hn_add (F := fun j => P (i + j)) (k := K - 1 - (i + 1)) hg hF h1 h2 hb2 rfl).2
theorem hst_end {P : PS} {K : Nat} {g : PS × PS} : hst P K g 0 = putv P K g := by
  unfold hst putv
  by_cases q : K = 0
  · rw [if_pos q.symm, if_pos q]
  · rw [if_neg (fun e => q e.symm), if_neg q, Nat.sub_zero]
    congr 2
    funext j
    rw [Nat.zero_add]
theorem pg_j {A B : PS × PS} {a b : PS} (h : A = B) (h1 : a = A.1) (h2 : b = A.2) : a = B.1 ∧ b = B.2 := by rw [← h]; exact ⟨h1, h2⟩
set_option maxHeartbeats 4000000 in
/-- put -/
theorem m_put0 (E : zE) (l : Launch) (sz : Nat) (M : zM) {m : Nat} {xln : Nat → Nat} {xlen : Nat} {xlab : Nat} {xbad : Int32} {xlev : Nat} {xtr : Int32} {xwa : Nat} {xpl : Nat} {xfo : Nat} {xsf : Nat → Nat} {xbf : Nat → Nat} {xF : Nat → FF} {xG : Nat → FF} {xP : Nat → FF} {xQ : Nat → FF} {xmm : Nat → FF} {xsl : Nat → Nat} {xkd : Nat → Nat} {xhs : Nat → Nat} {xht : Nat → Nat} {xsg : Nat → Nat} {xdv : Nat → Nat} (H : mw E M m xln xlen xlab xbad xlev xtr xwa xpl xfo xsf xbf xF xG xP xQ xmm xsl xkd xhs xht xsg xdv) (f g t K b : Nat) (hf : f < 72) (hg : g < 72) (ht : 73 ≤ t ∧ t ≤ 74) (htr : xtr = 0) (okg : okR xF xG g) (hK : isC (pg xF f) K) (hb1 : ∀ i, b < i → pg xF g i = 0) (hb2 : ∀ i, b < i → pg xG g i = 0) (hb : (K - 1) * b ≤ 12) : zMet E l y_M_put c_M_put 6 none { frames := 5, cells := 0, slots := 0, locals := 127 } 0 0 [.ref m, .int (nI f), .int (nI 0), .int (nI g), .int (nI t)] sz M (oP E M sz m xln xlen xlab xbad xlev xtr xwa xpl xfo xsf xbf xF xG xP xQ xmm xsl xkd xhs xht xsg xdv (fun q => q ≠ t ∧ q ≠ 75) t (.inr (putv (pg xF f) K (pg xF g, pg xG g)))) := by
  have hK13 := isC_pg hK
  refine zMet.ofZ (by decide) (Nat.le_of_ble_eq_true rfl) ?_
  intro X hl hini C
  have loop : ∀ (k : Nat) (F1 G1 P1 Q1 mm1 : Nat → FF) (sl1 : Nat → Nat) (M1 : zM), k ≤ K → mw E M1 m xln xlen xlab xbad xlev 0 xwa xpl xfo xsf xbf F1 G1 P1 Q1 mm1 sl1 xkd xhs xht xsg xdv → zoutR M M1 m (m + 15) → (∀ q, q ≠ t ∧ q ≠ 75 → pg F1 q = pg xF q ∧ pg G1 q = pg xG q) → pg F1 t = (hst (pg xF f) K (pg xF g, pg xG g) k).1 → pg G1 t = (hst (pg xF f) K (pg xF g, pg xG g) k).2 → Z X E 6 (zQ X E 0 0 (oP E M sz m xln xlen xlab xbad xlev xtr xwa xpl xfo xsf xbf xF xG xP xQ xmm xsl xkd xhs xht xsg xdv (fun q => q ≠ t ∧ q ≠ 75) t (.inr (putv (pg xF f) K (pg xF g, pg xG g))))) 0 0 sz M1 15 [(0, .ref m), (1, .int (nI f)), (2, .int (nI 0)), (3, .int (nI g)), (4, .int (nI t)), (5, .int (tI k))] [] := by
    intro k
    induction k with
    | zero =>
      intro F1 G1 P1 Q1 mm1 sl1 M1 hk H1 hz1 hkp e1 e2
      refine z_iload C d_M_put_15 rfl ?_
      refine z_if_lt (tgt := 84) C d_M_put_17 (by decide) (fun _ => ?_) (fun c_17 => absurd (by decide) c_17)
      rw [hst_end] at e1 e2
      exact z_vret C ⟨rfl, rfl, hz1, 0, F1, G1, P1, Q1, mm1, sl1, H1, hkp, rfl, e1, e2⟩ d_M_put_84
    | succ k ih =>
      intro F1 G1 P1 Q1 mm1 sl1 M1 hk H1 hz1 hkp e1 e2
      rw [tI_s k]
      obtain ⟨m1, m2⟩ := hst_mul (k := k + 1) (g := (pg xF g, pg xG g)) hK okg hb1 hb2 hb (by omega) hk
      have a2 := hst_add (i := k) (g := (pg xF g, pg xG g)) hK okg hb1 hb2 hb (by omega)
      have kg := hkp g ⟨by omega, by omega⟩
      have kf := hkp f ⟨by omega, by omega⟩
      refine z_iload C d_M_put_15 rfl ?_
      refine z_if_lt (tgt := 84) C d_M_put_17 (by decide) (fun c_17 => absurd c_17 (fun q => absurd ((nI_ltI (a := k) (b := 0) (by omega) (by omega)).mp q) (by omega))) (fun _ => ?_)
      refine z_aload_n C d_M_put_20 rfl rfl ?_
      refine z_iload C d_M_put_21 rfl ?_
      refine z_iload_n C d_M_put_23 rfl rfl ?_
      refine z_iconst (v := nI 0) C d_M_put_24 (by decide) ?_
      refine z_iload C d_M_put_25 rfl ?_
      refine z_callV (rest := []) (n := 4) (As := [.int (nI t), .int (nI g), .int (nI 0), .int (nI t)]) C (m_timesM E X.2.1 sz _ H1 t g t (by omega) (by omega) (by omega) rfl (by unfold okR; rw [e1, e2]; exact hst_ok (g := (pg xF g, pg xG g)) hK okg hk) (by unfold okR; rw [kg.1, kg.2]; exact okg)) ⟨z_cb C k_M_times ml_M_140 ii_M rfl rfl (by decide +kernel) ⟨by decide, by decide⟩, C.2.2.2.2.1 _ im_M_times, C.2.2.2.2.1 _ se_M_times⟩ H1.1 rfl rfl rfl (Nat.le_of_ble_eq_true rfl) d_M_put_27 ⟨by decide, by decide⟩ ?_
      intro v_27 s_27 M_27 hp_27
      obtain ⟨rfl, rfl, ho_27, tr_27, F_27, G_27, P_27, Q_27, mm_27, sl_27, H_27, hR_27⟩ := hp_27
      have hz_27 : zoutR M M_27 m (m + 15) := zoutR_tr hz1 ho_27
      have hR2 : oR (fun q => q ≠ t) F1 G1 F_27 G_27 tr_27 t (oMul (pg F1 t, pg G1 t) (pg F1 g, pg G1 g)) := hR_27
      rw [e1, e2, kg.1, kg.2] at hR2
      have m3 : oMul ((hst (pg xF f) K (pg xF g, pg xG g) (k + 1)).1, (hst (pg xF f) K (pg xF g, pg xG g) (k + 1)).2) (pg xF g, pg xG g) = .inr (hsm (pg xF f) K (pg xF g, pg xG g) (k + 1)) := m2
      rw [m3] at hR2
      obtain ⟨hk27, rfl, f1, f2⟩ := hR2
      show Z _ _ _ _ _ _ _ _ 30 _ []
      refine z_aload_n C d_M_put_30 rfl rfl ?_
      refine z_bipush (v := nI 75) C d_M_put_31 (by decide) ?_
      refine z_iload_n C d_M_put_33 rfl rfl ?_
      refine z_if_eq (tgt := 52) C d_M_put_34 (by decide) (fun _ => ?_) (fun c_34 => absurd (rfl) c_34)
      refine z_aload_n C d_M_put_52 rfl rfl ?_
      refine z_get C in_M H_27.1 rfl 11 (by decide) fl_M_23 rfl rfl d_M_put_53 ?_
      refine z_iload_n C d_M_put_56 rfl rfl ?_
      refine z_bipush (v := nI 13) C d_M_put_57 (by decide) ?_
      refine z_imul C d_M_put_59 ?_
      refine z_top (y := nI (f * 13)) (pk_mul _ _) ?_
      refine z_iload C d_M_put_60 rfl ?_
      refine z_iadd C d_M_put_62 ?_
      refine z_top (y := nI ((f * 13) + k)) (nI_add _ _) ?_
      refine z_iald C H_27.2.2.2.2.1 0 rfl ((f * 13) + k) (rfl) (by omega) (by omega) d_M_put_63 ?_
      refine z_top (y := fI ((pg xF f) k)) (congrArg fI (by rw [← pg_at (F := F_27) (r := f) (by omega), (hk27 f (by omega)).1, kf.1])) ?_
      refine z_callV (rest := []) (n := 2) (As := [.int (nI 75), .int (fI ((pg xF f) k))]) C (m_constant E X.2.1 sz _ H_27 75 (by decide) ((pg xF f) k)) ⟨z_cb C k_M_constant ml_M_108 ii_M rfl rfl (by decide +kernel) ⟨by decide, by decide⟩, C.2.2.2.2.1 _ im_M_constant, C.2.2.2.2.1 _ se_M_constant⟩ H_27.1 rfl rfl rfl (Nat.le_of_ble_eq_true rfl) d_M_put_64 ⟨by decide, by decide⟩ ?_
      intro v_64 s_64 M_64 hp_64
      obtain ⟨rfl, rfl, ho_64, H_64⟩ := hp_64
      have hz_64 : zoutR M M_64 m (m + 15) := zoutR_tr hz_27 ho_64
      show Z _ _ _ _ _ _ _ _ 67 _ []
      refine z_aload_n C d_M_put_67 rfl rfl ?_
      refine z_iload C d_M_put_68 rfl ?_
      refine z_bipush (v := nI 75) C d_M_put_70 (by decide) ?_
      refine z_iconst (v := fI 1) C d_M_put_72 (by decide) ?_
      refine z_iload C d_M_put_73 rfl ?_
      refine z_callV (rest := []) (n := 4) (As := [.int (nI t), .int (nI 75), .int (fI 1), .int (nI t)]) C (m_add E X.2.1 sz _ H_64 t 75 1 t (by omega) (by decide) (by omega) rfl (by unfold okR; rw [pg_co, if_neg (by omega), pg_co, if_neg (by omega), f1, f2]; exact m1) (by unfold okR; rw [pg_co, if_pos rfl, pg_co, if_pos rfl]; exact isf_C _)) ⟨z_cb C k_M_add ml_M_144 ii_M rfl rfl (by decide +kernel) ⟨by decide, by decide⟩, C.2.2.2.2.1 _ im_M_add, C.2.2.2.2.1 _ se_M_add⟩ H_64.1 rfl rfl rfl (Nat.le_of_ble_eq_true rfl) d_M_put_75 ⟨by decide, by decide⟩ ?_
      intro v_75 s_75 M_75 hp_75
      obtain ⟨rfl, rfl, ho_75, tr_75, F_75, G_75, P_75, Q_75, mm_75, sl_75, H_75, hR_75⟩ := hp_75
      have hz_75 : zoutR M M_75 m (m + 15) := zoutR_tr hz_64 ho_75
      have hR3 : oR (fun q => q ≠ t) (coF F_27 75 ((pg xF f) k) 13) (coF G_27 75 1 13) F_75 G_75 tr_75 t (oAdd 1 (pg (coF F_27 75 ((pg xF f) k) 13) t, pg (coF G_27 75 1 13) t) (pg (coF F_27 75 ((pg xF f) k) 13) 75, pg (coF G_27 75 1 13) 75)) := hR_75
      rw [pg_co, if_neg (show ¬ t = 75 by omega), pg_co, if_neg (show ¬ t = 75 by omega), pg_co, if_pos rfl, pg_co, if_pos rfl, f1, f2] at hR3
      have a3 : oAdd 1 ((hsm (pg xF f) K (pg xF g, pg xG g) (k + 1)).1, (hsm (pg xF f) K (pg xF g, pg xG g) (k + 1)).2) (ps_C ((pg xF f) k), ps_C 1) = .inr (hst (pg xF f) K (pg xF g, pg xG g) k) := a2
      rw [a3] at hR3
      obtain ⟨hk75, rfl, g1, g2⟩ := hR3
      show Z _ _ _ _ _ _ _ _ 78 _ []
      refine z_iinc (v := tI k) (L' := [(0, .ref m), (1, .int (nI f)), (2, .int (nI 0)), (3, .int (nI g)), (4, .int (nI t)), (5, .int (tI k))]) C d_M_put_78 rfl (nI_dec k) (by decide) rfl ?_
      refine z_goto (tgt := 15) C d_M_put_81 (by decide) ?_
      refine ih F_75 G_75 P_75 Q_75 mm_75 sl_75 M_75 (by omega) H_75 hz_75 (fun q hq => ?_) g1 g2
      rw [(hk75 q hq.1).1, (hk75 q hq.1).2, pg_co, if_neg hq.2, pg_co, if_neg hq.2, (hk27 q hq.1).1, (hk27 q hq.1).2]
      exact hkp q hq
  show Z X E 6 _ 0 0 sz M 0 [(0, .ref m), (1, .int (nI f)), (2, .int (nI 0)), (3, .int (nI g)), (4, .int (nI t))] []
  refine z_aload_n C d_M_put_0 rfl rfl ?_
  refine z_iload C d_M_put_1 rfl ?_
  refine z_iconst (v := fI 0) C d_M_put_3 (by decide) ?_
  refine z_callV (rest := []) (n := 2) (As := [.int (nI t), .int (fI 0)]) C (m_constant E X.2.1 sz _ H t (by omega) 0) ⟨z_cb C k_M_constant ml_M_108 ii_M rfl rfl (by decide +kernel) ⟨by decide, by decide⟩, C.2.2.2.2.1 _ im_M_constant, C.2.2.2.2.1 _ se_M_constant⟩ H.1 rfl rfl rfl (Nat.le_of_ble_eq_true rfl) d_M_put_4 ⟨by decide, by decide⟩ ?_
  intro v_4 s_4 M_4 hp_4
  obtain ⟨rfl, rfl, ho_4, H_4⟩ := hp_4
  have hz_4 : zoutR M M_4 m (m + 15) := zoutR_tr zoutR_rf ho_4
  show Z _ _ _ _ _ _ _ _ 7 _ []
  refine z_aload_n C d_M_put_7 rfl rfl ?_
  refine z_iload_n C d_M_put_8 rfl rfl ?_
  refine z_iload_n C d_M_put_9 rfl rfl ?_
  refine z_callV (rest := []) (n := 2) (As := [.int (nI f), .int (nI 0)]) C (m_top E X.2.1 sz _ H_4 f 0 (by omega) (by decide)) ⟨z_cb C k_M_top ml_M_133 ii_M rfl rfl (by decide +kernel) ⟨by decide, by decide⟩, C.2.2.2.2.1 _ im_M_top, C.2.2.2.2.1 _ se_M_top⟩ H_4.1 rfl rfl rfl (Nat.le_of_ble_eq_true rfl) d_M_put_10 ⟨by decide, by decide⟩ ?_
  intro v_10 s_10 M_10 hp_10
  obtain ⟨k1, rfl, rfl, rfl, hk1⟩ := hp_10
  have hk2 : isC (pg (coF xF t 0 13) f) k1 := hk1
  rw [pg_co, if_neg (by omega)] at hk2
  have ek : K = k1 := isC_un hK hk2
  subst ek
  show Z _ _ _ _ _ _ _ _ 13 _ [.int (tI K)]
  refine z_istore (L' := [(0, .ref m), (1, .int (nI f)), (2, .int (nI 0)), (3, .int (nI g)), (4, .int (nI t)), (5, .int (tI K))]) C d_M_put_13 (by decide) rfl ?_
  refine loop K _ _ xP xQ xmm xsl _ (Nat.le_refl _) (htr ▸ H_4) hz_4 (fun q hq => ⟨?_, ?_⟩) ?_ ?_
  · rw [pg_co, if_neg hq.1]
  · rw [pg_co, if_neg hq.1]
  · rw [pg_co, if_pos rfl]; unfold hst; rw [if_pos rfl]
  · rw [pg_co, if_pos rfl]; unfold hst; rw [if_pos rfl]
set_option maxHeartbeats 4000000 in
/-- put -/
theorem m_put1 (E : zE) (l : Launch) (sz : Nat) (M : zM) {m : Nat} {xln : Nat → Nat} {xlen : Nat} {xlab : Nat} {xbad : Int32} {xlev : Nat} {xtr : Int32} {xwa : Nat} {xpl : Nat} {xfo : Nat} {xsf : Nat → Nat} {xbf : Nat → Nat} {xF : Nat → FF} {xG : Nat → FF} {xP : Nat → FF} {xQ : Nat → FF} {xmm : Nat → FF} {xsl : Nat → Nat} {xkd : Nat → Nat} {xhs : Nat → Nat} {xht : Nat → Nat} {xsg : Nat → Nat} {xdv : Nat → Nat} (H : mw E M m xln xlen xlab xbad xlev xtr xwa xpl xfo xsf xbf xF xG xP xQ xmm xsl xkd xhs xht xsg xdv) (f g t K b : Nat) (hf : f < 72) (hg : g < 72) (ht : 73 ≤ t ∧ t ≤ 74) (htr : xtr = 0) (okg : okR xF xG g) (hK : isC (pg xG f) K) (hb1 : ∀ i, b < i → pg xF g i = 0) (hb2 : ∀ i, b < i → pg xG g i = 0) (hb : (K - 1) * b ≤ 12) : zMet E l y_M_put c_M_put 6 none { frames := 5, cells := 0, slots := 0, locals := 127 } 0 0 [.ref m, .int (nI f), .int (nI 1), .int (nI g), .int (nI t)] sz M (oP E M sz m xln xlen xlab xbad xlev xtr xwa xpl xfo xsf xbf xF xG xP xQ xmm xsl xkd xhs xht xsg xdv (fun q => q ≠ t ∧ q ≠ 75) t (.inr (putv (pg xG f) K (pg xF g, pg xG g)))) := by
  have hK13 := isC_pg hK
  refine zMet.ofZ (by decide) (Nat.le_of_ble_eq_true rfl) ?_
  intro X hl hini C
  have loop : ∀ (k : Nat) (F1 G1 P1 Q1 mm1 : Nat → FF) (sl1 : Nat → Nat) (M1 : zM), k ≤ K → mw E M1 m xln xlen xlab xbad xlev 0 xwa xpl xfo xsf xbf F1 G1 P1 Q1 mm1 sl1 xkd xhs xht xsg xdv → zoutR M M1 m (m + 15) → (∀ q, q ≠ t ∧ q ≠ 75 → pg F1 q = pg xF q ∧ pg G1 q = pg xG q) → pg F1 t = (hst (pg xG f) K (pg xF g, pg xG g) k).1 → pg G1 t = (hst (pg xG f) K (pg xF g, pg xG g) k).2 → Z X E 6 (zQ X E 0 0 (oP E M sz m xln xlen xlab xbad xlev xtr xwa xpl xfo xsf xbf xF xG xP xQ xmm xsl xkd xhs xht xsg xdv (fun q => q ≠ t ∧ q ≠ 75) t (.inr (putv (pg xG f) K (pg xF g, pg xG g))))) 0 0 sz M1 15 [(0, .ref m), (1, .int (nI f)), (2, .int (nI 1)), (3, .int (nI g)), (4, .int (nI t)), (5, .int (tI k))] [] := by
    intro k
    induction k with
    | zero =>
      intro F1 G1 P1 Q1 mm1 sl1 M1 hk H1 hz1 hkp e1 e2
      refine z_iload C d_M_put_15 rfl ?_
      refine z_if_lt (tgt := 84) C d_M_put_17 (by decide) (fun _ => ?_) (fun c_17 => absurd (by decide) c_17)
      rw [hst_end] at e1 e2
      exact z_vret C ⟨rfl, rfl, hz1, 0, F1, G1, P1, Q1, mm1, sl1, H1, hkp, rfl, e1, e2⟩ d_M_put_84
    | succ k ih =>
      intro F1 G1 P1 Q1 mm1 sl1 M1 hk H1 hz1 hkp e1 e2
      rw [tI_s k]
      obtain ⟨m1, m2⟩ := hst_mul (k := k + 1) (g := (pg xF g, pg xG g)) hK okg hb1 hb2 hb (by omega) hk
      have a2 := hst_add (i := k) (g := (pg xF g, pg xG g)) hK okg hb1 hb2 hb (by omega)
      have kg := hkp g ⟨by omega, by omega⟩
      have kf := hkp f ⟨by omega, by omega⟩
      refine z_iload C d_M_put_15 rfl ?_
      refine z_if_lt (tgt := 84) C d_M_put_17 (by decide) (fun c_17 => absurd c_17 (fun q => absurd ((nI_ltI (a := k) (b := 0) (by omega) (by omega)).mp q) (by omega))) (fun _ => ?_)
      refine z_aload_n C d_M_put_20 rfl rfl ?_
      refine z_iload C d_M_put_21 rfl ?_
      refine z_iload_n C d_M_put_23 rfl rfl ?_
      refine z_iconst (v := nI 0) C d_M_put_24 (by decide) ?_
      refine z_iload C d_M_put_25 rfl ?_
      refine z_callV (rest := []) (n := 4) (As := [.int (nI t), .int (nI g), .int (nI 0), .int (nI t)]) C (m_timesM E X.2.1 sz _ H1 t g t (by omega) (by omega) (by omega) rfl (by unfold okR; rw [e1, e2]; exact hst_ok (g := (pg xF g, pg xG g)) hK okg hk) (by unfold okR; rw [kg.1, kg.2]; exact okg)) ⟨z_cb C k_M_times ml_M_140 ii_M rfl rfl (by decide +kernel) ⟨by decide, by decide⟩, C.2.2.2.2.1 _ im_M_times, C.2.2.2.2.1 _ se_M_times⟩ H1.1 rfl rfl rfl (Nat.le_of_ble_eq_true rfl) d_M_put_27 ⟨by decide, by decide⟩ ?_
      intro v_27 s_27 M_27 hp_27
      obtain ⟨rfl, rfl, ho_27, tr_27, F_27, G_27, P_27, Q_27, mm_27, sl_27, H_27, hR_27⟩ := hp_27
      have hz_27 : zoutR M M_27 m (m + 15) := zoutR_tr hz1 ho_27
      have hR2 : oR (fun q => q ≠ t) F1 G1 F_27 G_27 tr_27 t (oMul (pg F1 t, pg G1 t) (pg F1 g, pg G1 g)) := hR_27
      rw [e1, e2, kg.1, kg.2] at hR2
      have m3 : oMul ((hst (pg xG f) K (pg xF g, pg xG g) (k + 1)).1, (hst (pg xG f) K (pg xF g, pg xG g) (k + 1)).2) (pg xF g, pg xG g) = .inr (hsm (pg xG f) K (pg xF g, pg xG g) (k + 1)) := m2
      rw [m3] at hR2
      obtain ⟨hk27, rfl, f1, f2⟩ := hR2
      show Z _ _ _ _ _ _ _ _ 30 _ []
      refine z_aload_n C d_M_put_30 rfl rfl ?_
      refine z_bipush (v := nI 75) C d_M_put_31 (by decide) ?_
      refine z_iload_n C d_M_put_33 rfl rfl ?_
      refine z_if_eq (tgt := 52) C d_M_put_34 (by decide) (fun c_34 => absurd c_34 (by decide)) (fun _ => ?_)
      refine z_aload_n C d_M_put_37 rfl rfl ?_
      refine z_get C in_M H_27.1 rfl 12 (by decide) fl_M_26 rfl rfl d_M_put_38 ?_
      refine z_iload_n C d_M_put_41 rfl rfl ?_
      refine z_bipush (v := nI 13) C d_M_put_42 (by decide) ?_
      refine z_imul C d_M_put_44 ?_
      refine z_top (y := nI (f * 13)) (pk_mul _ _) ?_
      refine z_iload C d_M_put_45 rfl ?_
      refine z_iadd C d_M_put_47 ?_
      refine z_top (y := nI ((f * 13) + k)) (nI_add _ _) ?_
      refine z_iald C H_27.2.2.2.2.2.1 0 rfl ((f * 13) + k) (rfl) (by omega) (by omega) d_M_put_48 ?_
      refine z_top (y := fI ((pg xG f) k)) (congrArg fI (by rw [← pg_at (F := G_27) (r := f) (by omega), (hk27 f (by omega)).2, kf.2])) ?_
      refine z_goto (tgt := 64) C d_M_put_49 (by decide) ?_
      refine z_callV (rest := []) (n := 2) (As := [.int (nI 75), .int (fI ((pg xG f) k))]) C (m_constant E X.2.1 sz _ H_27 75 (by decide) ((pg xG f) k)) ⟨z_cb C k_M_constant ml_M_108 ii_M rfl rfl (by decide +kernel) ⟨by decide, by decide⟩, C.2.2.2.2.1 _ im_M_constant, C.2.2.2.2.1 _ se_M_constant⟩ H_27.1 rfl rfl rfl (Nat.le_of_ble_eq_true rfl) d_M_put_64 ⟨by decide, by decide⟩ ?_
      intro v_64 s_64 M_64 hp_64
      obtain ⟨rfl, rfl, ho_64, H_64⟩ := hp_64
      have hz_64 : zoutR M M_64 m (m + 15) := zoutR_tr hz_27 ho_64
      show Z _ _ _ _ _ _ _ _ 67 _ []
      refine z_aload_n C d_M_put_67 rfl rfl ?_
      refine z_iload C d_M_put_68 rfl ?_
      refine z_bipush (v := nI 75) C d_M_put_70 (by decide) ?_
      refine z_iconst (v := fI 1) C d_M_put_72 (by decide) ?_
      refine z_iload C d_M_put_73 rfl ?_
      refine z_callV (rest := []) (n := 4) (As := [.int (nI t), .int (nI 75), .int (fI 1), .int (nI t)]) C (m_add E X.2.1 sz _ H_64 t 75 1 t (by omega) (by decide) (by omega) rfl (by unfold okR; rw [pg_co, if_neg (by omega), pg_co, if_neg (by omega), f1, f2]; exact m1) (by unfold okR; rw [pg_co, if_pos rfl, pg_co, if_pos rfl]; exact isf_C _)) ⟨z_cb C k_M_add ml_M_144 ii_M rfl rfl (by decide +kernel) ⟨by decide, by decide⟩, C.2.2.2.2.1 _ im_M_add, C.2.2.2.2.1 _ se_M_add⟩ H_64.1 rfl rfl rfl (Nat.le_of_ble_eq_true rfl) d_M_put_75 ⟨by decide, by decide⟩ ?_
      intro v_75 s_75 M_75 hp_75
      obtain ⟨rfl, rfl, ho_75, tr_75, F_75, G_75, P_75, Q_75, mm_75, sl_75, H_75, hR_75⟩ := hp_75
      have hz_75 : zoutR M M_75 m (m + 15) := zoutR_tr hz_64 ho_75
      have hR3 : oR (fun q => q ≠ t) (coF F_27 75 ((pg xG f) k) 13) (coF G_27 75 1 13) F_75 G_75 tr_75 t (oAdd 1 (pg (coF F_27 75 ((pg xG f) k) 13) t, pg (coF G_27 75 1 13) t) (pg (coF F_27 75 ((pg xG f) k) 13) 75, pg (coF G_27 75 1 13) 75)) := hR_75
      rw [pg_co, if_neg (show ¬ t = 75 by omega), pg_co, if_neg (show ¬ t = 75 by omega), pg_co, if_pos rfl, pg_co, if_pos rfl, f1, f2] at hR3
      have a3 : oAdd 1 ((hsm (pg xG f) K (pg xF g, pg xG g) (k + 1)).1, (hsm (pg xG f) K (pg xF g, pg xG g) (k + 1)).2) (ps_C ((pg xG f) k), ps_C 1) = .inr (hst (pg xG f) K (pg xF g, pg xG g) k) := a2
      rw [a3] at hR3
      obtain ⟨hk75, rfl, g1, g2⟩ := hR3
      show Z _ _ _ _ _ _ _ _ 78 _ []
      refine z_iinc (v := tI k) (L' := [(0, .ref m), (1, .int (nI f)), (2, .int (nI 1)), (3, .int (nI g)), (4, .int (nI t)), (5, .int (tI k))]) C d_M_put_78 rfl (nI_dec k) (by decide) rfl ?_
      refine z_goto (tgt := 15) C d_M_put_81 (by decide) ?_
      refine ih F_75 G_75 P_75 Q_75 mm_75 sl_75 M_75 (by omega) H_75 hz_75 (fun q hq => ?_) g1 g2
      rw [(hk75 q hq.1).1, (hk75 q hq.1).2, pg_co, if_neg hq.2, pg_co, if_neg hq.2, (hk27 q hq.1).1, (hk27 q hq.1).2]
      exact hkp q hq
  show Z X E 6 _ 0 0 sz M 0 [(0, .ref m), (1, .int (nI f)), (2, .int (nI 1)), (3, .int (nI g)), (4, .int (nI t))] []
  refine z_aload_n C d_M_put_0 rfl rfl ?_
  refine z_iload C d_M_put_1 rfl ?_
  refine z_iconst (v := fI 0) C d_M_put_3 (by decide) ?_
  refine z_callV (rest := []) (n := 2) (As := [.int (nI t), .int (fI 0)]) C (m_constant E X.2.1 sz _ H t (by omega) 0) ⟨z_cb C k_M_constant ml_M_108 ii_M rfl rfl (by decide +kernel) ⟨by decide, by decide⟩, C.2.2.2.2.1 _ im_M_constant, C.2.2.2.2.1 _ se_M_constant⟩ H.1 rfl rfl rfl (Nat.le_of_ble_eq_true rfl) d_M_put_4 ⟨by decide, by decide⟩ ?_
  intro v_4 s_4 M_4 hp_4
  obtain ⟨rfl, rfl, ho_4, H_4⟩ := hp_4
  have hz_4 : zoutR M M_4 m (m + 15) := zoutR_tr zoutR_rf ho_4
  show Z _ _ _ _ _ _ _ _ 7 _ []
  refine z_aload_n C d_M_put_7 rfl rfl ?_
  refine z_iload_n C d_M_put_8 rfl rfl ?_
  refine z_iload_n C d_M_put_9 rfl rfl ?_
  refine z_callV (rest := []) (n := 2) (As := [.int (nI f), .int (nI 1)]) C (m_top E X.2.1 sz _ H_4 f 1 (by omega) (by decide)) ⟨z_cb C k_M_top ml_M_133 ii_M rfl rfl (by decide +kernel) ⟨by decide, by decide⟩, C.2.2.2.2.1 _ im_M_top, C.2.2.2.2.1 _ se_M_top⟩ H_4.1 rfl rfl rfl (Nat.le_of_ble_eq_true rfl) d_M_put_10 ⟨by decide, by decide⟩ ?_
  intro v_10 s_10 M_10 hp_10
  obtain ⟨k1, rfl, rfl, rfl, hk1⟩ := hp_10
  have hk2 : isC (pg (coF xG t 1 13) f) k1 := hk1
  rw [pg_co, if_neg (by omega)] at hk2
  have ek : K = k1 := isC_un hK hk2
  subst ek
  show Z _ _ _ _ _ _ _ _ 13 _ [.int (tI K)]
  refine z_istore (L' := [(0, .ref m), (1, .int (nI f)), (2, .int (nI 1)), (3, .int (nI g)), (4, .int (nI t)), (5, .int (tI K))]) C d_M_put_13 (by decide) rfl ?_
  refine loop K _ _ xP xQ xmm xsl _ (Nat.le_refl _) (htr ▸ H_4) hz_4 (fun q hq => ⟨?_, ?_⟩) ?_ ?_
  · rw [pg_co, if_neg hq.1]
  · rw [pg_co, if_neg hq.1]
  · rw [pg_co, if_pos rfl]; unfold hst; rw [if_pos rfl]
  · rw [pg_co, if_pos rfl]; unfold hst; rw [if_pos rfl]
