def flF (F : Nat → FF) (P Q : PS) (d n c : Nat) : Nat → FF := fun i => if i < c then mat P Q d n (i / 26) (i % 26) else F i
theorem flF_0 (F : Nat → FF) (P Q : PS) (d n : Nat) : flF F P Q d n 0 = F := by
  funext i
  unfold flF
  rw [if_neg (by omega)]
theorem flF_s {F : Nat → FF} {P Q : PS} {d n c : Nat} {v : FF} (hv : v = mat P Q d n (c / 26) (c % 26)) : updF (flF F P Q d n c) c v = flF F P Q d n (c + 1) := by
  funext i
  unfold updF flF
  by_cases h : i = c
  · rw [if_pos h, if_pos (by omega), hv, h]
  · rw [if_neg h]
    by_cases h2 : i < c
    · rw [if_pos h2, if_pos (by omega)]
    · rw [if_neg h2, if_neg (by omega)]
/-- a system is alike where it counts -/
theorem gj_cg {m0 m0' m : Nat → Nat → FF} {rows n j : Nat} {U : Nat → Bool} {s : Nat → Nat} (h : ∀ r, r < rows → ∀ k, k ≤ n → m0 r k = m0' r k) (H : gj m0 m rows n j U s) : gj m0' m rows n j U s := by
  refine ⟨fun u => Iff.trans ?_ (H.1 u), H.2⟩
  constructor
  · intro g r hr
    rw [h r hr n (Nat.le_refl n), ← g r hr]
    exact fsum_cg (fun k hk => by rw [h r hr k (by omega)])
  · intro g r hr
    rw [← h r hr n (Nat.le_refl n), ← g r hr]
    exact fsum_cg (fun k hk => by rw [h r hr k (by omega)])
theorem gj_un {m0 m : Nat → Nat → FF} {rows n j : Nat} {U : Nat → Bool} {s s' : Nat → Nat} (hk : ∀ c, c < j → s' c = s c) (H : gj m0 m rows n j U s) : gj m0 m rows n j U s' := by
  obtain ⟨h1, h2, h3, h4, h5⟩ := H
  refine ⟨h1, fun c hc q => h2 c hc (by rw [← hk c hc]; exact q), fun c hc p q => h3 c hc p (by rw [← hk c hc]; exact q), fun r hr q => ?_, fun c c' hc hc' q q2 => h5 c c' hc hc' (by rw [← hk c hc, ← hk c' hc']; exact q) (by rw [← hk c hc]; exact q2)⟩
  obtain ⟨c, hc, e⟩ := h4 r hr q
  exact ⟨c, hc, by rw [hk c hc]; exact e⟩
theorem nI_sad {a b e : Nat} (h : b ≤ a + e) : nI a - nI b + nI e = nI (a + e - b) := by
  rw [← pk_sub h, ← nI_add, Int32.sub_eq_add_neg, Int32.sub_eq_add_neg, Int32.add_assoc, Int32.add_comm (-nI b) (nI e), ← Int32.add_assoc]
theorem ub_keep {u : Int64} {p r : Nat} (hp : p < 64) (hne : r ≠ p) : ub (u ||| (1 <<< ((nI p).toInt64 &&& 63))) r = ub u r := by
  rcases Nat.lt_or_ge r 64 with h | h
  · rw [ub_or hp h]; simp [hne]
  · unfold ub
    rw [BitVec.getLsbD_of_ge _ _ h, BitVec.getLsbD_of_ge _ _ h]
theorem ub_set {u : Int64} {p : Nat} (hp : p < 64) : ub (u ||| (1 <<< ((nI p).toInt64 &&& 63))) p = true := by
  rw [ub_or hp hp]; simp
theorem lcmp_b {u : Int64} {r : Nat} (h : r < 64) : ¬ lg_cmp ((u >>> ((nI r).toInt64 &&& 63)) &&& 1) 0 = 0 ↔ ub u r = true := by
  rw [lg_cmp_eq, ub_shr h]
  cases ub u r <;> simp
set_option maxHeartbeats 4000000 in
/-- solve -/
theorem m_solve (E : zE) (l : Launch) (sz : Nat) (M : zM) {m : Nat} {xln : Nat → Nat} {xlen : Nat} {xlab : Nat} {xbad : Int32} {xlev : Nat} {xtr : Int32} {xwa : Nat} {xpl : Nat} {xfo : Nat} {xsf : Nat → Nat} {xbf : Nat → Nat} {xF : Nat → FF} {xG : Nat → FF} {xP : Nat → FF} {xQ : Nat → FF} {xmm : Nat → FF} {xsl : Nat → Nat} {xkd : Nat → Nat} {xhs : Nat → Nat} {xht : Nat → Nat} {xsg : Nat → Nat} {xdv : Nat → Nat} (H : mw E M m xln xlen xlab xbad xlev xtr xwa xpl xfo xsf xbf xF xG xP xQ xmm xsl xkd xhs xht xsg xdv) (d e n rows : Nat) (hn : n = d + e + 1) (hd : d ≤ 12) (he : e ≤ 12) (hrows : rows ≤ 37) : zMet E l y_M_solve c_M_solve 9 (some .boolean) { frames := 2, cells := 0, slots := 0, locals := 49 } 0 0 [.ref m, .int (nI d), .int (nI e), .int (nI rows)] sz M (fun v s M' => sz = s ∧ zoutR M M' m (m + 15) ∧ ∃ mm' sl', mw E M' m xln xlen xlab xbad xlev xtr xwa xpl xfo xsf xbf xF xG xP xQ mm' sl' xkd xhs xht xsg xdv ∧ (∀ j, j < n → sl' j ≤ rows) ∧ ((some (.int (nI 0)) = v ∧ ∀ u, ¬ sat (mat xP xQ d n) rows n u) ∨ (some (.int (nI 1)) = v ∧ sat (mat xP xQ d n) rows n (fun j => if sl' j = 0 then 0 else mm' ((sl' j - 1) * 26 + n))))) := by
  have hn26 : n < 26 := by omega
  refine zMet.ofZ (by decide) (Nat.le_of_ble_eq_true rfl) ?_
  intro X hl hini C
  have ph3 : ∀ (u : Int64) (mm1 : Nat → FF) (sl1 : Nat → Nat) (M1 : zM), mw E M1 m xln xlen xlab xbad xlev xtr xwa xpl xfo xsf xbf xF xG xP xQ mm1 sl1 xkd xhs xht xsg xdv → zoutR M M1 m (m + 15) → gj (mat xP xQ d n) (mOf mm1) rows n n (ub u) sl1 → (∀ j, j < n → sl1 j ≤ rows) → ∀ (q r : Nat), r + q = rows → (∀ r', r' < r → ub u r' = false → mm1 (r' * 26 + n) = 0) → Z X E 9 (zQ X E 0 0 (fun v s M' => sz = s ∧ zoutR M M' m (m + 15) ∧ ∃ mm' sl', mw E M' m xln xlen xlab xbad xlev xtr xwa xpl xfo xsf xbf xF xG xP xQ mm' sl' xkd xhs xht xsg xdv ∧ (∀ j, j < n → sl' j ≤ rows) ∧ ((some (.int (nI 0)) = v ∧ ∀ u, ¬ sat (mat xP xQ d n) rows n u) ∨ (some (.int (nI 1)) = v ∧ sat (mat xP xQ d n) rows n (fun j => if sl' j = 0 then 0 else mm' ((sl' j - 1) * 26 + n)))))) 0 0 sz M1 294 [(0, .ref m), (1, .int (nI d)), (2, .int (nI e)), (3, .int (nI rows)), (4, .int (nI n)), (5, .long u), (7, .int (nI r))] [] := by
    intro u mm1 sl1 M1 H1 hz1 hg hsl q
    induction q with
    | zero =>
      intro r hr hz
      have hr : rows = r := by omega
      subst hr
      refine z_iload C d_M_solve_294 rfl ?_
      refine z_iload_n C d_M_solve_296 rfl rfl ?_
      refine z_icmp_ge (tgt := 336) C d_M_solve_297 (by decide) (fun _ => ?_) (fun c_297 => absurd (Int32.le_refl _) c_297)
      refine z_iconst (v := nI 1) C d_M_solve_336 (by decide) ?_
      exact z_zret C (by first | rfl | decide) ⟨rfl, hz1, mm1, sl1, H1, hsl, Or.inr ⟨rfl, gj_yes hg (fun r hr hu => hz r hr hu)⟩⟩ d_M_solve_337
    | succ q ih =>
      intro r hr hz
      refine z_iload C d_M_solve_294 rfl ?_
      refine z_iload_n C d_M_solve_296 rfl rfl ?_
      refine z_icmp_ge (tgt := 336) C d_M_solve_297 (by decide) (fun c_297 => absurd c_297 (fun q => absurd ((nI_leI (a := rows) (b := r) (by omega) (by omega)).mp q) (by omega))) (fun _ => ?_)
      refine z_lload C d_M_solve_300 rfl ?_
      refine z_iload C d_M_solve_302 rfl ?_
      refine z_lshr (v := u >>> ((nI r).toInt64 &&& 63)) C d_M_solve_304 rfl ?_
      refine z_lconst (v := 1) C d_M_solve_305 (by decide) ?_
      refine z_land C d_M_solve_306 ?_
      refine z_lconst (v := 0) C d_M_solve_307 (by decide) ?_
      refine z_lcmp C d_M_solve_308 ?_
      refine z_if_ne (tgt := 330) C d_M_solve_309 (by decide) (fun c_309 => ?_) (fun c_309 => ?_)
      · have c_309 : ub u r = true := (lcmp_b (by omega)).mp c_309
        refine z_iinc (v := nI (r + 1)) (L' := [(0, .ref m), (1, .int (nI d)), (2, .int (nI e)), (3, .int (nI rows)), (4, .int (nI n)), (5, .long u), (7, .int (nI (r + 1)))]) C d_M_solve_330 rfl (nI_add _ 1) (by decide) rfl ?_
        refine z_goto (tgt := 294) C d_M_solve_333 (by decide) ?_
        refine ih (r + 1) (by omega) (fun r' h1 h2 => ?_)
        rcases Nat.lt_or_ge r' r with g | g
        · exact hz r' g h2
        · have e9 : r' = r := by omega
          subst e9
          first | exact c_325 | (rw [c_309] at h2; cases h2)
      · have c_309 : ub u r = false := by
          cases hb : ub u r
          · rfl
          · exact absurd ((lcmp_b (by omega)).mpr hb) (fun q => q c_309)
        refine z_aload_n C d_M_solve_312 rfl rfl ?_
        refine z_get C in_M H1.1 rfl 15 (by decide) fl_M_35 rfl rfl d_M_solve_313 ?_
        refine z_iload C d_M_solve_316 rfl ?_
        refine z_bipush (v := nI 26) C d_M_solve_318 (by decide) ?_
        refine z_imul C d_M_solve_320 ?_
        refine z_top (y := nI (r * 26)) (pk_mul _ _) ?_
        refine z_iload C d_M_solve_321 rfl ?_
        refine z_iadd C d_M_solve_323 ?_
        refine z_top (y := nI ((r * 26) + n)) (nI_add _ _) ?_
        refine z_iald C H1.2.2.2.2.2.2.2.2.1 0 rfl ((r * 26) + n) (rfl) (by omega) (by omega) d_M_solve_324 ?_
        refine z_top (y := fI (mm1 ((r * 26) + n))) rfl ?_
        refine z_if_eq (tgt := 330) C d_M_solve_325 (by decide) (fun c_325 => ?_) (fun c_325 => ?_)
        · have c_325 : (mm1 ((r * 26) + n)) = 0 := fI_eq0.mp c_325
          refine z_iinc (v := nI (r + 1)) (L' := [(0, .ref m), (1, .int (nI d)), (2, .int (nI e)), (3, .int (nI rows)), (4, .int (nI n)), (5, .long u), (7, .int (nI (r + 1)))]) C d_M_solve_330 rfl (nI_add _ 1) (by decide) rfl ?_
          refine z_goto (tgt := 294) C d_M_solve_333 (by decide) ?_
          refine ih (r + 1) (by omega) (fun r' h1 h2 => ?_)
          rcases Nat.lt_or_ge r' r with g | g
          · exact hz r' g h2
          · have e9 : r' = r := by omega
            subst e9
            first | exact c_325 | (rw [c_309] at h2; cases h2)
        · have c_325 : ¬ (mm1 ((r * 26) + n)) = 0 := fun q => c_325 (fI_eq0.mpr q)
          refine z_iconst (v := nI 0) C d_M_solve_328 (by decide) ?_
          exact z_zret C (by first | rfl | decide) ⟨rfl, hz1, mm1, sl1, H1, hsl, Or.inl ⟨rfl, gj_no hg (show r < rows by omega) c_309 c_325⟩⟩ d_M_solve_329
  have ph2 : ∀ (q j : Nat) (u : Int64) (mm1 : Nat → FF) (sl1 : Nat → Nat) (M1 : zM), j + q = n → mw E M1 m xln xlen xlab xbad xlev xtr xwa xpl xfo xsf xbf xF xG xP xQ mm1 sl1 xkd xhs xht xsg xdv → zoutR M M1 m (m + 15) → gj (mat xP xQ d n) (mOf mm1) rows n j (ub u) sl1 → (∀ c, c < j → sl1 c ≤ rows) → Z X E 9 (zQ X E 0 0 (fun v s M' => sz = s ∧ zoutR M M' m (m + 15) ∧ ∃ mm' sl', mw E M' m xln xlen xlab xbad xlev xtr xwa xpl xfo xsf xbf xF xG xP xQ mm' sl' xkd xhs xht xsg xdv ∧ (∀ j, j < n → sl' j ≤ rows) ∧ ((some (.int (nI 0)) = v ∧ ∀ u, ¬ sat (mat xP xQ d n) rows n u) ∨ (some (.int (nI 1)) = v ∧ sat (mat xP xQ d n) rows n (fun j => if sl' j = 0 then 0 else mm' ((sl' j - 1) * 26 + n)))))) 0 0 sz M1 170 [(0, .ref m), (1, .int (nI d)), (2, .int (nI e)), (3, .int (nI rows)), (4, .int (nI n)), (5, .long u), (7, .int (nI j))] [] := by
    intro q
    induction q with
    | zero =>
      intro j u mm1 sl1 M1 hj H1 hz1 hg hsl
      have hj : n = j := by omega
      subst hj
      refine z_iload C d_M_solve_170 rfl ?_
      refine z_iload C d_M_solve_172 rfl ?_
      refine z_icmp_ge (tgt := 291) C d_M_solve_174 (by decide) (fun _ => ?_) (fun c_174 => absurd (Int32.le_refl _) c_174)
      refine z_iconst (v := nI 0) C d_M_solve_291 (by decide) ?_
      refine z_istore (L' := [(0, .ref m), (1, .int (nI d)), (2, .int (nI e)), (3, .int (nI rows)), (4, .int (nI n)), (5, .long u), (7, .int (nI 0))]) C d_M_solve_292 (by decide) rfl ?_
      exact ph3 u mm1 sl1 M1 H1 hz1 hg hsl rows 0 (by omega) (fun r' h => by omega)
    | succ q ih =>
      intro j u mm1 sl1 M1 hj H1 hz1 hg hsl
      have found : ∀ (p r : Nat) (M2 : zM), p < rows → mm1 (p * 26 + j) ≠ 0 → ub u p = false → mw E M2 m xln xlen xlab xbad xlev xtr xwa xpl xfo xsf xbf xF xG xP xQ mm1 (updN (updN sl1 j 0) j (p + 1)) xkd xhs xht xsg xdv → zoutR M M2 m (m + 15) → Z X E 9 (zQ X E 0 0 (fun v s M' => sz = s ∧ zoutR M M' m (m + 15) ∧ ∃ mm' sl', mw E M' m xln xlen xlab xbad xlev xtr xwa xpl xfo xsf xbf xF xG xP xQ mm' sl' xkd xhs xht xsg xdv ∧ (∀ j, j < n → sl' j ≤ rows) ∧ ((some (.int (nI 0)) = v ∧ ∀ u, ¬ sat (mat xP xQ d n) rows n u) ∨ (some (.int (nI 1)) = v ∧ sat (mat xP xQ d n) rows n (fun j => if sl' j = 0 then 0 else mm' ((sl' j - 1) * 26 + n)))))) 0 0 sz M2 247 [(0, .ref m), (1, .int (nI d)), (2, .int (nI e)), (3, .int (nI rows)), (4, .int (nI n)), (5, .long u), (7, .int (nI j)), (8, .int (nI r))] [] := by
        intro p r M2 hp hne hub H2 hz2
        have es : updN (updN sl1 j 0) j (p + 1) j = p + 1 := updN_eq
        refine z_aload_n C d_M_solve_247 rfl rfl ?_
        refine z_get C in_M H2.1 rfl 16 (by decide) fl_M_38 rfl rfl d_M_solve_248 ?_
        refine z_iload C d_M_solve_251 rfl ?_
        refine z_iald C H2.2.2.2.2.2.2.2.2.2.1 0 rfl j (rfl) (by omega) (by omega) d_M_solve_253 ?_
        refine z_top (y := tI (p + 1)) (by rw [es]) ?_
        refine z_if_lt (tgt := 285) C d_M_solve_254 (by decide) (fun c_254 => absurd c_254 (fun q => absurd ((tI_lt0 (n := p + 1) (by omega)).mp q) (by omega))) (fun _ => ?_)
        refine z_lload C d_M_solve_257 rfl ?_
        refine z_lconst (v := 1) C d_M_solve_259 (by decide) ?_
        refine z_aload_n C d_M_solve_260 rfl rfl ?_
        refine z_get C in_M H2.1 rfl 16 (by decide) fl_M_38 rfl rfl d_M_solve_261 ?_
        refine z_iload C d_M_solve_264 rfl ?_
        refine z_iald C H2.2.2.2.2.2.2.2.2.2.1 0 rfl j (rfl) (by omega) (by omega) d_M_solve_266 ?_
        refine z_top (y := nI p) (by rw [es, tI_s]) ?_
        refine z_lshl (v := 1 <<< ((nI p).toInt64 &&& 63)) C d_M_solve_267 rfl ?_
        refine z_lor C d_M_solve_268 ?_
        refine z_lstore (L' := [(0, .ref m), (1, .int (nI d)), (2, .int (nI e)), (3, .int (nI rows)), (4, .int (nI n)), (5, .long (u ||| (1 <<< ((nI p).toInt64 &&& 63)))), (7, .int (nI j)), (8, .int (nI r))]) C d_M_solve_269 (by decide) rfl ?_
        refine z_aload_n C d_M_solve_271 rfl rfl ?_
        refine z_aload_n C d_M_solve_272 rfl rfl ?_
        refine z_get C in_M H2.1 rfl 16 (by decide) fl_M_38 rfl rfl d_M_solve_273 ?_
        refine z_iload C d_M_solve_276 rfl ?_
        refine z_iald C H2.2.2.2.2.2.2.2.2.2.1 0 rfl j (rfl) (by omega) (by omega) d_M_solve_278 ?_
        refine z_top (y := nI p) (by rw [es, tI_s]) ?_
        refine z_iload C d_M_solve_279 rfl ?_
        refine z_iload_n C d_M_solve_281 rfl rfl ?_
        refine z_callV (rest := []) (n := 3) (As := [.int (nI p), .int (nI j), .int (nI rows)]) C (m_eliminate E X.2.1 sz _ H2 p j rows (by omega) (by omega) (by omega)) ⟨z_cb C k_M_eliminate ml_M_94 ii_M rfl rfl (by decide +kernel) ⟨by decide, by decide⟩, C.2.2.2.2.1 _ im_M_eliminate, C.2.2.2.2.1 _ se_M_eliminate⟩ H2.1 rfl rfl rfl (Nat.le_of_ble_eq_true rfl) d_M_solve_282 ⟨by decide, by decide⟩ ?_
        intro v_282 s_282 M_282 hp_282
        obtain ⟨rfl, rfl, ho_282, H_282⟩ := hp_282
        have hz_282 : zoutR M M_282 m (m + 15) := zoutR_tr hz2 ho_282
        show Z _ _ _ _ _ _ _ _ 285 _ []
        refine z_iinc (v := nI (j + 1)) (L' := [(0, .ref m), (1, .int (nI d)), (2, .int (nI e)), (3, .int (nI rows)), (4, .int (nI n)), (5, .long (u ||| (1 <<< ((nI p).toInt64 &&& 63)))), (7, .int (nI (j + 1))), (8, .int (nI r))]) C d_M_solve_285 rfl (nI_add _ 1) (by decide) rfl ?_
        refine z_goto (tgt := 170) C d_M_solve_288 (by decide) ?_
        refine z_sub [0, 1, 2, 3, 4, 5, 6] rfl ?_
        refine ih (j + 1) _ _ _ _ (by omega) H_282 hz_282 (gj_piv (row := p) hg hp hub hne (by omega) hn26 (el_is hp (by omega)) updN_eq (fun c hc => by rw [updN_ne (by omega), updN_ne (by omega)]) ?_ ?_) (fun c hc => ?_)
        · exact ub_set (by omega)
        · exact fun r hr => ub_keep (by omega) hr
        · by_cases g : c = j
          · rw [g, updN_eq]; omega
          · rw [updN_ne g, updN_ne g]; exact hsl c (by omega)
      have none_ : ∀ (r : Nat) (M2 : zM), (∀ r', r' < rows → ub u r' = false → mm1 (r' * 26 + j) = 0) → mw E M2 m xln xlen xlab xbad xlev xtr xwa xpl xfo xsf xbf xF xG xP xQ mm1 (updN sl1 j 0) xkd xhs xht xsg xdv → zoutR M M2 m (m + 15) → Z X E 9 (zQ X E 0 0 (fun v s M' => sz = s ∧ zoutR M M' m (m + 15) ∧ ∃ mm' sl', mw E M' m xln xlen xlab xbad xlev xtr xwa xpl xfo xsf xbf xF xG xP xQ mm' sl' xkd xhs xht xsg xdv ∧ (∀ j, j < n → sl' j ≤ rows) ∧ ((some (.int (nI 0)) = v ∧ ∀ u, ¬ sat (mat xP xQ d n) rows n u) ∨ (some (.int (nI 1)) = v ∧ sat (mat xP xQ d n) rows n (fun j => if sl' j = 0 then 0 else mm' ((sl' j - 1) * 26 + n)))))) 0 0 sz M2 247 [(0, .ref m), (1, .int (nI d)), (2, .int (nI e)), (3, .int (nI rows)), (4, .int (nI n)), (5, .long u), (7, .int (nI j)), (8, .int (nI r))] [] := by
        intro r M2 hz H2 hz2
        have es : updN sl1 j 0 j = 0 := updN_eq
        refine z_aload_n C d_M_solve_247 rfl rfl ?_
        refine z_get C in_M H2.1 rfl 16 (by decide) fl_M_38 rfl rfl d_M_solve_248 ?_
        refine z_iload C d_M_solve_251 rfl ?_
        refine z_iald C H2.2.2.2.2.2.2.2.2.2.1 0 rfl j (rfl) (by omega) (by omega) d_M_solve_253 ?_
        refine z_top (y := tI 0) (by rw [es]) ?_
        refine z_if_lt (tgt := 285) C d_M_solve_254 (by decide) (fun _ => ?_) (fun c_254 => absurd (by decide) c_254)
        refine z_iinc (v := nI (j + 1)) (L' := [(0, .ref m), (1, .int (nI d)), (2, .int (nI e)), (3, .int (nI rows)), (4, .int (nI n)), (5, .long u), (7, .int (nI (j + 1))), (8, .int (nI r))]) C d_M_solve_285 rfl (nI_add _ 1) (by decide) rfl ?_
        refine z_goto (tgt := 170) C d_M_solve_288 (by decide) ?_
        refine z_sub [0, 1, 2, 3, 4, 5, 6] rfl ?_
        refine ih (j + 1) _ _ _ _ (by omega) H2 hz2 (gj_skip hg (fun r hr hu => hz r hr hu) updN_eq (fun c hc => updN_ne (by omega))) (fun c hc => ?_)
        by_cases g : c = j
        · rw [g, updN_eq]; omega
        · rw [updN_ne g]; exact hsl c (by omega)
      have found2 : ∀ (p r : Nat) (M2 : zM), p < rows → mm1 (p * 26 + j) ≠ 0 → ub u p = false → mw E M2 m xln xlen xlab xbad xlev xtr xwa xpl xfo xsf xbf xF xG xP xQ mm1 (updN (updN sl1 j 0) j (p + 1)) xkd xhs xht xsg xdv → zoutR M M2 m (m + 15) → r ≤ rows → Z X E 9 (zQ X E 0 0 (fun v s M' => sz = s ∧ zoutR M M' m (m + 15) ∧ ∃ mm' sl', mw E M' m xln xlen xlab xbad xlev xtr xwa xpl xfo xsf xbf xF xG xP xQ mm' sl' xkd xhs xht xsg xdv ∧ (∀ j, j < n → sl' j ≤ rows) ∧ ((some (.int (nI 0)) = v ∧ ∀ u, ¬ sat (mat xP xQ d n) rows n u) ∨ (some (.int (nI 1)) = v ∧ sat (mat xP xQ d n) rows n (fun j => if sl' j = 0 then 0 else mm' ((sl' j - 1) * 26 + n)))))) 0 0 sz M2 188 [(0, .ref m), (1, .int (nI d)), (2, .int (nI e)), (3, .int (nI rows)), (4, .int (nI n)), (5, .long u), (7, .int (nI j)), (8, .int (nI r))] [] := by
        intro p r M2 hp hne hub H2 hz2 hr
        have es : updN (updN sl1 j 0) j (p + 1) j = p + 1 := updN_eq
        refine z_iload C d_M_solve_188 rfl ?_
        refine z_iload_n C d_M_solve_190 rfl rfl ?_
        refine z_icmp_ge (tgt := 247) C d_M_solve_191 (by decide) (fun c_191 => ?_) (fun c_191 => ?_)
        · have c_191 : rows ≤ r := (nI_leI (a := rows) (b := r) (by omega) (by omega)).mp c_191
          exact found p r M2 hp hne hub H2 hz2
        · have c_191 : r < rows := Nat.not_le.mp (fun q => c_191 ((nI_leI (a := rows) (b := r) (by omega) (by omega)).mpr q))
          refine z_aload_n C d_M_solve_194 rfl rfl ?_
          refine z_get C in_M H2.1 rfl 16 (by decide) fl_M_38 rfl rfl d_M_solve_195 ?_
          refine z_iload C d_M_solve_198 rfl ?_
          refine z_iald C H2.2.2.2.2.2.2.2.2.2.1 0 rfl j (rfl) (by omega) (by omega) d_M_solve_200 ?_
          refine z_top (y := tI (p + 1)) (by rw [es]) ?_
          refine z_if_ge (tgt := 247) C d_M_solve_201 (by decide) (fun _ => ?_) (fun c_201 => absurd ((tI_ge0 (n := p + 1) (by omega)).mpr (by omega)) c_201)
          exact found p r M2 hp hne hub H2 hz2
      have srch : ∀ (w r : Nat) (M2 : zM), r + w = rows → (∀ r', r' < r → ub u r' = false → mm1 (r' * 26 + j) = 0) → mw E M2 m xln xlen xlab xbad xlev xtr xwa xpl xfo xsf xbf xF xG xP xQ mm1 (updN sl1 j 0) xkd xhs xht xsg xdv → zoutR M M2 m (m + 15) → Z X E 9 (zQ X E 0 0 (fun v s M' => sz = s ∧ zoutR M M' m (m + 15) ∧ ∃ mm' sl', mw E M' m xln xlen xlab xbad xlev xtr xwa xpl xfo xsf xbf xF xG xP xQ mm' sl' xkd xhs xht xsg xdv ∧ (∀ j, j < n → sl' j ≤ rows) ∧ ((some (.int (nI 0)) = v ∧ ∀ u, ¬ sat (mat xP xQ d n) rows n u) ∨ (some (.int (nI 1)) = v ∧ sat (mat xP xQ d n) rows n (fun j => if sl' j = 0 then 0 else mm' ((sl' j - 1) * 26 + n)))))) 0 0 sz M2 188 [(0, .ref m), (1, .int (nI d)), (2, .int (nI e)), (3, .int (nI rows)), (4, .int (nI n)), (5, .long u), (7, .int (nI j)), (8, .int (nI r))] [] := by
        intro w
        induction w with
        | zero =>
          intro r M2 hr hz H2 hz2
          have hr : rows = r := by omega
          subst hr
          refine z_iload C d_M_solve_188 rfl ?_
          refine z_iload_n C d_M_solve_190 rfl rfl ?_
          refine z_icmp_ge (tgt := 247) C d_M_solve_191 (by decide) (fun _ => ?_) (fun c_191 => absurd (Int32.le_refl _) c_191)
          exact none_ _ M2 hz H2 hz2
        | succ w ih2 =>
          intro r M2 hr hz H2 hz2
          have es : updN sl1 j 0 j = 0 := updN_eq
          refine z_iload C d_M_solve_188 rfl ?_
          refine z_iload_n C d_M_solve_190 rfl rfl ?_
          refine z_icmp_ge (tgt := 247) C d_M_solve_191 (by decide) (fun c_191 => absurd c_191 (fun q => absurd ((nI_leI (a := rows) (b := r) (by omega) (by omega)).mp q) (by omega))) (fun _ => ?_)
          refine z_aload_n C d_M_solve_194 rfl rfl ?_
          refine z_get C in_M H2.1 rfl 16 (by decide) fl_M_38 rfl rfl d_M_solve_195 ?_
          refine z_iload C d_M_solve_198 rfl ?_
          refine z_iald C H2.2.2.2.2.2.2.2.2.2.1 0 rfl j (rfl) (by omega) (by omega) d_M_solve_200 ?_
          refine z_top (y := tI 0) (by rw [es]) ?_
          refine z_if_ge (tgt := 247) C d_M_solve_201 (by decide) (fun c_201 => absurd c_201 (by decide)) (fun _ => ?_)
          refine z_aload_n C d_M_solve_204 rfl rfl ?_
          refine z_get C in_M H2.1 rfl 15 (by decide) fl_M_35 rfl rfl d_M_solve_205 ?_
          refine z_iload C d_M_solve_208 rfl ?_
          refine z_bipush (v := nI 26) C d_M_solve_210 (by decide) ?_
          refine z_imul C d_M_solve_212 ?_
          refine z_top (y := nI (r * 26)) (pk_mul _ _) ?_
          refine z_iload C d_M_solve_213 rfl ?_
          refine z_iadd C d_M_solve_215 ?_
          refine z_top (y := nI ((r * 26) + j)) (nI_add _ _) ?_
          refine z_iald C H2.2.2.2.2.2.2.2.2.1 0 rfl ((r * 26) + j) (rfl) (by omega) (by omega) d_M_solve_216 ?_
          refine z_top (y := fI (mm1 ((r * 26) + j))) rfl ?_
          refine z_if_eq (tgt := 241) C d_M_solve_217 (by decide) (fun c_217 => ?_) (fun c_217 => ?_)
          · have c_217 : (mm1 ((r * 26) + j)) = 0 := fI_eq0.mp c_217
            refine z_iinc (v := nI (r + 1)) (L' := [(0, .ref m), (1, .int (nI d)), (2, .int (nI e)), (3, .int (nI rows)), (4, .int (nI n)), (5, .long u), (7, .int (nI j)), (8, .int (nI (r + 1)))]) C d_M_solve_241 rfl (nI_add _ 1) (by decide) rfl ?_
            refine z_goto (tgt := 188) C d_M_solve_244 (by decide) ?_
            refine ih2 (r + 1) _ (by omega) (fun r' h1 h2 => ?_) H2 hz2
            rcases Nat.lt_or_ge r' r with g | g
            · exact hz r' g h2
            · have e9 : r' = r := by omega
              subst e9
              first | exact c_217 | (rw [c_229] at h2; cases h2)
          · have c_217 : ¬ (mm1 ((r * 26) + j)) = 0 := fun q => c_217 (fI_eq0.mpr q)
            refine z_lload C d_M_solve_220 rfl ?_
            refine z_iload C d_M_solve_222 rfl ?_
            refine z_lshr (v := u >>> ((nI r).toInt64 &&& 63)) C d_M_solve_224 rfl ?_
            refine z_lconst (v := 1) C d_M_solve_225 (by decide) ?_
            refine z_land C d_M_solve_226 ?_
            refine z_lconst (v := 0) C d_M_solve_227 (by decide) ?_
            refine z_lcmp C d_M_solve_228 ?_
            refine z_if_ne (tgt := 241) C d_M_solve_229 (by decide) (fun c_229 => ?_) (fun c_229 => ?_)
            · have c_229 : ub u r = true := (lcmp_b (by omega)).mp c_229
              refine z_iinc (v := nI (r + 1)) (L' := [(0, .ref m), (1, .int (nI d)), (2, .int (nI e)), (3, .int (nI rows)), (4, .int (nI n)), (5, .long u), (7, .int (nI j)), (8, .int (nI (r + 1)))]) C d_M_solve_241 rfl (nI_add _ 1) (by decide) rfl ?_
              refine z_goto (tgt := 188) C d_M_solve_244 (by decide) ?_
              refine ih2 (r + 1) _ (by omega) (fun r' h1 h2 => ?_) H2 hz2
              rcases Nat.lt_or_ge r' r with g | g
              · exact hz r' g h2
              · have e9 : r' = r := by omega
                subst e9
                first | exact c_217 | (rw [c_229] at h2; cases h2)
            · have c_229 : ub u r = false := by
                cases hb : ub u r
                · rfl
                · exact absurd ((lcmp_b (by omega)).mpr hb) (fun q => q c_229)
              refine z_aload_n C d_M_solve_232 rfl rfl ?_
              refine z_get C in_M H2.1 rfl 16 (by decide) fl_M_38 rfl rfl d_M_solve_233 ?_
              refine z_iload C d_M_solve_236 rfl ?_
              refine z_iload C d_M_solve_238 rfl ?_
              refine z_top (y := tI (r + 1)) ((tI_s r).symm) ?_
              refine z_iast C H2.2.2.2.2.2.2.2.2.2.1 0 rfl j (rfl) (by omega) (by omega) d_M_solve_240 ?_
              refine z_world (M' := zU M2 (m + 9) (.inl (E.2.1 0, 26, .inl (fun z_ => tI ((updN (updN sl1 j 0) j (r + 1)) z_))))) (congrArg (fun e => zU M2 (m + 9) (.inl (E.2.1 0, 26, .inl e))) tI_upd) ?_
              refine z_iinc (v := nI (r + 1)) (L' := [(0, .ref m), (1, .int (nI d)), (2, .int (nI e)), (3, .int (nI rows)), (4, .int (nI n)), (5, .long u), (7, .int (nI j)), (8, .int (nI (r + 1)))]) C d_M_solve_241 rfl (nI_add _ 1) (by decide) rfl ?_
              refine z_goto (tgt := 188) C d_M_solve_244 (by decide) ?_
              have es2 : updN (updN sl1 j 0) j (r + 1) j = r + 1 := updN_eq
              exact found2 r (r + 1) _ (by omega) c_217 c_229 (mw_a9 H2 (updN (updN sl1 j 0) j (r + 1))) (zoutR_tr hz2 (zo_u (by omega) (by omega))) (by omega)
      refine z_iload C d_M_solve_170 rfl ?_
      refine z_iload C d_M_solve_172 rfl ?_
      refine z_icmp_ge (tgt := 291) C d_M_solve_174 (by decide) (fun c_174 => absurd c_174 (fun q => absurd ((nI_leI (a := n) (b := j) (by omega) (by omega)).mp q) (by omega))) (fun _ => ?_)
      refine z_aload_n C d_M_solve_177 rfl rfl ?_
      refine z_get C in_M H1.1 rfl 16 (by decide) fl_M_38 rfl rfl d_M_solve_178 ?_
      refine z_iload C d_M_solve_181 rfl ?_
      refine z_iconst (v := tI 0) C d_M_solve_183 (by decide) ?_
      refine z_iast C H1.2.2.2.2.2.2.2.2.2.1 0 rfl j (rfl) (by omega) (by omega) d_M_solve_184 ?_
      refine z_world (M' := zU M1 (m + 9) (.inl (E.2.1 0, 26, .inl (fun z_ => tI ((updN sl1 j 0) z_))))) (congrArg (fun e => zU M1 (m + 9) (.inl (E.2.1 0, 26, .inl e))) tI_upd) ?_
      refine z_iconst (v := nI 0) C d_M_solve_185 (by decide) ?_
      refine z_istore (L' := [(0, .ref m), (1, .int (nI d)), (2, .int (nI e)), (3, .int (nI rows)), (4, .int (nI n)), (5, .long u), (7, .int (nI j)), (8, .int (nI 0))]) C d_M_solve_186 (by decide) rfl ?_
      exact srch rows 0 _ (by omega) (fun r' h => by omega) (mw_a9 H1 (updN sl1 j 0)) (zoutR_tr hz1 (zo_u (by omega) (by omega)))
  have ph1 : ∀ (q c : Nat) (M1 : zM), c + q = rows * 26 → mw E M1 m xln xlen xlab xbad xlev xtr xwa xpl xfo xsf xbf xF xG xP xQ (flF xmm xP xQ d n c) xsl xkd xhs xht xsg xdv → zoutR M M1 m (m + 15) → Z X E 9 (zQ X E 0 0 (fun v s M' => sz = s ∧ zoutR M M' m (m + 15) ∧ ∃ mm' sl', mw E M' m xln xlen xlab xbad xlev xtr xwa xpl xfo xsf xbf xF xG xP xQ mm' sl' xkd xhs xht xsg xdv ∧ (∀ j, j < n → sl' j ≤ rows) ∧ ((some (.int (nI 0)) = v ∧ ∀ u, ¬ sat (mat xP xQ d n) rows n u) ∨ (some (.int (nI 1)) = v ∧ sat (mat xP xQ d n) rows n (fun j => if sl' j = 0 then 0 else mm' ((sl' j - 1) * 26 + n)))))) 0 0 sz M1 10 [(0, .ref m), (1, .int (nI d)), (2, .int (nI e)), (3, .int (nI rows)), (4, .int (nI n)), (5, .int (nI c))] [] := by
    intro q
    induction q with
    | zero =>
      intro c M1 hc H1 hz1
      have hc : c = rows * 26 := by omega
      subst hc
      refine z_iload C d_M_solve_10 rfl ?_
      refine z_iload_n C d_M_solve_12 rfl rfl ?_
      refine z_bipush (v := nI 26) C d_M_solve_13 (by decide) ?_
      refine z_imul C d_M_solve_15 ?_
      refine z_top (y := nI (rows * 26)) (pk_mul _ _) ?_
      refine z_icmp_ge (tgt := 164) C d_M_solve_16 (by decide) (fun _ => ?_) (fun c_16 => absurd (Int32.le_refl _) c_16)
      refine z_lconst (v := 0) C d_M_solve_164 (by decide) ?_
      refine z_lstore (L' := [(0, .ref m), (1, .int (nI d)), (2, .int (nI e)), (3, .int (nI rows)), (4, .int (nI n)), (5, .long 0)]) C d_M_solve_165 (by decide) rfl ?_
      refine z_iconst (v := nI 0) C d_M_solve_167 (by decide) ?_
      refine z_istore (L' := [(0, .ref m), (1, .int (nI d)), (2, .int (nI e)), (3, .int (nI rows)), (4, .int (nI n)), (5, .long 0), (7, .int (nI 0))]) C d_M_solve_168 (by decide) rfl ?_
      refine ph2 n 0 0 _ _ M1 (by omega) H1 hz1 (gj_cg (fun r hr k hk => ?_) (gj_0 (fun r hr => ub_0))) (fun c hc => by omega)
      show flF xmm xP xQ d n (rows * 26) (r * 26 + k) = _
      unfold flF
      rw [if_pos (by omega), show (r * 26 + k) / 26 = r by omega, show (r * 26 + k) % 26 = k by omega]
    | succ q ih =>
      intro c M1 hc H1 hz1
      refine z_iload C d_M_solve_10 rfl ?_
      refine z_iload_n C d_M_solve_12 rfl rfl ?_
      refine z_bipush (v := nI 26) C d_M_solve_13 (by decide) ?_
      refine z_imul C d_M_solve_15 ?_
      refine z_top (y := nI (rows * 26)) (pk_mul _ _) ?_
      refine z_icmp_ge (tgt := 164) C d_M_solve_16 (by decide) (fun c_16 => absurd c_16 (fun q => absurd ((nI_leI (a := rows * 26) (b := c) (by omega) (by omega)).mp q) (by omega))) (fun _ => ?_)
      refine z_iload C d_M_solve_19 rfl ?_
      refine z_bipush (v := nI 26) C d_M_solve_21 (by decide) ?_
      refine z_idiv C d_M_solve_23 (by decide) ?_
      refine z_top (y := nI (c / 26)) (pk_div (by omega) (by decide) (by decide)) ?_
      refine z_istore (L' := [(0, .ref m), (1, .int (nI d)), (2, .int (nI e)), (3, .int (nI rows)), (4, .int (nI n)), (5, .int (nI c)), (6, .int (nI (c / 26)))]) C d_M_solve_24 (by decide) rfl ?_
      refine z_iload C d_M_solve_26 rfl ?_
      refine z_bipush (v := nI 26) C d_M_solve_28 (by decide) ?_
      refine z_irem C d_M_solve_30 (by decide) ?_
      refine z_top (y := nI (c % 26)) (pk_rem (by omega) (by decide) (by decide)) ?_
      refine z_istore (L' := [(0, .ref m), (1, .int (nI d)), (2, .int (nI e)), (3, .int (nI rows)), (4, .int (nI n)), (5, .int (nI c)), (6, .int (nI (c / 26))), (7, .int (nI (c % 26)))]) C d_M_solve_31 (by decide) rfl ?_
      refine z_iconst (v := fI 0) C d_M_solve_33 (by decide) ?_
      refine z_istore (L' := [(0, .ref m), (1, .int (nI d)), (2, .int (nI e)), (3, .int (nI rows)), (4, .int (nI n)), (5, .int (nI c)), (6, .int (nI (c / 26))), (7, .int (nI (c % 26))), (8, .int (fI 0))]) C d_M_solve_34 (by decide) rfl ?_
      refine z_iload C d_M_solve_36 rfl ?_
      refine z_iload_n C d_M_solve_38 rfl rfl ?_
      refine z_icmp_ge (tgt := 68) C d_M_solve_39 (by decide) (fun c_39 => ?_) (fun c_39 => ?_)
      · have c_39 : d ≤ (c % 26) := (nI_leI (a := d) (b := (c % 26)) (by omega) (by omega)).mp c_39
        refine z_iload C d_M_solve_68 rfl ?_
        refine z_iload C d_M_solve_70 rfl ?_
        refine z_icmp_ge (tgt := 113) C d_M_solve_72 (by decide) (fun c_72 => ?_) (fun c_72 => ?_)
        · have c_72 : n ≤ (c % 26) := (nI_leI (a := n) (b := (c % 26)) (by omega) (by omega)).mp c_72
          refine z_iload C d_M_solve_113 rfl ?_
          refine z_iload C d_M_solve_115 rfl ?_
          refine z_icmp_ne (tgt := 149) C d_M_solve_117 (by decide) (fun c_117 => ?_) (fun c_117 => ?_)
          · have c_117 : ¬ (c % 26) = n := fun q => c_117 (congrArg nI q)
            refine z_aload_n C d_M_solve_149 rfl rfl ?_
            refine z_get C in_M H1.1 rfl 15 (by decide) fl_M_35 rfl rfl d_M_solve_150 ?_
            refine z_iload C d_M_solve_153 rfl ?_
            refine z_iload C d_M_solve_155 rfl ?_
            refine z_iast C H1.2.2.2.2.2.2.2.2.1 0 rfl c (rfl) (by omega) (by omega) d_M_solve_157 ?_
            refine z_world (M' := zU M1 (m + 8) (.inl (E.2.1 0, 962, .inl (fun z_ => fI ((updF (flF xmm xP xQ d n c) c 0) z_))))) (congrArg (fun e => zU M1 (m + 8) (.inl (E.2.1 0, 962, .inl e))) fI_upd) ?_
            refine z_iinc (v := nI (c + 1)) (L' := [(0, .ref m), (1, .int (nI d)), (2, .int (nI e)), (3, .int (nI rows)), (4, .int (nI n)), (5, .int (nI (c + 1))), (6, .int (nI (c / 26))), (7, .int (nI (c % 26))), (8, .int (fI 0))]) C d_M_solve_158 rfl (nI_add _ 1) (by decide) rfl ?_
            refine z_goto (tgt := 10) C d_M_solve_161 (by decide) ?_
            refine z_sub [0, 1, 2, 3, 4, 5] rfl ?_
            refine ih (c + 1) _ (by omega) ?_ (zoutR_tr hz1 (zo_u (by omega) (by omega)))
            rw [← flF_s (v := 0) (by
              unfold mat
              (repeat' split) <;> first | rfl | omega | (congr 1; omega) | (congr 2; omega))]
            exact (mw_a8 H1 (updF (flF xmm xP xQ d n c) c 0))
          · have c_117 : (c % 26) = n := (nI_eq (a := (c % 26)) (b := n) (by omega) (by omega)).mp c_117
            refine z_iload C d_M_solve_120 rfl ?_
            refine z_iload_n C d_M_solve_122 rfl rfl ?_
            refine z_icmp_lt (tgt := 146) C d_M_solve_123 (by decide) (fun c_123 => ?_) (fun c_123 => ?_)
            · have c_123 : (c / 26) < d := (nI_ltI (a := (c / 26)) (b := d) (by omega) (by omega)).mp c_123
              refine z_iconst (v := fI 0) C d_M_solve_146 (by decide) ?_
              refine z_istore (L' := [(0, .ref m), (1, .int (nI d)), (2, .int (nI e)), (3, .int (nI rows)), (4, .int (nI n)), (5, .int (nI c)), (6, .int (nI (c / 26))), (7, .int (nI (c % 26))), (8, .int (fI 0))]) C d_M_solve_147 (by decide) rfl ?_
              refine z_aload_n C d_M_solve_149 rfl rfl ?_
              refine z_get C in_M H1.1 rfl 15 (by decide) fl_M_35 rfl rfl d_M_solve_150 ?_
              refine z_iload C d_M_solve_153 rfl ?_
              refine z_iload C d_M_solve_155 rfl ?_
              refine z_iast C H1.2.2.2.2.2.2.2.2.1 0 rfl c (rfl) (by omega) (by omega) d_M_solve_157 ?_
              refine z_world (M' := zU M1 (m + 8) (.inl (E.2.1 0, 962, .inl (fun z_ => fI ((updF (flF xmm xP xQ d n c) c 0) z_))))) (congrArg (fun e => zU M1 (m + 8) (.inl (E.2.1 0, 962, .inl e))) fI_upd) ?_
              refine z_iinc (v := nI (c + 1)) (L' := [(0, .ref m), (1, .int (nI d)), (2, .int (nI e)), (3, .int (nI rows)), (4, .int (nI n)), (5, .int (nI (c + 1))), (6, .int (nI (c / 26))), (7, .int (nI (c % 26))), (8, .int (fI 0))]) C d_M_solve_158 rfl (nI_add _ 1) (by decide) rfl ?_
              refine z_goto (tgt := 10) C d_M_solve_161 (by decide) ?_
              refine z_sub [0, 1, 2, 3, 4, 5] rfl ?_
              refine ih (c + 1) _ (by omega) ?_ (zoutR_tr hz1 (zo_u (by omega) (by omega)))
              rw [← flF_s (v := 0) (by
                unfold mat
                (repeat' split) <;> first | rfl | omega | (congr 1; omega) | (congr 2; omega))]
              exact (mw_a8 H1 (updF (flF xmm xP xQ d n c) c 0))
            · have c_123 : d ≤ (c / 26) := Nat.not_lt.mp (fun q => c_123 ((nI_ltI (a := (c / 26)) (b := d) (by omega) (by omega)).mpr q))
              refine z_sipush (v := nI 10007) C d_M_solve_126 (by decide) ?_
              refine z_aload_n C d_M_solve_129 rfl rfl ?_
              refine z_get C in_M H1.1 rfl 13 (by decide) fl_M_29 rfl rfl d_M_solve_130 ?_
              refine z_iload C d_M_solve_133 rfl ?_
              refine z_iload_n C d_M_solve_135 rfl rfl ?_
              refine z_isub C d_M_solve_136 ?_
              refine z_top (y := nI ((c / 26) - d)) (pk_sub (by omega)) ?_
              refine z_iald C H1.2.2.2.2.2.2.1 0 rfl ((c / 26) - d) (rfl) (by omega) (by omega) d_M_solve_137 ?_
              refine z_top (y := fI (xP ((c / 26) - d))) rfl ?_
              refine z_isub C d_M_solve_138 ?_
              refine z_sipush (v := nI 10007) C d_M_solve_139 (by decide) ?_
              refine z_irem C d_M_solve_142 (by decide) ?_
              refine z_top (y := fI (- (xP ((c / 26) - d)))) (fI_negm _) ?_
              refine z_goto (tgt := 147) C d_M_solve_143 (by decide) ?_
              refine z_istore (L' := [(0, .ref m), (1, .int (nI d)), (2, .int (nI e)), (3, .int (nI rows)), (4, .int (nI n)), (5, .int (nI c)), (6, .int (nI (c / 26))), (7, .int (nI (c % 26))), (8, .int (fI (- (xP ((c / 26) - d)))))]) C d_M_solve_147 (by decide) rfl ?_
              refine z_aload_n C d_M_solve_149 rfl rfl ?_
              refine z_get C in_M H1.1 rfl 15 (by decide) fl_M_35 rfl rfl d_M_solve_150 ?_
              refine z_iload C d_M_solve_153 rfl ?_
              refine z_iload C d_M_solve_155 rfl ?_
              refine z_iast C H1.2.2.2.2.2.2.2.2.1 0 rfl c (rfl) (by omega) (by omega) d_M_solve_157 ?_
              refine z_world (M' := zU M1 (m + 8) (.inl (E.2.1 0, 962, .inl (fun z_ => fI ((updF (flF xmm xP xQ d n c) c (- (xP ((c / 26) - d)))) z_))))) (congrArg (fun e => zU M1 (m + 8) (.inl (E.2.1 0, 962, .inl e))) fI_upd) ?_
              refine z_iinc (v := nI (c + 1)) (L' := [(0, .ref m), (1, .int (nI d)), (2, .int (nI e)), (3, .int (nI rows)), (4, .int (nI n)), (5, .int (nI (c + 1))), (6, .int (nI (c / 26))), (7, .int (nI (c % 26))), (8, .int (fI (- (xP ((c / 26) - d)))))]) C d_M_solve_158 rfl (nI_add _ 1) (by decide) rfl ?_
              refine z_goto (tgt := 10) C d_M_solve_161 (by decide) ?_
              refine z_sub [0, 1, 2, 3, 4, 5] rfl ?_
              refine ih (c + 1) _ (by omega) ?_ (zoutR_tr hz1 (zo_u (by omega) (by omega)))
              rw [← flF_s (v := (- (xP ((c / 26) - d)))) (by
                unfold mat
                (repeat' split) <;> first | rfl | omega | (congr 1; omega) | (congr 2; omega))]
              exact (mw_a8 H1 (updF (flF xmm xP xQ d n c) c (- (xP ((c / 26) - d)))))
        · have c_72 : (c % 26) < n := Nat.not_le.mp (fun q => c_72 ((nI_leI (a := n) (b := (c % 26)) (by omega) (by omega)).mpr q))
          refine z_iload C d_M_solve_75 rfl ?_
          refine z_iload C d_M_solve_77 rfl ?_
          refine z_iload_n C d_M_solve_79 rfl rfl ?_
          refine z_isub C d_M_solve_80 ?_
          refine z_top (y := nI ((c % 26) - d)) (pk_sub (by omega)) ?_
          refine z_icmp_lt (tgt := 107) C d_M_solve_81 (by decide) (fun c_81 => ?_) (fun c_81 => ?_)
          · have c_81 : (c / 26) < ((c % 26) - d) := (nI_ltI (a := (c / 26)) (b := ((c % 26) - d)) (by omega) (by omega)).mp c_81
            refine z_iconst (v := fI 0) C d_M_solve_107 (by decide) ?_
            refine z_istore (L' := [(0, .ref m), (1, .int (nI d)), (2, .int (nI e)), (3, .int (nI rows)), (4, .int (nI n)), (5, .int (nI c)), (6, .int (nI (c / 26))), (7, .int (nI (c % 26))), (8, .int (fI 0))]) C d_M_solve_108 (by decide) rfl ?_
            refine z_goto (tgt := 149) C d_M_solve_110 (by decide) ?_
            refine z_aload_n C d_M_solve_149 rfl rfl ?_
            refine z_get C in_M H1.1 rfl 15 (by decide) fl_M_35 rfl rfl d_M_solve_150 ?_
            refine z_iload C d_M_solve_153 rfl ?_
            refine z_iload C d_M_solve_155 rfl ?_
            refine z_iast C H1.2.2.2.2.2.2.2.2.1 0 rfl c (rfl) (by omega) (by omega) d_M_solve_157 ?_
            refine z_world (M' := zU M1 (m + 8) (.inl (E.2.1 0, 962, .inl (fun z_ => fI ((updF (flF xmm xP xQ d n c) c 0) z_))))) (congrArg (fun e => zU M1 (m + 8) (.inl (E.2.1 0, 962, .inl e))) fI_upd) ?_
            refine z_iinc (v := nI (c + 1)) (L' := [(0, .ref m), (1, .int (nI d)), (2, .int (nI e)), (3, .int (nI rows)), (4, .int (nI n)), (5, .int (nI (c + 1))), (6, .int (nI (c / 26))), (7, .int (nI (c % 26))), (8, .int (fI 0))]) C d_M_solve_158 rfl (nI_add _ 1) (by decide) rfl ?_
            refine z_goto (tgt := 10) C d_M_solve_161 (by decide) ?_
            refine z_sub [0, 1, 2, 3, 4, 5] rfl ?_
            refine ih (c + 1) _ (by omega) ?_ (zoutR_tr hz1 (zo_u (by omega) (by omega)))
            rw [← flF_s (v := 0) (by
              unfold mat
              (repeat' split) <;> first | rfl | omega | (congr 1; omega) | (congr 2; omega))]
            exact (mw_a8 H1 (updF (flF xmm xP xQ d n c) c 0))
          · have c_81 : ((c % 26) - d) ≤ (c / 26) := Nat.not_lt.mp (fun q => c_81 ((nI_ltI (a := (c / 26)) (b := ((c % 26) - d)) (by omega) (by omega)).mpr q))
            refine z_sipush (v := nI 10007) C d_M_solve_84 (by decide) ?_
            refine z_aload_n C d_M_solve_87 rfl rfl ?_
            refine z_get C in_M H1.1 rfl 14 (by decide) fl_M_32 rfl rfl d_M_solve_88 ?_
            refine z_iload C d_M_solve_91 rfl ?_
            refine z_iload C d_M_solve_93 rfl ?_
            refine z_isub C d_M_solve_95 ?_
            refine z_top (y := nI (c / 26) - nI (c % 26)) (rfl) ?_
            refine z_iload_n C d_M_solve_96 rfl rfl ?_
            refine z_iadd C d_M_solve_97 ?_
            refine z_top (y := nI (c / 26 + d - c % 26)) (nI_sad (by omega)) ?_
            refine z_iald C H1.2.2.2.2.2.2.2.1 0 rfl (c / 26 + d - c % 26) (rfl) (by omega) (by omega) d_M_solve_98 ?_
            refine z_top (y := fI (xQ (c / 26 + d - c % 26))) rfl ?_
            refine z_isub C d_M_solve_99 ?_
            refine z_sipush (v := nI 10007) C d_M_solve_100 (by decide) ?_
            refine z_irem C d_M_solve_103 (by decide) ?_
            refine z_top (y := fI (- (xQ (c / 26 + d - c % 26)))) (fI_negm _) ?_
            refine z_goto (tgt := 108) C d_M_solve_104 (by decide) ?_
            refine z_istore (L' := [(0, .ref m), (1, .int (nI d)), (2, .int (nI e)), (3, .int (nI rows)), (4, .int (nI n)), (5, .int (nI c)), (6, .int (nI (c / 26))), (7, .int (nI (c % 26))), (8, .int (fI (- (xQ (c / 26 + d - c % 26)))))]) C d_M_solve_108 (by decide) rfl ?_
            refine z_goto (tgt := 149) C d_M_solve_110 (by decide) ?_
            refine z_aload_n C d_M_solve_149 rfl rfl ?_
            refine z_get C in_M H1.1 rfl 15 (by decide) fl_M_35 rfl rfl d_M_solve_150 ?_
            refine z_iload C d_M_solve_153 rfl ?_
            refine z_iload C d_M_solve_155 rfl ?_
            refine z_iast C H1.2.2.2.2.2.2.2.2.1 0 rfl c (rfl) (by omega) (by omega) d_M_solve_157 ?_
            refine z_world (M' := zU M1 (m + 8) (.inl (E.2.1 0, 962, .inl (fun z_ => fI ((updF (flF xmm xP xQ d n c) c (- (xQ (c / 26 + d - c % 26)))) z_))))) (congrArg (fun e => zU M1 (m + 8) (.inl (E.2.1 0, 962, .inl e))) fI_upd) ?_
            refine z_iinc (v := nI (c + 1)) (L' := [(0, .ref m), (1, .int (nI d)), (2, .int (nI e)), (3, .int (nI rows)), (4, .int (nI n)), (5, .int (nI (c + 1))), (6, .int (nI (c / 26))), (7, .int (nI (c % 26))), (8, .int (fI (- (xQ (c / 26 + d - c % 26)))))]) C d_M_solve_158 rfl (nI_add _ 1) (by decide) rfl ?_
            refine z_goto (tgt := 10) C d_M_solve_161 (by decide) ?_
            refine z_sub [0, 1, 2, 3, 4, 5] rfl ?_
            refine ih (c + 1) _ (by omega) ?_ (zoutR_tr hz1 (zo_u (by omega) (by omega)))
            rw [← flF_s (v := (- (xQ (c / 26 + d - c % 26)))) (by
              unfold mat
              (repeat' split) <;> first | rfl | omega | (congr 1; omega) | (congr 2; omega))]
            exact (mw_a8 H1 (updF (flF xmm xP xQ d n c) c (- (xQ (c / 26 + d - c % 26)))))
      · have c_39 : (c % 26) < d := Nat.not_le.mp (fun q => c_39 ((nI_leI (a := d) (b := (c % 26)) (by omega) (by omega)).mpr q))
        refine z_iload C d_M_solve_42 rfl ?_
        refine z_iload C d_M_solve_44 rfl ?_
        refine z_icmp_lt (tgt := 62) C d_M_solve_46 (by decide) (fun c_46 => ?_) (fun c_46 => ?_)
        · have c_46 : (c / 26) < (c % 26) := (nI_ltI (a := (c / 26)) (b := (c % 26)) (by omega) (by omega)).mp c_46
          refine z_iconst (v := fI 0) C d_M_solve_62 (by decide) ?_
          refine z_istore (L' := [(0, .ref m), (1, .int (nI d)), (2, .int (nI e)), (3, .int (nI rows)), (4, .int (nI n)), (5, .int (nI c)), (6, .int (nI (c / 26))), (7, .int (nI (c % 26))), (8, .int (fI 0))]) C d_M_solve_63 (by decide) rfl ?_
          refine z_goto (tgt := 149) C d_M_solve_65 (by decide) ?_
          refine z_aload_n C d_M_solve_149 rfl rfl ?_
          refine z_get C in_M H1.1 rfl 15 (by decide) fl_M_35 rfl rfl d_M_solve_150 ?_
          refine z_iload C d_M_solve_153 rfl ?_
          refine z_iload C d_M_solve_155 rfl ?_
          refine z_iast C H1.2.2.2.2.2.2.2.2.1 0 rfl c (rfl) (by omega) (by omega) d_M_solve_157 ?_
          refine z_world (M' := zU M1 (m + 8) (.inl (E.2.1 0, 962, .inl (fun z_ => fI ((updF (flF xmm xP xQ d n c) c 0) z_))))) (congrArg (fun e => zU M1 (m + 8) (.inl (E.2.1 0, 962, .inl e))) fI_upd) ?_
          refine z_iinc (v := nI (c + 1)) (L' := [(0, .ref m), (1, .int (nI d)), (2, .int (nI e)), (3, .int (nI rows)), (4, .int (nI n)), (5, .int (nI (c + 1))), (6, .int (nI (c / 26))), (7, .int (nI (c % 26))), (8, .int (fI 0))]) C d_M_solve_158 rfl (nI_add _ 1) (by decide) rfl ?_
          refine z_goto (tgt := 10) C d_M_solve_161 (by decide) ?_
          refine z_sub [0, 1, 2, 3, 4, 5] rfl ?_
          refine ih (c + 1) _ (by omega) ?_ (zoutR_tr hz1 (zo_u (by omega) (by omega)))
          rw [← flF_s (v := 0) (by
            unfold mat
            (repeat' split) <;> first | rfl | omega | (congr 1; omega) | (congr 2; omega))]
          exact (mw_a8 H1 (updF (flF xmm xP xQ d n c) c 0))
        · have c_46 : (c % 26) ≤ (c / 26) := Nat.not_lt.mp (fun q => c_46 ((nI_ltI (a := (c / 26)) (b := (c % 26)) (by omega) (by omega)).mpr q))
          refine z_aload_n C d_M_solve_49 rfl rfl ?_
          refine z_get C in_M H1.1 rfl 13 (by decide) fl_M_29 rfl rfl d_M_solve_50 ?_
          refine z_iload C d_M_solve_53 rfl ?_
          refine z_iload C d_M_solve_55 rfl ?_
          refine z_isub C d_M_solve_57 ?_
          refine z_top (y := nI ((c / 26) - (c % 26))) (pk_sub (by omega)) ?_
          refine z_iald C H1.2.2.2.2.2.2.1 0 rfl ((c / 26) - (c % 26)) (rfl) (by omega) (by omega) d_M_solve_58 ?_
          refine z_top (y := fI (xP ((c / 26) - (c % 26)))) rfl ?_
          refine z_goto (tgt := 63) C d_M_solve_59 (by decide) ?_
          refine z_istore (L' := [(0, .ref m), (1, .int (nI d)), (2, .int (nI e)), (3, .int (nI rows)), (4, .int (nI n)), (5, .int (nI c)), (6, .int (nI (c / 26))), (7, .int (nI (c % 26))), (8, .int (fI (xP ((c / 26) - (c % 26)))))]) C d_M_solve_63 (by decide) rfl ?_
          refine z_goto (tgt := 149) C d_M_solve_65 (by decide) ?_
          refine z_aload_n C d_M_solve_149 rfl rfl ?_
          refine z_get C in_M H1.1 rfl 15 (by decide) fl_M_35 rfl rfl d_M_solve_150 ?_
          refine z_iload C d_M_solve_153 rfl ?_
          refine z_iload C d_M_solve_155 rfl ?_
          refine z_iast C H1.2.2.2.2.2.2.2.2.1 0 rfl c (rfl) (by omega) (by omega) d_M_solve_157 ?_
          refine z_world (M' := zU M1 (m + 8) (.inl (E.2.1 0, 962, .inl (fun z_ => fI ((updF (flF xmm xP xQ d n c) c (xP ((c / 26) - (c % 26)))) z_))))) (congrArg (fun e => zU M1 (m + 8) (.inl (E.2.1 0, 962, .inl e))) fI_upd) ?_
          refine z_iinc (v := nI (c + 1)) (L' := [(0, .ref m), (1, .int (nI d)), (2, .int (nI e)), (3, .int (nI rows)), (4, .int (nI n)), (5, .int (nI (c + 1))), (6, .int (nI (c / 26))), (7, .int (nI (c % 26))), (8, .int (fI (xP ((c / 26) - (c % 26)))))]) C d_M_solve_158 rfl (nI_add _ 1) (by decide) rfl ?_
          refine z_goto (tgt := 10) C d_M_solve_161 (by decide) ?_
          refine z_sub [0, 1, 2, 3, 4, 5] rfl ?_
          refine ih (c + 1) _ (by omega) ?_ (zoutR_tr hz1 (zo_u (by omega) (by omega)))
          rw [← flF_s (v := (xP ((c / 26) - (c % 26)))) (by
            unfold mat
            (repeat' split) <;> first | rfl | omega | (congr 1; omega) | (congr 2; omega))]
          exact (mw_a8 H1 (updF (flF xmm xP xQ d n c) c (xP ((c / 26) - (c % 26)))))
  show Z X E 9 _ 0 0 sz M 0 [(0, .ref m), (1, .int (nI d)), (2, .int (nI e)), (3, .int (nI rows))] []
  refine z_iload_n C d_M_solve_0 rfl rfl ?_
  refine z_iload_n C d_M_solve_1 rfl rfl ?_
  refine z_iadd C d_M_solve_2 ?_
  refine z_top (y := nI (d + e)) (nI_add _ _) ?_
  refine z_iconst (v := nI 1) C d_M_solve_3 (by decide) ?_
  refine z_iadd C d_M_solve_4 ?_
  refine z_top (y := nI ((d + e) + 1)) (nI_add _ _) ?_
  refine z_top (y := nI n) (by rw [hn]) ?_
  refine z_istore (L' := [(0, .ref m), (1, .int (nI d)), (2, .int (nI e)), (3, .int (nI rows)), (4, .int (nI n))]) C d_M_solve_5 (by decide) rfl ?_
  refine z_iconst (v := nI 0) C d_M_solve_7 (by decide) ?_
  refine z_istore (L' := [(0, .ref m), (1, .int (nI d)), (2, .int (nI e)), (3, .int (nI rows)), (4, .int (nI n)), (5, .int (nI 0))]) C d_M_solve_8 (by decide) rfl ?_
  exact ph1 (rows * 26) 0 M (by omega) (by rw [flF_0]; exact H) zoutR_rf
