set_option maxHeartbeats 4000000 in
theorem law_go {X : zX} {E : zE} {Q : State → Prop} {b n B : Nat} {xs : Nat → Int32} (C : zC X E code R_law 4 (some .boolean) room_1) (hX : va_X b n xs X.2.2.2.2.1 X.2.2.2.2.1.heap) (hbl : b < X.2.2.2.2.1.heap.size) (hbA : ¬ E.2.2.1 b) (hn : n ≤ 2048) (hend : ∀ (sz : Nat) (M' : zM) (L : List (Nat × Value)), Z X E 4 Q 400 6000 sz M' 509 L []) : Z X E 4 Q 0 0 B (fun _ => none) 0 [(0, .ref b)] [] := by
  refine z_new (ci := 0) (fs := [.null, .null, .null, .null, .null, .null, .int 0]) C in_S ty_S tok_S cl_Lw_7 in_S_made ii_S rfl dflt_S (Nat.le_of_ble_eq_true rfl) (Nat.le_of_ble_eq_true rfl) d_Lw_law_0 ?_
  refine z_dup C d_Lw_law_3 rfl ?_
  refine z_callI (rest := [.ref B]) (n := 0) (As := []) (b := B) C (s_init E X.2.1 _ zU_eq) ⟨z_cb C k_S_init ml_Lw_9 ii_S rfl rfl (by decide +kernel) ⟨by decide, by decide⟩, rfl, C.2.2.2.2.1 _ im_S_init⟩ rfl rfl (Nat.le_of_ble_eq_true rfl) d_Lw_law_4 ⟨by decide, by decide⟩ ?_
  intro v1 s1 M1 hp
  obtain ⟨rfl, rfl, hs, -⟩ := hp
  show Z _ _ _ _ _ _ _ _ 7 _ [.ref B]
  refine z_astore_n (L' := [(0, .ref b), (1, .ref B)]) C d_Lw_law_7 rfl (by decide) rfl ?_
  refine z_new (ci := 10) (fs := [.null, .int 0, .int 0, .int 0, .int 0, .int 0, .int 0, .int 0, .int 0, .null, .null, .null, .null, .null, .null, .null, .null, .null, .null, .null, .null, .null]) C in_M ty_M tok_M cl_Lw_10 in_M_made ii_M rfl dflt_M (Nat.le_of_ble_eq_true rfl) (Nat.le_of_ble_eq_true rfl) d_Lw_law_8 ?_
  obtain ⟨N1, hN1⟩ : ∃ N : zM, N = zU M1 (B + 312) (.inr (10, [.null, .int 0, .int 0, .int 0, .int 0, .int 0, .int 0, .int 0, .int 0, .null, .null, .null, .null, .null, .null, .null, .null, .null, .null, .null, .null, .null])) := ⟨_, rfl⟩
  have ho1 : zoutR M1 N1 (B + 312) (B + 313) := by rw [hN1]; exact fun q hq => zU_ne (by omega)
  have hs := zse_o hs ho1 (by omega)
  refine z_world (M' := N1) hN1.symm ?_
  refine z_dup C d_Lw_law_11 rfl ?_
  refine z_callI (rest := [.ref (B + 312)]) (n := 0) (As := []) (b := B + 312) C (m_init E X.2.1 _ (by rw [hN1]; exact zU_eq)) ⟨z_cb C k_M_init ml_Lw_12 ii_M rfl rfl (by decide +kernel) ⟨by decide, by decide⟩, rfl, C.2.2.2.2.1 _ im_M_init⟩ rfl rfl (Nat.le_of_ble_eq_true rfl) d_Lw_law_12 ⟨by decide, by decide⟩ ?_
  intro v2 s2 M2 hp
  obtain ⟨rfl, rfl, hr, ho2⟩ := hp
  have hs := zse_o hs ho2 (by omega)
  show Z _ _ _ _ _ _ _ _ 15 _ [.ref (B + 312)]
  refine z_astore_n (L' := [(0, .ref b), (1, .ref B), (2, .ref (B + 312))]) C d_Lw_law_15 rfl (by decide) rfl ?_
  refine z_iconst (v := nI 0) C d_Lw_law_16 (by decide) ?_
  refine z_istore_n (L' := [(0, .ref b), (1, .ref B), (2, .ref (B + 312)), (3, .int (nI 0))]) C d_Lw_law_17 rfl (by decide) rfl ?_
  refine z_widen (k := 400) (n := 6000) (Nat.le_of_ble_eq_true rfl) (Nat.le_of_ble_eq_true rfl) ?_
  exact law_loop C hX hbl hbA hn rfl (hend _) n 0 (by omega) (by omega) _ _ hs hr
/-- an array class of numbers, as the tables have it -/
theorem law_arr {args : Array Value} {s : State} {ty : FieldType} (h : (Cond.arrayClass ty).before args s = true) (hty : ∀ C, ty ≠ .object C) : ∃ cA : ClassId, ArrOfT s cA ty ∧ va_RA s cA ty := by
  obtain ⟨cA, kA, comp, h1, h2, h3⟩ := Cond.arrayClass_spec h
  refine ⟨cA, fun n z => ⟨(fun k h => by cases h), kA, h2, comp, h3⟩, ?_⟩
  cases ty with
  | object C => exact absurd rfl (hty C)
  | _ => exact h1
theorem law_arrO {args : Array Value} {s : State} {C : String} (h : (Cond.arrayOver (.object C)).before args s = true) : ∃ cA : ClassId, ArrOfT s cA (.object C) ∧ va_RA s cA (.object C) := by
  obtain ⟨comp, cA, kA, h1, -, h2, h3, h4⟩ := Cond.arrayOver_spec h
  exact ⟨cA, fun n z => ⟨(fun k h => by cases h), kA, h2, comp, h3⟩, kA, comp, h2, h3, h1, h4⟩
theorem law_str {args : Array Value} {s : State} {A : Nat → Prop} (hgv : (Jvm.Cond.and given_1 narrow_1).before args s = true) (hA : ∀ a : Nat, a < s.heap.size → ¬ A a) : ∃ adK adV : Nat → Nat, vk_S 1 [26] [zBy] adK adV A s s.heap ∧ (Term.string "RationalSession$Line" 19).eval args s none [] s = some (.ref (adK 0)) := by
  have hs := flat_of_before _ hgv
  obtain ⟨adK, adV, h1, h2⟩ := vk_Sof (args := args) (s := s) (N := 1) (tm := fun _ => Term.string "RationalSession$Line" 19) (len := [26]) (byt := [zBy]) (A := A) (fun i hi => by rw [show i = 0 by omega]; decide) (fun i hi => hs _ (by decide +kernel)) (fun i hi => hs _ (by decide +kernel)) (fun i hi => hs _ (by decide +kernel)) (fun i hi => by rw [show i = 0 by omega]; exact hs _ (by decide +kernel)) (fun i hi => by
    rw [show i = 0 by omega]
    intro j hj
    have hj : j < 26 := hj
    rcases (by omega : j = 0 ∨ j = 1 ∨ j = 2 ∨ j = 3 ∨ j = 4 ∨ j = 5 ∨ j = 6 ∨ j = 7 ∨ j = 8 ∨ j = 9 ∨ j = 10 ∨ j = 11 ∨ j = 12 ∨ j = 13 ∨ j = 14 ∨ j = 15 ∨ j = 16 ∨ j = 17 ∨ j = 18 ∨ j = 19 ∨ j = 20 ∨ j = 21 ∨ j = 22 ∨ j = 23 ∨ j = 24 ∨ j = 25) with e | e | e | e | e | e | e | e | e | e | e | e | e | e | e | e | e | e | e | e | e | e | e | e | e | e <;> (subst e; exact hs _ (by decide +kernel))) (fun i j hi hj hij => absurd (by omega) hij) hA
  exact ⟨adK, adV, h1, h2 0 (by decide)⟩
set_option maxHeartbeats 4000000 in
set_option maxRecDepth 100000 in
/-- THE LAW, from its entry -/
theorem whole_start {p : Program} {e : Env} {s : State} {m : MethodId} {below : List Frame} {meth : Method} {c : Code} (l : Launch) {b L : Nat} {xs : Nat → Int32} (hL : L ≤ 2048) (C0 : lw_At p s m meth c b L xs) : W p l e room_1 s m #[Value.ref b] below meth c s.heap [] 0 0 (lw_Z below #[Value.ref b] s) (entryFrame m ([Value.ref b] : List Value).toArray 4) := by
  obtain ⟨hx, hb, hr, hml, hown, hts, hX, hbl, hlocks, hgv⟩ := id C0
  have hw : ∀ w ∈ zWS, w.before #[Value.ref b] s = true := fun w h => hts w (List.mem_filter.mp h).1
  have hA : ∀ a : Nat, a < s.heap.size → ¬ (fun q : Nat => s.heap.size ≤ q) a := fun a h => Nat.not_le.mpr h
  obtain ⟨c0, i0, k0⟩ := u_known (C := R_S) (T := T_S) (N := 7) (n := 7) hw in_S (hw _ in_S_made)
  obtain ⟨c1, i1, k1⟩ := u_known (C := R_F) (T := T_F) (N := 2) (n := 2) hw in_F (hw _ in_F_made)
  obtain ⟨c2, i2, k2⟩ := u_known (C := R_L) (T := T_L) (N := 2) (n := 2) hw in_L (hw _ in_L_made)
  obtain ⟨c3, i3, k3⟩ := u_known (C := R_P) (T := T_P) (N := 2) (n := 2) hw in_P (hw _ in_P_made)
  obtain ⟨c4, i4, k4⟩ := u_known (C := R_G) (T := T_G) (N := 4) (n := 4) hw in_G (hw _ in_G_made)
  obtain ⟨c5, i5, k5⟩ := u_known (C := R_R) (T := T_R) (N := 11) (n := 11) hw in_R (hw _ in_R_made)
  obtain ⟨c6, i6, k6⟩ := u_known (C := R_H) (T := T_H) (N := 5) (n := 5) hw in_H (hw _ in_H_made)
  obtain ⟨c7, i7, k7⟩ := u_known (C := R_T) (T := T_T) (N := 3) (n := 3) hw in_T (hw _ in_T_made)
  obtain ⟨c8, i8, k8⟩ := u_known (C := R_K) (T := T_K) (N := 3) (n := 3) hw in_K (hw _ in_K_made)
  obtain ⟨c9, i9, k9⟩ := u_known (C := R_W) (T := T_W) (N := 7) (n := 7) hw in_W (hw _ in_W_made)
  obtain ⟨c10, i10, k10⟩ := u_known (C := R_M) (T := T_M) (N := 22) (n := 22) hw in_M (hw _ in_M_made)
  obtain ⟨aI, rI⟩ := law_arr (hw _ ac_int) (fun _ h => by cases h)
  obtain ⟨aC, rC⟩ := law_arr (hw _ ac_char) (fun _ h => by cases h)
  obtain ⟨aZ, rZ⟩ := law_arr (hw _ ac_boolean) (fun _ h => by cases h)
  have hOv : (Cond.arrayOver (.object "RationalSession$Form")).before #[Value.ref b] s = true := hts _ (by decide +kernel)
  obtain ⟨aQ, rQ⟩ := law_arrO hOv
  obtain ⟨adK, adV, hS1, hS2⟩ := law_str (A := fun q : Nat => s.heap.size ≤ q) hgv hA
  obtain ⟨dC, dI, hKc⟩ : ∃ (dC : Nat → ClassId) (dI : Nat → Nat → Nat), ∀ (k : Nat) (q : vw_C), vwCl[k]? = some q → u_Kn s q.1 q.2.1 q.2.2 (dC k) (dI k) := by
    refine ⟨fun k => [c0, c1, c2, c3, c4, c5, c6, c7, c8, c9, c10].getD k c0, fun k => [i0, i1, i2, i3, i4, i5, i6, i7, i8, i9, i10].getD k i0, ?_⟩
    intro k q hq
    match k, hq with
    | 0, hq => cases hq; exact k0
    | 1, hq => cases hq; exact k1
    | 2, hq => cases hq; exact k2
    | 3, hq => cases hq; exact k3
    | 4, hq => cases hq; exact k4
    | 5, hq => cases hq; exact k5
    | 6, hq => cases hq; exact k6
    | 7, hq => cases hq; exact k7
    | 8, hq => cases hq; exact k8
    | 9, hq => cases hq; exact k9
    | 10, hq => cases hq; exact k10
    | k + 11, hq => simp [vwCl] at hq
  obtain ⟨tA, ht0, ht1, ht2, ht3⟩ : ∃ tA : Nat → ClassId, (ArrOfT s (tA 0) .int ∧ va_RA s (tA 0) .int) ∧ (ArrOfT s (tA 1) .char ∧ va_RA s (tA 1) .char) ∧ (ArrOfT s (tA 2) .boolean ∧ va_RA s (tA 2) .boolean) ∧ (ArrOfT s (tA 3) (.object "RationalSession$Form") ∧ va_RA s (tA 3) (.object "RationalSession$Form")) := ⟨fun k => [aI, aC, aZ, aQ].getD k aI, rI, rC, rZ, rQ⟩
  have hK : va_K (dC, dI) vwCl (zTy tA) s := by
    refine ⟨hKc, fun k q hq => ?_⟩
    match k, hq with
    | 0, hq => cases hq; exact ht0
    | 1, hq => cases hq; exact ht1
    | 2, hq => cases hq; exact ht2
    | 3, hq => cases hq; exact ht3
    | k + 4, hq => simp [zTy] at hq
  have hJ : zJ ((dC, dI), tA, (fun q : Nat => s.heap.size ≤ q), adK, adV) s := by
    refine ⟨fun w h => va_Nw.of (zN_tab h) (hts w (List.mem_append_right _ (List.mem_filter.mp h).1)), fun C h => ?_, vk_R.of (hts (.stringRef "RationalSession$Line" 19 zTx) (by decide +kernel)) hS2, hS1, va_Zof (hts (.laysStatic "java/lang/String" "COMPACT_STRINGS" "Z") (by decide +kernel)) (hts (.initialized "java/lang/String") (by decide +kernel)) (va_eqt (flat_of_before _ hgv _ (by decide +kernel))) hA⟩
    rw [List.mem_singleton.mp h]
    exact va_AO.of hOv
  have C : zC (p, l, e, room_1, s, m, #[Value.ref b], below, meth, c) ((dC, dI), tA, (fun q : Nat => s.heap.size ≤ q), adK, adV) code R_law 4 (some .boolean) room_1 := ⟨hx, hb, hml, hown, hw, hK, fun _ h => h, hlocks, hr, rfl, hJ⟩
  have hl := lv_entry ([.ref b]) (n := 4) (Nat.le_of_ble_eq_true rfl)
  rw [lg_entry_eq]
  generalize (lg_sl ([.ref b]) ++ List.replicate (4 - (lg_sl ([.ref b])).length) Slot.unset).toArray = ls at hl ⊢
  have hl : lv_has ls 4 [(0, .ref b)] := hl
  have hend : ∀ (sz : Nat) (M' : zM) (Lo : List (Nat × Value)), Z (p, l, e, room_1, s, m, #[Value.ref b], below, meth, c) ((dC, dI), tA, (fun q : Nat => s.heap.size ≤ q), adK, adV) 4 (lw_Z below #[Value.ref b] s) 400 6000 sz M' 509 Lo [] := by
    intro sz M' Lo
    refine z_iconst (v := 1) C d_Lw_law_509 (by decide) ?_
    intro H locs ls h1 h2 h3 h4
    exact va_forget (fun q hq => h3.2.2 q hq) (W.widen (k := 600000) (n := 7302250) (by decide) (by decide) (lw_ret hx hb hr hlocks d_Lw_law_510))
  exact law_go (B := s.heap.size) C hX hbl (Nat.not_le.mpr hbl) hL hend s.heap [] ls rfl (fun a e h => by cases h) va_S.rf hl
-- ===== YOUR PART ENDS =====
set_option maxHeartbeats 4000000 in
theorem lw_walk (l : Launch) (b : Addr) (xs : List Int32) : MetFree l x (headSpec (Jvm.Cond.code x code maxLocals ret :: tables_1) room_1) (lw_P b xs) (fun _ _ _ _ _ => True) lw_Q := by
  refine MetFree.of_bodyS (code := code) (maxLocals := maxLocals) (ret := ret) (by decide) ?_ ?_
  · intro args s m h hn
    obtain ⟨meth, c, h1, h2, h3, h4, h5, h6, -, -⟩ := Cond.code_spec hn (atoms_spec (ws := Jvm.Cond.code x code maxLocals ret :: tables_1) h _ List.mem_cons_self)
    exact ⟨meth, c, h1, h2, h3, h4, h5, h6⟩
  · intro p e s m args below meth c s₁ B hml0 hP _
    obtain ⟨rfl, hx, hbd, hgv⟩ := hP
    obtain ⟨scr, harrAt, hlist, hof, hsmall⟩ := hx
    obtain ⟨hcb, hkn, -, -⟩ := State.arrayAt?_spec harrAt
    have hown : s.vm.findClass R_law = some m.cls := findClass_of_methodNamed B.named
    have hts0 : ∀ c ∈ (Jvm.Cond.code x code maxLocals ret :: tables_1), c.before #[Value.ref b] s = true := atoms_spec (ws := Jvm.Cond.code x code maxLocals ret :: tables_1) B.pre
    have hts : ∀ w ∈ lw_tbl, w.before #[Value.ref b] s = true := k2_hts_sels lw_privs (fun w hw => hts0 w (List.mem_cons_of_mem _ hw)) lw_privs_ok
    have hml : c.maxLocals = 4 := B.maxLocals_eq (hts0 _ List.mem_cons_self)
    have X₀ : Stand p l e room_1 s m #[Value.ref b] below meth c s₁ [] 0 0 := Stand.of_body B
    have hh0 : s₁.heap = s.heap := by rw [B.state]; rfl
    have hsz : scr.slots.size = xs.length := by rw [← Array.length_toList, hlist, List.length_map]
    have hval : ∀ j : Nat, j < xs.length → scr.slots[j]? = some (.int (xs.getD j 0)) := fun j hj => by
      rw [← Array.getElem?_toList, hlist]
      simp [hj]
    have hbl : b < s.heap.size := (Array.getElem?_eq_some_iff.mp hcb).1
    have hX : va_X b xs.length (fun j => xs.getD j 0) s s.heap := ⟨scr, hcb, hof, hkn, hsz, hval⟩
    have K : W p l e room_1 s m #[Value.ref b] below meth c s₁.heap [] 0 0 (lw_Z below #[Value.ref b] s) (entryFrame m ([Value.ref b] : List Value).toArray 4) := by
      rw [hh0]
      exact whole_start l hbd ⟨B.exec, B.bytes, B.returns, hml, hown, hts, hX, hbl, B.notSynchronized, hgv⟩
    obtain ⟨t, a1, o, b1, b2, b3⟩ := K s₁ rfl X₀
    exact ⟨t, o, a1, b1, b2, b3⟩
theorem lw_pre_spec {args : Array Value} {s : State} (h : (Jvm.Cond.and given_1 narrow_1).before args s = true) (hr : rest_1_c.before args s = true) : ∃ (b : Addr) (xs : List Int32), lw_P b xs args s := by
  have hs := flat_of_before _ h
  have hq := flat_of_before _ hr
  have hc : (Cond.count 1).before args s = true := hs _ (by decide +kernel)
  have harr : (Cond.arrayOf (.arg 0) .int).before args s = true := hs _ (by decide +kernel)
  have hle : (Cond.le (.length (.arg 0)) (.int 2048)).before args s = true := hs _ (by decide +kernel)
  have hlen : (Cond.isInt (.length (.arg 0))).before args s = true := hq _ (by decide +kernel)
  have hall : (Cond.all (.arg 0) (.isInt (.elem (.arg 0) (.index 0)))).before args s = true := hq _ (by decide +kernel)
  obtain ⟨b, xs, hb, hx⟩ := State.ints_of_pre rfl harr hlen hall
  have hsm : xs.length < 2 ^ 31 := hx.choose_spec.2.2.2
  have hev : (Term.length (.arg 0)).eval args s none [] s = some (.int xs.length.toInt32) := hx.length_eval hb
  have hv := Cond.le_ints hev (show (Term.int 2048).eval args s none [] s = some (.int 2048) from rfl)
  have hd : xs.length.toInt32 ≤ 2048 := by
    simpa [Cond.before, Cond.holds, hv] using hle
  have hN : xs.length ≤ 2048 := (Int32.ofNat_le_ofNat hsm (by decide)).mp (show Int32.ofNat xs.length ≤ Int32.ofNat 2048 from hd)
  exact ⟨b, xs, Cond.one_arg hc (show args[0]? = some (.ref b) from hb), hx, hN, h⟩
theorem lw_comes (l : Launch) : Comes l x (Jvm.Cond.code x code maxLocals ret :: tables_1) room_1 (fun tb e args s => Calls_1 tb e args s ∧ rest_1 tb e args s ∧ Pre_1 tb e args s)
    (fun _ _ args s o t => lw_Q args s o t) := by
  intro p e ha hc hk s m args below hf hfit hheap happ hpre
  obtain ⟨b, xs, hP⟩ := lw_pre_spec hpre.2.2 hpre.2.1
  obtain ⟨k, o, h1, h2, h3, hQ⟩ := lw_walk l b xs p e ha hc hk s m args below hf ((Spec.applies_iff_loose hf).mp happ).1 hP trivial
  exact ⟨k, o, h1, h2, h3, hQ⟩
theorem lw_frame {s t : State} {o : Outcome} {args : Array Value} (h : Framed s o t [] 600000 7302250) :
    Framed s o t (fieldLocs frame_1_writes args s ++ arrayLocs frame_1_arrays args s ++ staticLocs frame_1_statics s) 600000 7302250 := h
theorem lw_limb (L : Cond) (hL : ∀ (args : Array Value) (s t : State), L.after args s (.returned (some (.int 1))) t = true) :
    ArmFor flags0 classFile x code maxLocals ret World_1 tables_1 room_1 Calls_1 rest_1 Pre_1
      (fun tb e a s o t => postC L tb e a s o t ∧ Framed s o t (fieldLocs frame_1_writes a s ++ arrayLocs frame_1_arrays a s ++ staticLocs frame_1_statics s) 600000 7302250) := by
  intro l _ _ _ p e ha hc hk s m args below hf hfit hheap happ hpre
  obtain ⟨k, o, h1, h2, h3, rfl, hF⟩ := lw_comes l p e ha hc hk s m args below hf hfit hheap happ hpre
  exact ⟨k, _, h1, h2, h3, hL args s _, lw_frame hF⟩
theorem i_vc : Claimed_1_1 ∧ Claimed_1_2 := ⟨lw_limb limb_1_1 (fun args s t => by simp [limb_1_1, Cond.after, Cond.holds, Cond.value]), lw_limb limb_1_2 (fun args s t => Cond.after_iff.mpr (by
  first | (rw [show limb_1_2 = Cond.eq .result (.int 1) from rfl, Cond.eq_ints (x := 1) (y := 1) rfl rfl]; simp; done) | (simp [limb_1_2, Cond.value, Term.eval]; done)))⟩
