/-! rows for the text of the line's characters -/
section ZS
variable {X : zX} {E : zE} {nL : Nat} {Q : State → Prop} {kc ks sz : Nat} {M : zM} {pc : Nat} {L : List (Nat × Value)} {rest : List Value} {cc : ByteArray} {own : String} {ret : Option FieldType} {rm : Room}
theorem z_ldcS (C : zC X E cc "RationalSession$Line" nL ret rm) (hdg : decode cc pc = .ok (.ldc 19, 2)) (kk : Z X E nL Q kc ks sz M (pc + 2) L (.ref (E.2.2.2.1 0) :: rest)) : Z X E nL Q kc ks sz M pc L rest := fun H locs ls h1 h2 h3 h4 =>
  va_ldcS C.1 C.2.1 C.2.2.2.1 C.2.2.2.2.2.2.2.2.2.2.2.2.1 hdg (kk H locs ls h1 h2 h3 h4)
theorem z_gets (C : zC X E cc "java/lang/String" nL ret rm) (hdg : decode cc pc = .ok (.getstatic 38, 3)) (kk : Z X E nL Q kc ks sz M (pc + 3) L (.int 1 :: rest)) : Z X E nL Q kc ks sz M pc L rest := fun H locs ls h1 h2 h3 h4 =>
  va_gets C.1 C.2.1 C.2.2.2.2.2.2.2.2.2.2.2.2.2.2 h3 C.2.2.2.1 (C.2.2.2.2.1 _ fl_jS_38) (fun _ h => h) hdg (kk H locs ls h1 h2 h3 h4)
theorem z_sval (C : zC X E cc "java/lang/String" nL ret rm) (hdg : decode cc pc = .ok (.getfield 9, 3)) (kk : Z X E nL Q kc ks sz M (pc + 3) L (.ref (E.2.2.2.2 0) :: rest)) : Z X E nL Q kc ks sz M pc L (.ref (E.2.2.2.1 0) :: rest) := fun H locs ls h1 h2 h3 h4 =>
  vk_getf C.1 C.2.1 (C.2.2.2.2.2.2.2.2.2.2.2.2.2.1.1 0 (by decide)).2.2.1 h3 C.2.2.2.1 (C.2.2.2.2.1 _ fl_jS_9) (fun _ h => h) hdg (kk H locs ls h1 h2 h3 h4)
theorem z_scod (C : zC X E cc "java/lang/String" nL ret rm) (hdg : decode cc pc = .ok (.getfield 15, 3)) (kk : Z X E nL Q kc ks sz M (pc + 3) L (.int 0 :: rest)) : Z X E nL Q kc ks sz M pc L (.ref (E.2.2.2.1 0) :: rest) := fun H locs ls h1 h2 h3 h4 =>
  vk_getf C.1 C.2.1 (C.2.2.2.2.2.2.2.2.2.2.2.2.2.1.1 0 (by decide)).2.1 h3 C.2.2.2.1 (C.2.2.2.2.1 _ fl_jS_15) (fun _ h => h) hdg (kk H locs ls h1 h2 h3 h4)
theorem z_slen (C : zC X E cc own nL ret rm) (hdg : decode cc pc = .ok (.arraylength, 1)) (kk : Z X E nL Q kc ks sz M (pc + 1) L (.int (nI 26) :: rest)) : Z X E nL Q kc ks sz M pc L (.ref (E.2.2.2.2 0) :: rest) := fun H locs ls h1 h2 h3 h4 =>
  va_tlen C.1 C.2.1 (C.2.2.2.2.2.2.2.2.2.2.2.2.2.1.1 0 (by decide)).2.2.2 h3 rfl hdg (kk H locs ls h1 h2 h3 h4)
theorem z_sald (C : zC X E cc own nL ret rm) (j : Nat) (hj : j < 26) (hdg : decode cc pc = .ok (.baload, 1)) (kk : Z X E nL Q kc ks sz M (pc + 1) L (.int (zBy.getD j 0) :: rest)) : Z X E nL Q kc ks sz M pc L (.int (nI j) :: .ref (E.2.2.2.2 0) :: rest) := fun H locs ls h1 h2 h3 h4 =>
  va_tb C.1 C.2.1 (C.2.2.2.2.2.2.2.2.2.2.2.2.2.1.1 0 (by decide)).2.2.2 h3 (vp_in_nI hj (by decide)) (by rw [nI_clamp (by omega)]; rfl) hdg (kk H locs ls h1 h2 h3 h4)
theorem z_callT (C : zC X E cc own nL ret rm) {y : MethodName} {rmc : Room} {mc ms index maxL n : Nat} {As : List Value} {post : Option Value → Nat → zM → Prop} {bytes : ByteArray} {rt : Option FieldType} (hM : zMet E X.2.1 y bytes maxL rt rmc mc ms (.ref (E.2.2.2.1 0) :: As) sz M post) (cw : CallW rm X.2.2.2.2.1 X.2.2.2.2.2.2.1 own "java/lang/String" index y bytes maxL rt (Cond.code y bytes maxL rt :: zWS) rmc mc ms n) (hn : As.length = n) {st0 : List Value} (hst : st0 = As.reverse ++ .ref (E.2.2.2.1 0) :: rest) (hW : (rest.map fun v => v.category).sum ≤ 8) (hdg : decode cc pc = .ok (.invokevirtual index, 3)) (hf : kc + mc ≤ rm.cells ∧ ks + ms ≤ rm.slots)
    (kk : ∀ (v : Option Value) (sz' : Nat) (M' : zM), post v sz' M' → Z X E nL Q (kc + mc) (ks + ms) sz' M' (pc + 3) L (v.toList ++ rest)) : Z X E nL Q kc ks sz M pc L st0 := fun H locs ls h1 h2 h3 h4 => by
  have hR := C.2.2.2.2.2.2.2.2.2.1
  refine z_after (va_runV (As := As) (b := E.2.2.2.1 0) (rest := rest) (C := "java/lang/String") ⟨C.1, C.2.1, C.2.2.1, C.2.2.2.1, C.2.2.2.2.1⟩ hM (by rw [hR]; exact cw) ⟨fun a U g mk q => ⟨q.1, q.2.calling⟩, vk_recv C.2.2.2.2.2.2.2.2.2.2.2.2.2.1 (by decide) h3, fun U hU hW => ⟨rfl, z_enter C h1 h2 h3 U hU hW⟩⟩ rfl hn h4.1 hst (lv_room hW) hdg (by rw [hR]; exact hf)) h3 h4 kk
/-- a method of a class that isn't plain by her name, but has no row of her own -/
theorem zMet.ofZF {l : Launch} {y : MethodName} {mc ms : Nat} {av : List Value} {post : Option Value → Nat → zM → Prop} {maxL : Nat} (hy : plainFor y = true) (hav : (lg_sl av).length ≤ maxL)
    (body : ∀ X : zX, X.2.1 = l → X.2.2.2.2.2.2.2.2.1.name = y.name → zC X E cc y.cls maxL ret rm → Z X E maxL (zQ X E mc ms post) 0 0 sz M 0 (lv_args 0 av) []) : zMet E l y cc maxL ret rm mc ms av sz M post := by
  show Met l y (Cond.code y cc maxL ret :: zWS) rm (va_Pc av (zI E sz M)) (zQc E post) mc ms E.2.2.1
  refine MetFree.of_bodySF (code := cc) (maxLocals := maxL) (ret := ret) hy ?_ ?_
  · intro args s m h hn
    obtain ⟨meth, c, h1, h2, h3, h4, h5, h6, -, -⟩ := Cond.code_spec hn (atoms_spec (ws := Cond.code y cc maxL ret :: zWS) h _ List.mem_cons_self)
    exact ⟨meth, c, h1, h2, h3, h4, h5, h6⟩
  · intro p e s m args below meth c s₁ B hml hv _
    have hh0 : s₁.heap = s.heap := by rw [B.state]; rfl
    obtain ⟨rfl, hsz, hP, hK, hA, hJ⟩ := hv
    have hts := atoms_spec (ws := Cond.code y cc maxL ret :: zWS) B.pre
    have hl := lv_entry av hav
    have hw := body (p, l, e, rm, s, m, av.toArray, below, meth, c) rfl (name_of_methodNamed B.named B.method).1 ⟨B.exec, B.bytes, hml, findClass_of_methodNamed B.named, fun w hw => hts w (List.mem_cons_of_mem _ hw), hK, fun q hq => hA q (by rw [← hsz]; exact hq), B.notSynchronized, B.returns, rfl, hJ⟩ s.heap [] _ hsz hP va_S.rf hl
    obtain ⟨t, a1, o, b1, b2, b3⟩ := hw s₁ hh0 (Stand.of_body B)
    rw [lg_entry_eq]
    exact ⟨t, o, a1, b1, b2, ⟨b3.1, b3.2⟩⟩
end ZS
/-- the characters of a line -/
def mayH (c : Nat) : Prop := ∃ j, j < 26 ∧ zBy.getD j 0 = nI c
