theorem k_loadA (E : zE) (l : Launch) (sz : Nat) (M : zM) {k : Nat} {rs : List (PS × PS)} (H : zwk E M k rs.reverse) (hf : ∀ x ∈ rs, isform x.1 x.2) {h : Nat} {fs : List (PS × PS)} {ss : List Nat} {nb : Nat → Nat} {sc : Nat} (S : zsf E M h fs ss nb sc) (ah : k + 97 ≤ h ∨ h + 204 ≤ k) (hfs : ∀ x ∈ fs, isform x.1 x.2) (x : Nat × Int) (hv : vst x rs.length) (h4 : x.1 ≤ 4) : zMet E l y_K_load c_K_load 6 (some .int) { frames := 3, cells := 0, slots := 0, locals := 64 } 0 0 [.ref k, .int (nI x.1), .int (Int32.ofInt x.2), .ref h] sz M (fun v s M' => sz = s ∧ zoutR M M' k (k + 97) ∧ stK E M' k v (dst x rs.length) (stp fs nb x rs)) := by
  obtain ⟨kd, e⟩ := x
  have hb : fs.length ≤ 40 := by
    obtain ⟨_, _, _, _, _, _, _, ⟨q, _⟩, _⟩ := S
    exact q
  have hnb : ∀ i, i < 3 → nb i ≤ fs.length := by
    obtain ⟨_, _, _, _, _, _, _, _, _, _, q, _⟩ := S
    exact fun i hi => (q i hi).2
  have lk : ∀ (n : Nat), n < 200 → ∀ {v : Option Value} {M' : zM}, ((∃ i : Nat, i < fs.length ∧ nI n = nI (i + 1) ∧ some (.int 0) = v ∧ ∃ x, fs[i]? = some x ∧ zwk E M' k (rs.reverse ++ [x])) ∨ ((¬ ∃ i : Nat, i < fs.length ∧ nI n = nI (i + 1)) ∧ some (.int (-4)) = v ∧ ∃ xs', zwk E M' k xs')) → stK E M' k v (rs.length + 1) (push (labF fs n) rs) := by
    intro n hn v M' hq
    refine push_K hf ?_
    rcases hq with ⟨i, hi, e, ev, x, hx, hz⟩ | ⟨hno, ev, hz⟩
    · have e := (nI_eq (by omega) (by omega)).mp e
      have q : labF fs n = .inr x := by
        unfold labF
        rw [if_neg (by omega), show n - 1 = i by omega, hx]
      rw [q]
      exact ⟨ev, hfs x (List.mem_of_getElem? hx), hz⟩
    · have q : labF fs n = .inl (-4) := by
        unfold labF
        by_cases q0 : n = 0
        · rw [if_pos q0]
        · rw [if_neg q0]
          cases hx : fs[n - 1]? with
          | none => rfl
          | some x => exact absurd ⟨n - 1, (List.getElem?_eq_some_iff.mp hx).1, by congr 1; omega⟩ hno
      rw [q]
      exact ⟨ev, by decide, hz⟩
  have hd : dst (kd, e) rs.length = rs.length + 1 := if_pos h4
  rw [hd]
  rcases hv with ⟨rfl, e1, e2, hl⟩ | ⟨rfl, hl⟩ | ⟨rfl, e1, e2, hl⟩ | ⟨rfl, e1, e2, hl⟩ | ⟨q, -⟩ | ⟨q, -⟩
  · obtain ⟨n, rfl⟩ : ∃ n : Nat, e = (n : Int) := ⟨e.toNat, by omega⟩
    refine (k_loadC E l sz M H (by simpa using hl) n (by omega)).mono (fun v s M' q => ⟨q.1, q.2.2.1, ?_⟩)
    rw [show stp fs nb (1, (n : Int)) rs = push (.inr (ps_C (Fin.ofNat 10007 n), ps_C 1)) rs from rfl]
    exact push_K hf ⟨q.2.1, isf_C _, q.2.2.2⟩
  · refine (k_loadX E l sz M H (by simpa using hl)).mono (fun v s M' q => ⟨q.1, q.2.2.1, ?_⟩)
    rw [show stp fs nb (2, e) rs = push (.inr (mono 1 1, ps_C 1)) rs from rfl]
    exact push_K hf ⟨q.2.1, isf_X, q.2.2.2⟩
  · obtain ⟨n, rfl⟩ : ∃ n : Nat, e = (n : Int) := ⟨e.toNat, by omega⟩
    refine (k_loadN E l sz M H (by simpa using hl) S ah n (by omega)).mono (fun v s M' q => ⟨q.1, q.2.1, ?_⟩)
    rw [show stp fs nb (3, (n : Int)) rs = push (labF fs (nb n)) rs from rfl]
    exact lk (nb n) (by have := hnb n (by omega); omega) q.2.2
  · obtain ⟨n, rfl⟩ : ∃ n : Nat, e = (n : Int) := ⟨e.toNat, by omega⟩
    refine (k_loadL E l sz M H (by simpa using hl) S ah (nI n)).mono (fun v s M' q => ⟨q.1, q.2.1, ?_⟩)
    rw [show stp fs nb (4, (n : Int)) rs = push (labF fs n) rs from rfl]
    exact lk n (by omega) q.2.2
  · exact absurd q (by show ¬ 5 ≤ kd; have : kd ≤ 4 := h4; omega)
  · exact absurd q (by show ¬ 8 ≤ kd; have : kd ≤ 4 := h4; omega)
theorem k_operA (E : zE) (l : Launch) (sz : Nat) (M : zM) {k : Nat} {rs : List (PS × PS)} (H : zwk E M k rs.reverse) (hf : ∀ x ∈ rs, isform x.1 x.2) (fs : List (PS × PS)) (nb : Nat → Nat) (x : Nat × Int) (hv : vst x rs.length) (h4 : ¬ x.1 ≤ 4) : zMet E l y_K_operate c_K_operate 7 (some .int) { frames := 4, cells := 0, slots := 0, locals := 95 } 0 0 [.ref k, .int (nI x.1), .int (Int32.ofInt x.2)] sz M (fun v s M' => sz = s ∧ zoutR M M' k (k + 97) ∧ stK E M' k v (dst x rs.length) (stp fs nb x rs)) := by
  obtain ⟨kd, e⟩ := x
  have h4 : ¬ kd ≤ 4 := h4
  rcases hv with ⟨q, -⟩ | ⟨q, -⟩ | ⟨q, -⟩ | ⟨q, -⟩ | ⟨q1, q2, q3, q4, q5⟩ | ⟨q1, q2, q3⟩
  · exact absurd (show kd ≤ 4 by have : kd = 1 := q; omega) h4
  · exact absurd (show kd ≤ 4 by have : kd = 2 := q; omega) h4
  · exact absurd (show kd ≤ 4 by have : kd = 3 := q; omega) h4
  · exact absurd (show kd ≤ 4 by have : kd = 4 := q; omega) h4
  · have q1 : 5 ≤ kd := q1
    have q2 : kd ≤ 7 := q2
    cases rs with
    | nil => exact absurd q5 (by simp)
    | cons l1 ys =>
      have il := hf l1 List.mem_cons_self
      have hy : ∀ x ∈ ys, isform x.1 x.2 := fun x hx => hf x (List.mem_cons_of_mem _ hx)
      rw [List.reverse_cons] at H
      refine (k_op1 E l sz M H il kd q1 q2 e ⟨q3, q4⟩).mono (fun v s M' q => ⟨q.1, q.2.1, ?_⟩)
      have e1 : stp fs nb (kd, e) (l1 :: ys) = push (op1 kd e l1) ys := by
        unfold stp
        rw [if_neg (show ¬ kd = 1 by omega), if_neg (show ¬ kd = 2 by omega), if_neg (show ¬ kd = 3 by omega), if_neg (show ¬ kd = 4 by omega), if_pos (show kd ≤ 7 by omega)]
      have e2 : dst (kd, e) (l1 :: ys).length = ys.length + 1 := by
        unfold dst
        rw [if_neg (show ¬ kd ≤ 4 by omega), if_pos (show kd ≤ 7 by omega)]; rfl
      rw [e1, e2]
      exact push_K hy q.2.2
  · have q1 : 8 ≤ kd := q1
    have q2 : kd ≤ 12 := q2
    cases rs with
    | nil => exact absurd q3 (by simp)
    | cons r1 ys =>
      cases ys with
      | nil => exact absurd q3 (by simp)
      | cons l1 ys =>
        have ir := hf r1 List.mem_cons_self
        have il := hf l1 (List.mem_cons_of_mem _ List.mem_cons_self)
        have hy : ∀ x ∈ ys, isform x.1 x.2 := fun x hx => hf x (List.mem_cons_of_mem _ (List.mem_cons_of_mem _ hx))
        rw [List.reverse_cons, List.reverse_cons, List.append_assoc] at H
        refine (k_op2 E l sz M H il ir kd q1 q2 (Int32.ofInt e)).mono (fun v s M' q => ⟨q.1, q.2.1, ?_⟩)
        have e1 : stp fs nb (kd, e) (r1 :: l1 :: ys) = push (op2 kd l1 r1) ys := by
          unfold stp
          rw [if_neg (show ¬ kd = 1 by omega), if_neg (show ¬ kd = 2 by omega), if_neg (show ¬ kd = 3 by omega), if_neg (show ¬ kd = 4 by omega), if_neg (show ¬ kd ≤ 7 by omega)]
        have e2 : dst (kd, e) (r1 :: l1 :: ys).length = ys.length + 1 := by
          unfold dst
          rw [if_neg (show ¬ kd ≤ 4 by omega), if_neg (show ¬ kd ≤ 7 by omega)]; simp
        rw [e1, e2]
        exact push_K hy q.2.2
def img (x : Nat × Int) : Int32 × Int32 := (nI x.1, Int32.ofInt x.2)
theorem vst_lt {x : Nat × Int} {d : Nat} (h : vst x d) : x.1 < 100 := by
  rcases h with h | h | h | h | h | h <;> omega
set_option maxHeartbeats 4000000 in
/-- Worker.run -/
theorem k_run (E : zE) (l : Launch) (sz : Nat) (M : zM) {k : Nat} {xs : List (PS × PS)} (H : zwk E M k xs) {h : Nat} {fs : List (PS × PS)} {ss : List Nat} {nb : Nat → Nat} {sc : Nat} (S : zsf E M h fs ss nb sc) (ah : k + 97 ≤ h ∨ h + 204 ≤ k) (hfs : ∀ x ∈ fs, isform x.1 x.2) {g : Nat} {ps : List (Nat × Int)} {tg : Int32} (G : zpg E M g (ps.map img) tg) (ag : k + 97 ≤ g ∨ g + 3 ≤ k) (hw : wfp ps 0) : zMet E l y_K_run c_K_run 6 (some .int) { frames := 5, cells := 0, slots := 0, locals := 121 } 0 0 [.ref k, .ref g, .ref h] sz M (fun v s M' => sz = s ∧ zoutR M M' k (k + 97) ∧ (match evp fs nb ps [] with | .inl t => some (.int t) = v ∧ ¬ t = 0 ∧ ∃ xs', zwk E M' k xs' | .inr rs => some (.int 0) = v ∧ (∀ x ∈ rs, isform x.1 x.2) ∧ zwk E M' k rs.reverse)) := by
  obtain ⟨ff, h0, h1, hl1, hff, hs, hfm, hal⟩ := id H
  obtain ⟨kf, df, g0, g1, g2, gl, gf⟩ := id G
  rw [List.length_map] at g0 gl
  refine zMet.ofZ (by decide) (Nat.le_of_ble_eq_true rfl) ?_
  intro X hl hini C
  have bad : ∀ (M1 : zM) (i : Nat) (t : Int32), i ≤ ps.length → ¬ t = 0 → M1 g = some (.inr (4, [.ref (g + 1), .ref (g + 2), .int (nI ps.length), .int tg])) → zoutR M M1 k (k + 97) → (∃ xs', zwk E M1 k xs') → evp fs nb ps [] = .inl t → Z X E 6 (zQ X E 0 0 (fun v s M' => sz = s ∧ zoutR M M' k (k + 97) ∧ (match evp fs nb ps [] with | .inl t => some (.int t) = v ∧ ¬ t = 0 ∧ ∃ xs', zwk E M' k xs' | .inr rs => some (.int 0) = v ∧ (∀ x ∈ rs, isform x.1 x.2) ∧ zwk E M' k rs.reverse))) 0 0 sz M1 10 [(0, .ref k), (1, .ref g), (2, .ref h), (3, .int t), (4, .int (nI i))] [] := by
    intro M1 i t hi ht q0 hfr hz he
    refine z_iload C d_K_run_10 rfl ?_
    refine z_aload_n C d_K_run_12 rfl rfl ?_
    refine z_getN C in_G q0 rfl 2 (by decide) fl_K_29 rfl rfl d_K_run_13 ?_
    refine z_icmp_ge (tgt := 78) C d_K_run_16 (by decide) (fun c16 => ?_) (fun c16 => ?_)
    · refine z_iload_n C d_K_run_78 rfl rfl ?_
      exact z_iret C ⟨rfl, hfr, by rw [he]; exact ⟨rfl, ht, hz⟩⟩ d_K_run_79
    · refine z_iload_n C d_K_run_19 rfl rfl ?_
      refine z_if_ne (tgt := 78) C d_K_run_20 (by decide) (fun c20 => ?_) (fun c20 => ?_)
      · refine z_iload_n C d_K_run_78 rfl rfl ?_
        exact z_iret C ⟨rfl, hfr, by rw [he]; exact ⟨rfl, ht, hz⟩⟩ d_K_run_79
      · exact absurd c20 ht
  have loop : ∀ (m i : Nat) (M1 : zM) (rs : List (PS × PS)), i ≤ ps.length → ps.length + 1 ≤ i + m → zwk E M1 k rs.reverse → (∀ x ∈ rs, isform x.1 x.2) → zoutR M M1 k (k + 97) → wfp (ps.drop i) rs.length → evp fs nb ps [] = evp fs nb (ps.drop i) rs → Z X E 6 (zQ X E 0 0 (fun v s M' => sz = s ∧ zoutR M M' k (k + 97) ∧ (match evp fs nb ps [] with | .inl t => some (.int t) = v ∧ ¬ t = 0 ∧ ∃ xs', zwk E M' k xs' | .inr rs => some (.int 0) = v ∧ (∀ x ∈ rs, isform x.1 x.2) ∧ zwk E M' k rs.reverse))) 0 0 sz M1 10 [(0, .ref k), (1, .ref g), (2, .ref h), (3, .int 0), (4, .int (nI i))] [] := by
    intro m
    induction m with
    | zero => intro i M1 rs h1 h2; omega
    | succ m ih =>
      intro i M1 rs hi hm H1 hf hfr hw1 he
      have S1 := zsf_oR hfr S (by omega)
      obtain ⟨_, _, _, qh, _⟩ := id S1
      obtain ⟨_, qk, _⟩ := id H1
      have q0 := (hfr g (by omega)).trans g0
      have q1 := (hfr (g + 1) (by omega)).trans g1
      have q2 := (hfr (g + 2) (by omega)).trans g2
      refine z_iload C d_K_run_10 rfl ?_
      refine z_aload_n C d_K_run_12 rfl rfl ?_
      refine z_getN C in_G q0 rfl 2 (by decide) fl_K_29 rfl rfl d_K_run_13 ?_
      refine z_icmp_ge (tgt := 78) C d_K_run_16 (by decide) (fun c16 => ?_) (fun c16 => ?_)
      · have c16 := (nI_leI (by omega) (by omega)).mp c16
        have hd0 : ps.drop i = [] := List.drop_eq_nil_of_le (by omega)
        rw [hd0] at he
        refine z_iload_n C d_K_run_78 rfl rfl ?_
        exact z_iret C ⟨rfl, hfr, by rw [he]; exact ⟨rfl, hf, H1⟩⟩ d_K_run_79
      · have c16 : i < ps.length := Nat.not_le.mp (fun q => c16 ((nI_leI (by omega) (by omega)).mpr q))
        obtain ⟨x, hx⟩ : ∃ x, ps[i]? = some x := ⟨_, List.getElem?_eq_getElem c16⟩
        have hdr : ps.drop i = x :: ps.drop (i + 1) := by
          rw [List.drop_eq_getElem_cons c16]
          rw [List.getElem?_eq_getElem c16] at hx
          rw [Option.some.inj hx]
        rw [hdr] at hw1
        have hgf := gf i (img x) (by rw [List.getElem?_map, hx]; rfl)
        have hxl := vst_lt hw1.1
        refine z_iload_n C d_K_run_19 rfl rfl ?_
        refine z_if_ne (tgt := 78) C d_K_run_20 (by decide) (fun c_20 => absurd c_20 (fun q => q rfl)) (fun _ => ?_)
        refine z_aload_n C d_K_run_23 rfl rfl ?_
        refine z_getN C in_G q0 rfl 0 (by decide) fl_K_34 rfl rfl d_K_run_24 ?_
        refine z_iload C d_K_run_27 rfl ?_
        refine z_iald C q1 0 rfl i (rfl) (by omega) (by decide) d_K_run_29 ?_
        refine z_top (y := nI x.1) (hgf.1) ?_
        refine z_istore (L' := [(0, .ref k), (1, .ref g), (2, .ref h), (3, .int 0), (4, .int (nI i)), (5, .int (nI x.1))]) C d_K_run_30 (by decide) rfl ?_
        refine z_iload C d_K_run_32 rfl ?_
        refine z_callS (rest := []) (n := 1) (As := [.int (nI x.1)]) C (g_loads E X.2.1 sz _ x.1 hxl) ⟨z_cb C k_G_loads ml_K_38 ii_G rfl rfl (by decide +kernel) ⟨by decide, by decide⟩, C.2.2.2.2.1 _ sm_G_loads⟩ rfl rfl (Nat.le_of_ble_eq_true rfl) d_K_run_34 ⟨by decide, by decide⟩ ?_
        intro v_34 s_34 M_34 hp_34
        obtain ⟨rfl, rfl, rfl⟩ := hp_34
        show Z _ _ _ _ _ _ _ _ 37 _ [.int (if x.1 ≤ 4 then 1 else 0)]
        refine z_if_eq (tgt := 58) C d_K_run_37 (by decide) (fun c37 => ?_) (fun c37 => ?_)
        · have c37 : ¬ x.1 ≤ 4 := fun q => by rw [if_pos q] at c37; exact absurd c37 (by decide)
          refine z_aload_n C d_K_run_58 rfl rfl ?_
          refine z_iload C d_K_run_59 rfl ?_
          refine z_aload_n C d_K_run_61 rfl rfl ?_
          refine z_getN C in_G q0 rfl 1 (by decide) fl_K_42 rfl rfl d_K_run_62 ?_
          refine z_iload C d_K_run_65 rfl ?_
          refine z_iald C q2 0 rfl i (rfl) (by omega) (by decide) d_K_run_67 ?_
          refine z_top (y := Int32.ofInt x.2) (hgf.2) ?_
          refine z_callV (rest := []) (n := 2) (As := [.int (nI x.1), .int (Int32.ofInt x.2)]) C (k_operA E X.2.1 sz _ H1 hf fs nb x hw1.1 c37) ⟨z_cb C k_K_operate ml_K_49 ii_K rfl rfl (by decide +kernel) ⟨by decide, by decide⟩, C.2.2.2.2.1 _ im_K_operate, C.2.2.2.2.1 _ se_K_operate⟩ qk rfl rfl rfl (Nat.le_of_ble_eq_true rfl) d_K_run_68 ⟨by decide, by decide⟩ ?_
          intro v_s s_s M2 hp_s
          obtain ⟨rfl, ho2, hst⟩ := hp_s
          have hfr2 : zoutR M M2 k (k + 97) := zoutR_tr hfr ho2
          have q0 := (ho2 g (by omega)).trans q0
          cases hs9 : stp fs nb x rs with
          | inl t =>
            rw [hs9] at hst
            obtain ⟨rfl, ht, hz⟩ := hst
            show Z _ _ _ _ _ _ _ _ 71 _ [.int t]
            refine z_istore_n (L' := [(0, .ref k), (1, .ref g), (2, .ref h), (3, .int t), (4, .int (nI i)), (5, .int (nI x.1))]) C d_K_run_71 rfl (by decide) rfl ?_
            refine z_iinc (v := nI (i + 1)) (L' := [(0, .ref k), (1, .ref g), (2, .ref h), (3, .int t), (4, .int (nI (i + 1))), (5, .int (nI x.1))]) C d_K_run_72 rfl (nI_1 i) (by decide) rfl ?_
            refine z_goto (tgt := 10) C d_K_run_75 (by decide) ?_
            refine z_sub [0, 1, 2, 3, 4] rfl ?_
            exact bad M2 (i + 1) t (by omega) ht q0 hfr2 hz (by rw [he, hdr]; unfold evp; rw [hs9])
          | inr rs' =>
            rw [hs9] at hst
            obtain ⟨rfl, hf2, hz, hlen⟩ := hst
            show Z _ _ _ _ _ _ _ _ 71 _ [.int 0]
            refine z_istore_n (L' := [(0, .ref k), (1, .ref g), (2, .ref h), (3, .int 0), (4, .int (nI i)), (5, .int (nI x.1))]) C d_K_run_71 rfl (by decide) rfl ?_
            refine z_iinc (v := nI (i + 1)) (L' := [(0, .ref k), (1, .ref g), (2, .ref h), (3, .int 0), (4, .int (nI (i + 1))), (5, .int (nI x.1))]) C d_K_run_72 rfl (nI_1 i) (by decide) rfl ?_
            refine z_goto (tgt := 10) C d_K_run_75 (by decide) ?_
            refine z_sub [0, 1, 2, 3, 4] rfl ?_
            exact ih (i + 1) M2 rs' (by omega) (by omega) hz hf2 hfr2 (by rw [hlen]; exact hw1.2) (by rw [he, hdr]; conv => lhs; unfold evp; rw [hs9])
        · have c37 : x.1 ≤ 4 := by
            by_cases q : x.1 ≤ 4
            · exact q
            · exact absurd (if_neg q) c37
          refine z_aload_n C d_K_run_40 rfl rfl ?_
          refine z_iload C d_K_run_41 rfl ?_
          refine z_aload_n C d_K_run_43 rfl rfl ?_
          refine z_getN C in_G q0 rfl 1 (by decide) fl_K_42 rfl rfl d_K_run_44 ?_
          refine z_iload C d_K_run_47 rfl ?_
          refine z_iald C q2 0 rfl i (rfl) (by omega) (by decide) d_K_run_49 ?_
          refine z_top (y := Int32.ofInt x.2) (hgf.2) ?_
          refine z_aload_n C d_K_run_50 rfl rfl ?_
          refine z_callV (rest := []) (n := 3) (As := [.int (nI x.1), .int (Int32.ofInt x.2), .ref h]) C (k_loadA E X.2.1 sz _ H1 hf S1 ah hfs x hw1.1 c37) ⟨z_cb C k_K_load ml_K_45 ii_K rfl rfl (by decide +kernel) ⟨by decide, by decide⟩, C.2.2.2.2.1 _ im_K_load, C.2.2.2.2.1 _ se_K_load⟩ qk rfl rfl rfl (Nat.le_of_ble_eq_true rfl) d_K_run_51 ⟨by decide, by decide⟩ ?_
          intro v_s s_s M2 hp_s
          obtain ⟨rfl, ho2, hst⟩ := hp_s
          have hfr2 : zoutR M M2 k (k + 97) := zoutR_tr hfr ho2
          have q0 := (ho2 g (by omega)).trans q0
          cases hs9 : stp fs nb x rs with
          | inl t =>
            rw [hs9] at hst
            obtain ⟨rfl, ht, hz⟩ := hst
            show Z _ _ _ _ _ _ _ _ 54 _ [.int t]
            refine z_istore_n (L' := [(0, .ref k), (1, .ref g), (2, .ref h), (3, .int t), (4, .int (nI i)), (5, .int (nI x.1))]) C d_K_run_54 rfl (by decide) rfl ?_
            refine z_goto (tgt := 72) C d_K_run_55 (by decide) ?_
            refine z_iinc (v := nI (i + 1)) (L' := [(0, .ref k), (1, .ref g), (2, .ref h), (3, .int t), (4, .int (nI (i + 1))), (5, .int (nI x.1))]) C d_K_run_72 rfl (nI_1 i) (by decide) rfl ?_
            refine z_goto (tgt := 10) C d_K_run_75 (by decide) ?_
            refine z_sub [0, 1, 2, 3, 4] rfl ?_
            exact bad M2 (i + 1) t (by omega) ht q0 hfr2 hz (by rw [he, hdr]; unfold evp; rw [hs9])
          | inr rs' =>
            rw [hs9] at hst
            obtain ⟨rfl, hf2, hz, hlen⟩ := hst
            show Z _ _ _ _ _ _ _ _ 54 _ [.int 0]
            refine z_istore_n (L' := [(0, .ref k), (1, .ref g), (2, .ref h), (3, .int 0), (4, .int (nI i)), (5, .int (nI x.1))]) C d_K_run_54 rfl (by decide) rfl ?_
            refine z_goto (tgt := 72) C d_K_run_55 (by decide) ?_
            refine z_iinc (v := nI (i + 1)) (L' := [(0, .ref k), (1, .ref g), (2, .ref h), (3, .int 0), (4, .int (nI (i + 1))), (5, .int (nI x.1))]) C d_K_run_72 rfl (nI_1 i) (by decide) rfl ?_
            refine z_goto (tgt := 10) C d_K_run_75 (by decide) ?_
            refine z_sub [0, 1, 2, 3, 4] rfl ?_
            exact ih (i + 1) M2 rs' (by omega) (by omega) hz hf2 hfr2 (by rw [hlen]; exact hw1.2) (by rw [he, hdr]; conv => lhs; unfold evp; rw [hs9])
  show Z X E 6 _ 0 0 sz M 0 [(0, .ref k), (1, .ref g), (2, .ref h)] []
  refine z_iconst (v := 0) C d_K_run_0 (by decide) ?_
  refine z_istore_n (L' := [(0, .ref k), (1, .ref g), (2, .ref h), (3, .int 0)]) C d_K_run_1 rfl (by decide) rfl ?_
  refine z_aload_n C d_K_run_2 rfl rfl ?_
  refine z_iconst (v := nI 0) C d_K_run_3 (by decide) ?_
  refine z_put C in_K ty_K tok_K nm_K h0 rfl 2 (by decide) fl_K_24 rfl rfl rfl (rfl) (rfl) (Nat.le_of_ble_eq_true rfl) d_K_run_4 ?_
  show Z _ _ _ _ _ _ _ (zU M k (.inr (8, [.ref (k + 1), .ref (k + 16), .int (nI 0)]))) _ _ _
  refine z_iconst (v := nI 0) C d_K_run_7 (by decide) ?_
  refine z_istore (L' := [(0, .ref k), (1, .ref g), (2, .ref h), (3, .int 0), (4, .int (nI 0))]) C d_K_run_8 (by decide) rfl ?_
  have ho0 : zoutR M (zU M k (.inr (8, [.ref (k + 1), .ref (k + 16), .int (nI 0)]))) k (k + 1) := fun x hq => zU_ne (by omega)
  obtain ⟨sa, sb, sA, sB, hs⟩ := hs
  refine loop (ps.length + 1) 0 _ [] (by omega) (by omega) ⟨ff, zU_eq, (ho0 _ (by omega)).trans h1, by simp, hff, ⟨sa, sb, sA, sB, zsh_oR ho0 hs (by omega)⟩, fun i x hx => by simp at hx, fun i hi => ?_⟩ (fun x hx => by cases hx) (zoutR_w ho0 (by omega) (by omega)) hw rfl
  obtain ⟨a1, a2, a3, a4, a5⟩ := hal i hi
  exact ⟨a1, a2, a3, a4, zf_oR ho0 a5 (by omega)⟩
