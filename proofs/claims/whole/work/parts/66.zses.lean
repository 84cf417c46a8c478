/-! the session in the world, and what its calls answer -/
abbrev St : Type := List Nat × List (PS × PS) × List Nat × (Nat → Nat) × Nat × Int32
/-- what of the session no call's answer shows: reader, program, worker, seeker -/
def zjunk (E : zE) (M : zM) (B : Nat) : Prop :=
  (∃ (o a b : Nat → Nat) (n i k w y h : Nat), M (B + 6) = some (.inr (5, [.ref (B + 6 + 1), .ref (B + 6 + 2), .ref (B + 6 + 3), .int (nI n), .ref (B + 1), .ref (B + 1 + 2), .int (nI i), .int (nI k), .int (nI w), .int (nI y), .int (nI h)])) ∧ M (B + 6 + 1) = some (.inl (E.2.1 1, 9, .inl (fun j => nI (o j)))) ∧ M (B + 6 + 2) = some (.inl (E.2.1 0, 9, .inl (fun j => nI (a j)))) ∧ M (B + 6 + 3) = some (.inl (E.2.1 0, 9, .inl (fun j => nI (b j)))) ∧ (∀ j, o j < 128) ∧ (∀ j, a j < 100) ∧ (∀ j, b j < 100) ∧ n ≤ 8 ∧ k ≤ 1 ∧ w ≤ 1 ∧ y ≤ 1 ∧ h ≤ 1) ∧
  (∃ (ps : List (Nat × Int)) (t : Int32), zpg E M (B + 1 + 2) (ps.map img) t) ∧ (∃ xs, zwk E M (B + 10) xs) ∧ ∃ w u f : Int32, M (B + 311) = some (.inr (7, [.int w, .int u, .int f]))
theorem zjunk_o {E : zE} {M M' : zM} {lo hi B : Nat} (ho : zoutR M M' lo hi) (h : zjunk E M B) (hne : hi ≤ B + 3 ∨ (B + 107 ≤ lo ∧ hi ≤ B + 311) ∨ B + 312 ≤ lo) : zjunk E M' B := by
  obtain ⟨⟨o, a, b, n, i, k, w, y, h, h0, h1, h2, h3, hb⟩, ⟨ps, t, hp⟩, ⟨xs, hx⟩, u, v, f, ht⟩ := h
  exact ⟨⟨o, a, b, n, i, k, w, y, h, (ho _ (by omega)).trans h0, (ho _ (by omega)).trans h1, (ho _ (by omega)).trans h2, (ho _ (by omega)).trans h3, hb⟩, ⟨ps, t, zpg_oR ho hp (by omega)⟩, ⟨xs, zwk_oR ho hx (by omega)⟩, u, v, f, (ho _ (by omega)).trans ht⟩
/-- the session at B -/
def zse (E : zE) (M : zM) (B : Nat) : St → Prop
  | (cs, fs, ss, nb, sc, bad) => M B = some (.inr (0, [.ref (B + 1), .ref (B + 1 + 2), .ref (B + 6), .ref (B + 10), .ref (B + 107), .ref (B + 311), .int bad])) ∧ zln E M (B + 1) cs ∧ zsf E M (B + 107) fs ss nb sc ∧ (∀ x ∈ fs, isform x.1 x.2) ∧ zjunk E M B
theorem zse_line {E : zE} {M M' : zM} {B : Nat} {cs cs' : List Nat} {fs : List (PS × PS)} {ss : List Nat} {nb : Nat → Nat} {sc : Nat} {bad : Int32} (H : zse E M B (cs, fs, ss, nb, sc, bad)) (ho : zoutR M M' (B + 1) (B + 1 + 2)) (hl : zln E M' (B + 1) cs') : zse E M' B (cs', fs, ss, nb, sc, bad) := by
  obtain ⟨h0, h1, h2, h3, h4⟩ := H
  exact ⟨(ho _ (by omega)).trans h0, hl, zsf_oR ho h2 (by omega), h3, zjunk_o ho h4 (by omega)⟩
theorem zse_shelf {E : zE} {M M' : zM} {B : Nat} {cs : List Nat} {fs fs' : List (PS × PS)} {ss ss' : List Nat} {nb nb' : Nat → Nat} {sc sc' : Nat} {bad : Int32} (H : zse E M B (cs, fs, ss, nb, sc, bad)) (ho : zoutR M M' (B + 107) (B + 107 + 204)) (hl : zsf E M' (B + 107) fs' ss' nb' sc') (hf : ∀ x ∈ fs', isform x.1 x.2) : zse E M' B (cs, fs', ss', nb', sc', bad) := by
  obtain ⟨h0, h1, h2, h3, h4⟩ := H
  exact ⟨(ho _ (by omega)).trans h0, zln_oR ho h1 (by omega), hl, hf, zjunk_o ho h4 (by omega)⟩
theorem zse_bad {E : zE} {M : zM} {B : Nat} {cs : List Nat} {fs : List (PS × PS)} {ss : List Nat} {nb : Nat → Nat} {sc : Nat} {bad bad' : Int32} (H : zse E M B (cs, fs, ss, nb, sc, bad)) : zse E (zU M B (.inr (0, [.ref (B + 1), .ref (B + 1 + 2), .ref (B + 6), .ref (B + 10), .ref (B + 107), .ref (B + 311), .int bad']))) B (cs, fs, ss, nb, sc, bad') := by
  obtain ⟨h0, h1, h2, h3, h4⟩ := H
  have ho : zoutR M (zU M B (.inr (0, [.ref (B + 1), .ref (B + 1 + 2), .ref (B + 6), .ref (B + 10), .ref (B + 107), .ref (B + 311), .int bad']))) B (B + 1) := fun q hq => zU_ne (by omega)
  exact ⟨zU_eq, zln_oR ho h1 (by omega), zsf_oR ho h2 (by omega), h3, zjunk_o ho h4 (by omega)⟩
theorem zse_o {E : zE} {M M' : zM} {B lo hi : Nat} {s : St} (H : zse E M B s) (ho : zoutR M M' lo hi) (hne : hi ≤ B ∨ B + 312 ≤ lo) : zse E M' B s := by
  obtain ⟨cs, fs, ss, nb, sc, bad⟩ := s
  obtain ⟨h0, h1, h2, h3, h4⟩ := H
  exact ⟨(ho _ (by omega)).trans h0, zln_oR ho h1 (by omega), zsf_oR ho h2 (by omega), h3, zjunk_o ho h4 (by omega)⟩
/-- the FORM under a label -/
def lab (fs : List (PS × PS)) (x : Int32) : Option (PS × PS) := if x < 1 then none else fs[x.toNatClampNeg - 1]?
theorem lab_at {fs : List (PS × PS)} {i : Nat} (h : i < 2 ^ 30) : lab fs (nI (i + 1)) = fs[i]? := by
  unfold lab
  rw [if_neg (show ¬ nI (i + 1) < 1 from fun q => absurd ((nI_ltI (a := i + 1) (b := 1) (by omega) (by omega)).mp q) (by omega)), nI_clamp (by omega)]
  rfl
theorem lab_no {fs : List (PS × PS)} {x : Int32} (h : ¬ ∃ i : Nat, i < fs.length ∧ x = nI (i + 1)) : lab fs x = none := by
  unfold lab
  split
  · rfl
  · next q =>
    obtain ⟨c, hc, rfl⟩ := nI_of (x := x) (fun e => q (Int32.lt_trans e (by decide)))
    rw [nI_clamp (by omega)]
    have hc1 : 1 ≤ c := Nat.not_lt.mp (fun e => q ((nI_ltI (a := c) (b := 1) (by omega) (by omega)).mpr e))
    refine List.getElem?_eq_none (Nat.not_lt.mp (fun e => h ⟨c - 1, e, by rw [show c - 1 + 1 = c by omega]⟩))
noncomputable def q_degree (fs : List (PS × PS)) (x : Int32) (d : Bool) : Int32 := match lab fs x with
  | none => -1
  | some f => tI (cnt (if d then f.2 else f.1))
noncomputable def q_coef (fs : List (PS × PS)) (x : Int32) (d : Bool) (i : Int32) : Int32 := match lab fs x with
  | none => -1
  | some f => if i < 0 ∨ 12 < i then -1 else fI ((if d then f.2 else f.1) i.toNatClampNeg)
def q_shape (fs : List (PS × PS)) (ss : List Nat) (x : Int32) : Int32 := match lab fs x with
  | none => -1
  | some _ => nI (ss.getD (x.toNatClampNeg - 1) 0)
def q_bound (ss : List Nat) (nb : Nat → Nat) (x : Int32) : Int32 := if x < 0 ∨ 3 ≤ x then -1 else if nb x.toNatClampNeg = 0 then 0 else nI (ss.getD (nb x.toNatClampNeg - 1) 0)
/-- the point modulo the prime -/
def ptF (at_ : Int32) : FF := Fin.ofNat 10007 (at_.toInt % 10007).toNat
noncomputable def q_value (fs : List (PS × PS)) (x at_ : Int32) : Int32 := match lab fs x with
  | none => -1
  | some f => if ev (cnt f.2) f.2 (ptF at_) = 0 then -7 else fI (ev (cnt f.1) f.1 (ptF at_) * ff_inv (ev (cnt f.2) f.2 (ptF at_)))
noncomputable def q_text (fs : List (PS × PS)) (x i : Int32) : Int32 := match lab fs x with
  | none => -1
  | some f => if i < 0 then -1 else nI ((txt f).getD i.toNatClampNeg 0)
def q_line (cs : List Nat) (i : Int32) : Int32 := if i < 0 then nI cs.length else if i < nI cs.length then nI (cs.getD i.toNatClampNeg 0) else -1
noncomputable def q_type (x : Int32) : St → Int32 × St
  | (cs, fs, ss, nb, sc, bad) => pif (∃ c : Nat, c < 128 ∧ x = nI c ∧ mayH c) (if cs.length < 32 then (nI (cs.length + 1), (cs ++ [x.toNatClampNeg], fs, ss, nb, sc, bad)) else (-2, (cs, fs, ss, nb, sc, bad))) (-1, (cs, fs, ss, nb, sc, bad))
/-- the byte at a shift -/
def byL (w : Int64) (sh : Nat) : Int32 := ((w.toUInt64 >>> ((nI sh).toInt64.toUInt64 &&& Int64.toUInt64 63)).toInt64).toInt32 &&& nI 255
noncomputable def q_tys (w : Int64) : Nat → St → Int32 × St
  | 0, s => (nI s.1.length, s)
  | n + 1, s => if byL w (8 * n) = 0 then q_tys w n s else if (q_type (byL w (8 * n)) s).1 < 0 then q_type (byL w (8 * n)) s else q_tys w n (q_type (byL w (8 * n)) s).2
def q_back : St → Int32 × St
  | (cs, fs, ss, nb, sc, bad) => if cs.length = 0 then (-1, (cs, fs, ss, nb, sc, bad)) else (nI (cs.length - 1), (cs.dropLast, fs, ss, nb, sc, bad))
