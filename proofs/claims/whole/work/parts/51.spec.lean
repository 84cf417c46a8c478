/-! what is asked for, as functions: the FORM of a quotient, the operations, a program worked out -/
theorem zMet.mono {E : zE} {l : Launch} {y : MethodName} {cc : ByteArray} {maxL : Nat} {ret : Option FieldType} {rm : Room} {mc ms : Nat} {av : List Value} {sz : Nat} {M : zM} {post post' : Option Value → Nat → zM → Prop} (h : zMet E l y cc maxL ret rm mc ms av sz M post) (hp : ∀ v s M', post v s M' → post' v s M') : zMet E l y cc maxL ret rm mc ms av sz M post' := by
  intro p e ha hc hk s m args below hf happ hP hK
  obtain ⟨k, o, h1, h2, h3, ⟨⟨v, s', M', e1, e2, e3⟩, e4⟩, e5⟩ := h p e ha hc hk s m args below hf happ hP hK
  exact ⟨k, o, h1, h2, h3, ⟨⟨v, s', M', e1, hp _ _ _ e2, e3⟩, e4⟩, e5⟩
noncomputable def pif {α : Type} (c : Prop) (a b : α) : α := @ite α c (Classical.propDecidable c) a b
theorem pif_t {α : Type} {c : Prop} {a b : α} (h : c) : pif c a b = a := @if_pos c (Classical.propDecidable c) h α a b
theorem pif_f {α : Type} {c : Prop} {a b : α} (h : ¬ c) : pif c a b = b := @if_neg c (Classical.propDecidable c) h α a b
noncomputable def fOf (N D : PS) : PS × PS := @Classical.epsilon (PS × PS) ⟨(ps_0, ps_0)⟩ (fun x => formof N D x.1 x.2)
theorem fOf_eq {N D : PS} {x : PS × PS} {i : Nat} (hD : D i ≠ 0) (h : formof N D x.1 x.2) : fOf N D = x := by
  have h2 : formof N D (fOf N D).1 (fOf N D).2 := @Classical.epsilon_spec (PS × PS) (fun x => formof N D x.1 x.2) ⟨x, h⟩
  obtain ⟨e1, e2⟩ := formof_un hD h2 h
  exact Prod.ext e1 e2
/-- a trouble, or a FORM -/
abbrev Res : Type := Int32 ⊕ (PS × PS)
noncomputable def setl (N D : PS) : Res := pif (bigF (fOf N D)) (.inl (-6)) (.inr (fOf N D))
theorem setl_big {N D : PS} {x : PS × PS} {i : Nat} (hD : D i ≠ 0) (h : formof N D x.1 x.2) (hb : bigF x) : setl N D = .inl (-6) := by
  unfold setl
  rw [fOf_eq hD h, pif_t hb]
theorem setl_ok {N D : PS} {x : PS × PS} {i : Nat} (hD : D i ≠ 0) (h : formof N D x.1 x.2) (hb : ¬ bigF x) : setl N D = .inr x := by
  unfold setl
  rw [fOf_eq hD h, pif_f hb]
theorem hts_un {x : PS × PS} {a b : Nat} (h1 : hts x a) (h2 : hts x b) : a = b := by
  rcases Nat.lt_trichotomy a b with q | q | q
  · rcases h2.2.2 with e | e
    · exact absurd (h1.1 b q) e
    · exact absurd (h1.2.1 b q) e
  · exact q
  · rcases h1.2.2 with e | e
    · exact absurd (h2.1 a q) e
    · exact absurd (h2.2.1 a q) e
noncomputable def hgt (x : PS × PS) : Nat := @Classical.epsilon Nat ⟨0⟩ (hts x)
theorem hgt_eq {x : PS × PS} {a : Nat} (h : hts x a) : hgt x = a := hts_un (@Classical.epsilon_spec Nat (hts x) ⟨a, h⟩) h
noncomputable def oAdd (c : FF) (l r : PS × PS) : Res := setl (ps_add (ps_mul l.1 r.2) (ps_mul (ps_C c) (ps_mul r.1 l.2))) (ps_mul l.2 r.2)
noncomputable def oMul (l r : PS × PS) : Res := setl (ps_mul l.1 r.1) (ps_mul l.2 r.2)
noncomputable def oDiv (l r : PS × PS) : Res := pif (∀ i, r.1 i = 0) (.inl (-5)) (setl (ps_mul l.1 r.2) (ps_mul l.2 r.1))
noncomputable def oNeg (l : PS × PS) : Res := setl (ps_mul (ps_C 10006) l.1) l.2
noncomputable def oDer (l : PS × PS) : Res := setl (ps_add (ps_mul (ps_der l.1) l.2) (ps_mul (ps_C 10006) (ps_mul l.1 (ps_der l.2)))) (ps_mul l.2 l.2)
noncomputable def oPowP (t : Nat) (l : PS × PS) : Res := pif (12 < t * hgt l) (.inl (-6)) (setl (ps_pow l.1 t) (ps_pow l.2 t))
noncomputable def oPowN (t : Nat) (l : PS × PS) : Res := pif (∀ i, l.1 i = 0) (.inl (-5)) (pif (12 < t * hgt l) (.inl (-6)) (setl (ps_pow l.2 t) (ps_pow l.1 t)))
noncomputable def oComp (l r : PS × PS) : Res := pif (12 < hgt l * hgt r) (.inl (-6)) (pif (∀ i, hom (hgt l) l.2 r.1 r.2 i = 0) (.inl (-5)) (setl (hom (hgt l) l.1 r.1 r.2) (hom (hgt l) l.2 r.1 r.2)))
/-- what the worker holds behind a step -/
def resK (E : zE) (M' : zM) (k : Nat) (v : Option Value) (ys : List (PS × PS)) (r : Res) : Prop := match r with
  | .inl t => some (.int t) = v ∧ ¬ t = 0 ∧ ∃ xs', zwk E M' k xs'
  | .inr x => some (.int 0) = v ∧ isform x.1 x.2 ∧ zwk E M' k (ys ++ [x])
theorem setlR_K {E : zE} {M' : zM} {k : Nat} {v : Option Value} {ys : List (PS × PS)} {N D : PS} {i : Nat} (hD : D i ≠ 0) (h : setlR E M' k v ys N D) : resK E M' k v ys (setl N D) := by
  obtain ⟨x, hf, ⟨hb, e, hx⟩ | ⟨hb, e, hx⟩⟩ := h
  · rw [setl_big hD hf hb]; exact ⟨e, by decide, hx⟩
  · rw [setl_ok hD hf hb]; exact ⟨e, hf.1, hx⟩
def stepPost (E : zE) (M : zM) (sz k : Nat) (ys : List (PS × PS)) (r : Res) : Option Value → Nat → zM → Prop := fun v s M' => sz = s ∧ zoutR M M' k (k + 97) ∧ resK E M' k v ys r
/-- the steps of two sides -/
noncomputable def op2 (kd : Nat) (l r : PS × PS) : Res := match kd with
  | 8 => oAdd 1 l r
  | 9 => oAdd 10006 l r
  | 10 => oMul l r
  | 11 => oDiv l r
  | _ => oComp l r
/-- the steps of one side; the power's exponent -/
noncomputable def op1 (kd : Nat) (e : Int) (l : PS × PS) : Res := match kd with
  | 5 => if 0 ≤ e then oPowP e.toNat l else oPowN (-e).toNat l
  | 7 => oDer l
  | _ => oNeg l
theorem nz_of {P : PS} (h : ¬ ∀ i, P i = 0) : ∃ i, P i ≠ 0 := Classical.not_forall.mp h
