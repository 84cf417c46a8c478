/-! a program worked out, as a function; the stack's top stands first -/
noncomputable def push (r : Res) (ys : List (PS × PS)) : Int32 ⊕ List (PS × PS) := match r with
  | .inl t => .inl t
  | .inr f => .inr (f :: ys)
noncomputable def labF (fs : List (PS × PS)) (n : Nat) : Res := if n = 0 then .inl (-4) else match fs[n - 1]? with
  | some f => .inr f
  | none => .inl (-4)
noncomputable def stp (fs : List (PS × PS)) (nb : Nat → Nat) (x : Nat × Int) (rs : List (PS × PS)) : Int32 ⊕ List (PS × PS) :=
  if x.1 = 1 then .inr ((ps_C (Fin.ofNat 10007 x.2.toNat), ps_C 1) :: rs)
  else if x.1 = 2 then .inr ((mono 1 1, ps_C 1) :: rs)
  else if x.1 = 3 then push (labF fs (nb x.2.toNat)) rs
  else if x.1 = 4 then push (labF fs x.2.toNat) rs
  else if x.1 ≤ 7 then match rs with
    | l :: ys => push (op1 x.1 x.2 l) ys
    | [] => .inl (-6)
  else match rs with
    | r :: l :: ys => push (op2 x.1 l r) ys
    | _ => .inl (-6)
noncomputable def evp (fs : List (PS × PS)) (nb : Nat → Nat) : List (Nat × Int) → List (PS × PS) → Int32 ⊕ List (PS × PS)
  | [], rs => .inr rs
  | x :: ps, rs => match stp fs nb x rs with
    | .inl t => .inl t
    | .inr rs' => evp fs nb ps rs'
/-- a step can be done on a stack of d FORMs -/
def vst (x : Nat × Int) (d : Nat) : Prop := (x.1 = 1 ∧ 0 ≤ x.2 ∧ x.2 ≤ 99999 ∧ d < 16) ∨ (x.1 = 2 ∧ d < 16) ∨ (x.1 = 3 ∧ 0 ≤ x.2 ∧ x.2 < 3 ∧ d < 16) ∨ (x.1 = 4 ∧ 0 ≤ x.2 ∧ x.2 ≤ 99 ∧ d < 16) ∨ (5 ≤ x.1 ∧ x.1 ≤ 7 ∧ -12 ≤ x.2 ∧ x.2 ≤ 12 ∧ 1 ≤ d) ∨ (8 ≤ x.1 ∧ x.1 ≤ 12 ∧ 2 ≤ d)
def dst (x : Nat × Int) (d : Nat) : Nat := if x.1 ≤ 4 then d + 1 else if x.1 ≤ 7 then d else d - 1
def wfp : List (Nat × Int) → Nat → Prop
  | [], _ => True
  | x :: ps, d => vst x d ∧ wfp ps (dst x d)
def stK (E : zE) (M' : zM) (k : Nat) (v : Option Value) (d : Nat) (r : Int32 ⊕ List (PS × PS)) : Prop := match r with
  | .inl t => some (.int t) = v ∧ ¬ t = 0 ∧ ∃ xs', zwk E M' k xs'
  | .inr rs' => some (.int 0) = v ∧ (∀ x ∈ rs', isform x.1 x.2) ∧ zwk E M' k rs'.reverse ∧ rs'.length = d
theorem isf_C (c : FF) : isform (ps_C c) (ps_C 1) := by
  refine ⟨pol_C c, pol_C 1, ⟨ps_C 0, ps_C 1, pol_C 0, pol_C 1, ?_⟩, 0, ⟨by decide, fun i hi => by simp [ps_C, show i ≠ 0 by omega]⟩, rfl⟩
  letI := ps_ring
  show (0 : PS) * ps_C c + 1 * 1 = 1
  grind
theorem isf_X : isform (mono 1 1) (ps_C 1) := by
  refine ⟨pol_mono 1 1, pol_C 1, ⟨ps_C 0, ps_C 1, pol_C 0, pol_C 1, ?_⟩, 0, ⟨by decide, fun i hi => by simp [ps_C, show i ≠ 0 by omega]⟩, rfl⟩
  letI := ps_ring
  show (0 : PS) * mono 1 1 + 1 * 1 = 1
  grind
theorem push_K {E : zE} {M' : zM} {k : Nat} {v : Option Value} {ys : List (PS × PS)} {r : Res} (hy : ∀ x ∈ ys, isform x.1 x.2) (h : resK E M' k v ys.reverse r) : stK E M' k v (ys.length + 1) (push r ys) := by
  cases r with
  | inl t => exact h
  | inr f =>
    obtain ⟨h1, h2, h3⟩ := h
    refine ⟨h1, fun x hx => ?_, by rw [List.reverse_cons]; exact h3, by simp⟩
    rcases List.mem_cons.mp hx with q | q
    · rw [q]; exact h2
    · exact hy x q
theorem ofI_n {n : Nat} : Int32.ofInt (n : Int) = nI n := rfl
