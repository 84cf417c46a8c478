/-! what is fixed for the whole proof: classes, array classes, the cells that may be written, the text of the line's characters -/
abbrev zM : Type := Nat → Option va_E
abbrev zE : Type := va_G × (Nat → ClassId) × (Nat → Prop) × (Nat → Nat) × (Nat → Nat)
abbrev zTy (c : Nat → ClassId) : List (ClassId × FieldType) := [(c 0, .int), (c 1, .char), (c 2, .boolean), (c 3, .object "RationalSession$Form")]
def zO : List String := ["RationalSession$Form"]
def zTx : String := "0123456789xabcds%+-*/^(),:"
def zBy : List Int32 := [48, 49, 50, 51, 52, 53, 54, 55, 56, 57, 120, 97, 98, 99, 100, 115, 37, 43, 45, 42, 47, 94, 40, 41, 44, 58]
theorem zN_tab {w : Cond} (h : w ∈ zN) : w.onTables = true := by
  have h2 := (List.mem_filter.mp h).2
  cases w <;> first | rfl | (simp [zisN] at h2)
def zJ (E : zE) (U : State) : Prop := (∀ w ∈ zN, va_Nw w U) ∧ (∀ C ∈ zO, va_AO C U) ∧ vk_R "RationalSession$Line" 19 zTx (E.2.2.2.1 0) U ∧ vk_S 1 [26] [zBy] E.2.2.2.1 E.2.2.2.2 E.2.2.1 U U.heap ∧ va_Z "java/lang/String" "COMPACT_STRINGS" "Z" (.int 1) E.2.2.1 U U.heap
theorem zJ_same {E : zE} {u U : State} (hv : u.vm = U.vm) (hh : u.heap = U.heap) (h : zJ E u) : zJ E U := by
  obtain ⟨h1, h2, h3, h4, h5⟩ := h
  have ha : u.vm.Alike U.vm := by rw [hv]; exact Vm.Alike.refl _
  refine ⟨fun w hw => va_Nw.same (zN_tab hw) hv (h1 w hw), fun C hC => (h2 C hC).moved ha, h3.same hv.symm, ?_, ?_⟩
  · rw [← hh]
    exact h4.moved ha
  · rw [← hh]
    exact h5.moved ha
theorem zJ_warm {E : zE} {u U : State} (hW : u.WarmedH U.vm) (hk : ∀ q : Nat, q < u.heap.size → ¬ E.2.2.1 q → U.heap[q]? = u.heap[q]?) (h : zJ E u) : zJ E U := by
  obtain ⟨h1, h2, h3, h4, h5⟩ := h
  refine ⟨fun w hw => ?_, fun C hC => (h2 C hC).moved hW.alike, h3.warm hW, (h4.moved hW.alike).kept hk, (h5.moved hW.alike).kept hk⟩
  have h9 := h1 w hw
  have h8 := (List.mem_filter.mp hw).2
  cases w with
  | fieldLinkNest a b c d e f => exact va_Nw.warmF hW h9
  | methodLinkNest a b c d => exact va_Nw.warmM hW h9
  | _ => simp [zisN] at h8
