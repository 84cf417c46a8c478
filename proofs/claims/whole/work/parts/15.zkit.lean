/-! WORLDS AS FUNCTIONS: the heap and the array of locals are hidden; a goal is Z: program counter, locals, stack, world -/
def zU (M : zM) (a : Nat) (e : va_E) : zM := fun q => if q = a then some e else M q
theorem zU_eq {M : zM} {a : Nat} {e : va_E} : zU M a e a = some e := by simp [zU]
theorem zU_ne {M : zM} {a b : Nat} {e : va_E} (h : b ≠ a) : zU M a e b = M b := by simp [zU, h]
theorem zU_uu {M : zM} {a : Nat} {e e' : va_E} : zU (zU M a e) a e' = zU M a e' := by
  funext q
  by_cases h : q = a <;> simp [zU, h]
theorem zU_id {M : zM} {a : Nat} {e : va_E} (h : M a = some e) : zU M a e = M := by
  funext q
  by_cases hq : q = a
  · subst hq; simp [zU, h]
  · simp [zU, hq]
theorem zU_cm {M : zM} {a b : Nat} {e e' : va_E} (h : a ≠ b) : zU (zU M a e) b e' = zU (zU M b e') a e := by
  funext q
  by_cases h1 : q = a
  · subst h1; simp [zU, h]
  · by_cases h2 : q = b
    · subst h2; simp [zU, h1]
    · simp [zU, h1, h2]
abbrev zX : Type := Program × Launch × Env × Room × State × MethodId × Array Value × List Frame × Method × Code
/-- the heap holds the world -/
def zH (E : zE) (M : zM) (H : Heap) : Prop := ∀ (a : Nat) (e : va_E), M a = some e → E.2.2.1 a ∧ va_at E.1 vwCl (a, e) H
def zI (E : zE) (sz : Nat) (M : zM) (U : State) : Prop := U.heap.size = sz ∧ zH E M U.heap ∧ va_K E.1 vwCl (zTy E.2.1) U ∧ (∀ q : Nat, sz ≤ q → E.2.2.1 q) ∧ zJ E U
def zC (X : zX) (E : zE) (cc : ByteArray) (own : String) (nL : Nat) (ret : Option FieldType) (rm : Room) : Prop :=
  X.1.tables.exec = Jvm.exec ∧ X.2.2.2.2.2.2.2.2.2.code = cc ∧ X.2.2.2.2.2.2.2.2.2.maxLocals = nL ∧ X.2.2.2.2.1.vm.findClass own = some X.2.2.2.2.2.1.cls ∧ (∀ w ∈ zWS, w.before X.2.2.2.2.2.2.1 X.2.2.2.2.1 = true) ∧ va_K E.1 vwCl (zTy E.2.1) X.2.2.2.2.1 ∧ (∀ q : Nat, X.2.2.2.2.1.heap.size ≤ q → E.2.2.1 q) ∧ X.2.2.2.2.2.2.2.2.1.locks = false ∧ X.2.2.2.2.2.2.2.2.1.sig.returnType = ret ∧ X.2.2.2.1 = rm ∧ zJ E X.2.2.2.2.1
def Z (X : zX) (E : zE) (nL : Nat) (Q : State → Prop) (kc ks sz : Nat) (M : zM) (pc : Nat) (L : List (Nat × Value)) (st : List Value) : Prop :=
  ∀ (H : Heap) (locs : List Loc) (ls : Array Slot), H.size = sz → zH E M H → va_S E.2.2.1 X.2.2.2.2.1.heap H locs → lv_has ls nL L →
    W X.1 X.2.1 X.2.2.1 X.2.2.2.1 X.2.2.2.2.1 X.2.2.2.2.2.1 X.2.2.2.2.2.2.1 X.2.2.2.2.2.2.2.1 X.2.2.2.2.2.2.2.2.1 X.2.2.2.2.2.2.2.2.2 H locs kc ks Q (F0 X.2.2.2.2.2.1 pc ls st)
/-- a method's end: the answer, the new size, the new world -/
def zQc (E : zE) (post : Option Value → Nat → zM → Prop) : Array Value → State → Outcome → State → Prop := fun _ st oc t => (∃ (v : Option Value) (sz : Nat) (M : zM), oc = .returned v ∧ post v sz M ∧ zI E sz M t) ∧ va_F E.2.2.1 st t
/-- a method's contract -/
def zMet (E : zE) (l : Launch) (y : MethodName) (cc : ByteArray) (maxL : Nat) (ret : Option FieldType) (rm : Room) (mc ms : Nat) (av : List Value) (sz : Nat) (M : zM) (post : Option Value → Nat → zM → Prop) : Prop :=
  Met l y (Cond.code y cc maxL ret :: zWS) rm (va_Pc av (zI E sz M)) (zQc E post) mc ms E.2.2.1
def zQ (X : zX) (E : zE) (mc ms : Nat) (post : Option Value → Nat → zM → Prop) : State → Prop := MQ X.2.2.2.2.2.2.2.1 (zQc E post) X.2.2.2.2.2.2.1 X.2.2.2.2.1 mc ms E.2.2.1
theorem zH.one {E : zE} {M : zM} {H : Heap} {a : Nat} {e : va_E} (h : zH E M H) (he : M a = some e) : va_P E.1 vwCl [(a, e)] H := by
  intro k q hq
  cases k with
  | zero => cases hq; exact (h a e he).2
  | succ k => simp at hq
theorem zH.set {E : zE} {M : zM} {H H1 : Heap} {a : Nat} {e : va_E} (h : zH E M H) (hA : E.2.2.1 a) (he : va_at E.1 vwCl (a, e) H1) (oq : ∀ q : Nat, q ≠ a → H1[q]? = H[q]?) : zH E (zU M a e) H1 := by
  intro b e' hb
  by_cases hba : b = a
  · subst hba
    rw [zU_eq] at hb
    cases hb
    exact ⟨hA, he⟩
  · rw [zU_ne hba] at hb
    obtain ⟨x, y⟩ := h b e' hb
    exact ⟨x, y.kept (oq b hba)⟩
theorem zH.new {E : zE} {M : zM} {H H1 : Heap} {e : va_E} {h0 : Nat} (h : zH E M H) (hz : H.size = h0) (hA : E.2.2.1 h0) (he : va_at E.1 vwCl (h0, e) H1) (oq : ∀ q : Nat, q < h0 → H1[q]? = H[q]?) : zH E (zU M h0 e) H1 := by
  intro b e' hb
  by_cases hba : b = h0
  · subst hba
    rw [zU_eq] at hb
    cases hb
    exact ⟨hA, he⟩
  · rw [zU_ne hba] at hb
    obtain ⟨x, y⟩ := h b e' hb
    have hlt := y.lt
    exact ⟨x, y.kept (oq b (by rw [hz] at hlt; exact hlt))⟩
theorem zH.none {E : zE} {M : zM} {H : Heap} {h0 : Nat} (h : zH E M H) (hz : H.size = h0) : ∀ a : Nat, h0 ≤ a → M a = none := by
  intro a ha
  cases hm : M a with
  | none => rfl
  | some e =>
    have hlt : a < H.size := (h a e hm).2.lt
    omega
section ZR
variable {X : zX} {E : zE} {nL : Nat} {Q : State → Prop} {kc ks sz : Nat} {M : zM} {pc : Nat} {L : List (Nat × Value)} {rest : List Value} {cc : ByteArray} {own : String} {ret : Option FieldType} {rm : Room}
theorem z_iconst (C : zC X E cc own nL ret rm) {n : Int} {v : Int32} (hdg : decode cc pc = .ok (.iconst n, 1)) (hv : Int32.ofInt n = v) (kk : Z X E nL Q kc ks sz M (pc + 1) L (.int v :: rest)) : Z X E nL Q kc ks sz M pc L (rest) := fun H locs ls a1 a2 a3 a4 => lv_iconst C.1 C.2.1 hdg hv (kk H locs ls a1 a2 a3 a4)
theorem z_bipush (C : zC X E cc own nL ret rm) {n : Int} {v : Int32} (hdg : decode cc pc = .ok (.bipush n, 2)) (hv : (Int8.ofInt n).toInt32 = v) (kk : Z X E nL Q kc ks sz M (pc + 2) L (.int v :: rest)) : Z X E nL Q kc ks sz M pc L (rest) := fun H locs ls a1 a2 a3 a4 => lv_bipush C.1 C.2.1 hdg hv (kk H locs ls a1 a2 a3 a4)
theorem z_sipush (C : zC X E cc own nL ret rm) {n : Int} {v : Int32} (hdg : decode cc pc = .ok (.sipush n, 3)) (hv : (Int16.ofInt n).toInt32 = v) (kk : Z X E nL Q kc ks sz M (pc + 3) L (.int v :: rest)) : Z X E nL Q kc ks sz M pc L (rest) := fun H locs ls a1 a2 a3 a4 => lv_sipush C.1 C.2.1 hdg hv (kk H locs ls a1 a2 a3 a4)
theorem z_lconst (C : zC X E cc own nL ret rm) {n : Fin 2} {v : Int64} (hdg : decode cc pc = .ok (.lconst n, 1)) (hv : Int64.ofNat (n : Nat) = v) (kk : Z X E nL Q kc ks sz M (pc + 1) L (.long v :: rest)) : Z X E nL Q kc ks sz M pc L (rest) := fun H locs ls a1 a2 a3 a4 => lv_lconst C.1 C.2.1 hdg hv (kk H locs ls a1 a2 a3 a4)
theorem z_iadd (C : zC X E cc own nL ret rm) {x y : Int32} (hdg : decode cc pc = .ok (.iadd, 1)) (kk : Z X E nL Q kc ks sz M (pc + 1) L (.int (x + y) :: rest)) : Z X E nL Q kc ks sz M pc L (.int y :: .int x :: rest) := fun H locs ls a1 a2 a3 a4 => lv_iadd C.1 C.2.1 hdg (kk H locs ls a1 a2 a3 a4)
theorem z_isub (C : zC X E cc own nL ret rm) {x y : Int32} (hdg : decode cc pc = .ok (.isub, 1)) (kk : Z X E nL Q kc ks sz M (pc + 1) L (.int (x - y) :: rest)) : Z X E nL Q kc ks sz M pc L (.int y :: .int x :: rest) := fun H locs ls a1 a2 a3 a4 => lv_isub C.1 C.2.1 hdg (kk H locs ls a1 a2 a3 a4)
theorem z_imul (C : zC X E cc own nL ret rm) {x y : Int32} (hdg : decode cc pc = .ok (.imul, 1)) (kk : Z X E nL Q kc ks sz M (pc + 1) L (.int (x * y) :: rest)) : Z X E nL Q kc ks sz M pc L (.int y :: .int x :: rest) := fun H locs ls a1 a2 a3 a4 => lv_imul C.1 C.2.1 hdg (kk H locs ls a1 a2 a3 a4)
theorem z_iand (C : zC X E cc own nL ret rm) {x y : Int32} (hdg : decode cc pc = .ok (.iand, 1)) (kk : Z X E nL Q kc ks sz M (pc + 1) L (.int (x &&& y) :: rest)) : Z X E nL Q kc ks sz M pc L (.int y :: .int x :: rest) := fun H locs ls a1 a2 a3 a4 => lv_iand C.1 C.2.1 hdg (kk H locs ls a1 a2 a3 a4)
theorem z_ior (C : zC X E cc own nL ret rm) {x y : Int32} (hdg : decode cc pc = .ok (.ior, 1)) (kk : Z X E nL Q kc ks sz M (pc + 1) L (.int (x ||| y) :: rest)) : Z X E nL Q kc ks sz M pc L (.int y :: .int x :: rest) := fun H locs ls a1 a2 a3 a4 => lv_ior C.1 C.2.1 hdg (kk H locs ls a1 a2 a3 a4)
theorem z_ixor (C : zC X E cc own nL ret rm) {x y : Int32} (hdg : decode cc pc = .ok (.ixor, 1)) (kk : Z X E nL Q kc ks sz M (pc + 1) L (.int (x ^^^ y) :: rest)) : Z X E nL Q kc ks sz M pc L (.int y :: .int x :: rest) := fun H locs ls a1 a2 a3 a4 => lv_ixor C.1 C.2.1 hdg (kk H locs ls a1 a2 a3 a4)
theorem z_idiv (C : zC X E cc own nL ret rm) {x y : Int32} (hdg : decode cc pc = .ok (.idiv, 1)) (hne : ¬ y = 0) (kk : Z X E nL Q kc ks sz M (pc + 1) L (.int (x / y) :: rest)) : Z X E nL Q kc ks sz M pc L (.int y :: .int x :: rest) := fun H locs ls a1 a2 a3 a4 => lv_idiv C.1 C.2.1 hdg hne (kk H locs ls a1 a2 a3 a4)
theorem z_irem (C : zC X E cc own nL ret rm) {x y : Int32} (hdg : decode cc pc = .ok (.irem, 1)) (hne : ¬ y = 0) (kk : Z X E nL Q kc ks sz M (pc + 1) L (.int (x - x / y * y) :: rest)) : Z X E nL Q kc ks sz M pc L (.int y :: .int x :: rest) := fun H locs ls a1 a2 a3 a4 => lv_irem C.1 C.2.1 hdg hne (kk H locs ls a1 a2 a3 a4)
theorem z_ineg (C : zC X E cc own nL ret rm) {x : Int32} (hdg : decode cc pc = .ok (.ineg, 1)) (kk : Z X E nL Q kc ks sz M (pc + 1) L (.int (-x) :: rest)) : Z X E nL Q kc ks sz M pc L (.int x :: rest) := fun H locs ls a1 a2 a3 a4 => lv_ineg C.1 C.2.1 hdg (kk H locs ls a1 a2 a3 a4)
theorem z_ladd (C : zC X E cc own nL ret rm) {x y : Int64} (hdg : decode cc pc = .ok (.ladd, 1)) (kk : Z X E nL Q kc ks sz M (pc + 1) L (.long (x + y) :: rest)) : Z X E nL Q kc ks sz M pc L (.long y :: .long x :: rest) := fun H locs ls a1 a2 a3 a4 => lv_ladd C.1 C.2.1 hdg (kk H locs ls a1 a2 a3 a4)
theorem z_lsub (C : zC X E cc own nL ret rm) {x y : Int64} (hdg : decode cc pc = .ok (.lsub, 1)) (kk : Z X E nL Q kc ks sz M (pc + 1) L (.long (x - y) :: rest)) : Z X E nL Q kc ks sz M pc L (.long y :: .long x :: rest) := fun H locs ls a1 a2 a3 a4 => lv_lsub C.1 C.2.1 hdg (kk H locs ls a1 a2 a3 a4)
theorem z_lmul (C : zC X E cc own nL ret rm) {x y : Int64} (hdg : decode cc pc = .ok (.lmul, 1)) (kk : Z X E nL Q kc ks sz M (pc + 1) L (.long (x * y) :: rest)) : Z X E nL Q kc ks sz M pc L (.long y :: .long x :: rest) := fun H locs ls a1 a2 a3 a4 => lv_lmul C.1 C.2.1 hdg (kk H locs ls a1 a2 a3 a4)
theorem z_land (C : zC X E cc own nL ret rm) {x y : Int64} (hdg : decode cc pc = .ok (.land, 1)) (kk : Z X E nL Q kc ks sz M (pc + 1) L (.long (x &&& y) :: rest)) : Z X E nL Q kc ks sz M pc L (.long y :: .long x :: rest) := fun H locs ls a1 a2 a3 a4 => lv_land C.1 C.2.1 hdg (kk H locs ls a1 a2 a3 a4)
theorem z_lor (C : zC X E cc own nL ret rm) {x y : Int64} (hdg : decode cc pc = .ok (.lor, 1)) (kk : Z X E nL Q kc ks sz M (pc + 1) L (.long (x ||| y) :: rest)) : Z X E nL Q kc ks sz M pc L (.long y :: .long x :: rest) := fun H locs ls a1 a2 a3 a4 => lv_lor C.1 C.2.1 hdg (kk H locs ls a1 a2 a3 a4)
theorem z_lxor (C : zC X E cc own nL ret rm) {x y : Int64} (hdg : decode cc pc = .ok (.lxor, 1)) (kk : Z X E nL Q kc ks sz M (pc + 1) L (.long (x ^^^ y) :: rest)) : Z X E nL Q kc ks sz M pc L (.long y :: .long x :: rest) := fun H locs ls a1 a2 a3 a4 => lv_lxor C.1 C.2.1 hdg (kk H locs ls a1 a2 a3 a4)
theorem z_ldiv (C : zC X E cc own nL ret rm) {x y : Int64} (hdg : decode cc pc = .ok (.ldiv, 1)) (hne : ¬ y = 0) (kk : Z X E nL Q kc ks sz M (pc + 1) L (.long (x / y) :: rest)) : Z X E nL Q kc ks sz M pc L (.long y :: .long x :: rest) := fun H locs ls a1 a2 a3 a4 => lv_ldiv C.1 C.2.1 hdg hne (kk H locs ls a1 a2 a3 a4)
theorem z_lrem (C : zC X E cc own nL ret rm) {x y : Int64} (hdg : decode cc pc = .ok (.lrem, 1)) (hne : ¬ y = 0) (kk : Z X E nL Q kc ks sz M (pc + 1) L (.long (x - x / y * y) :: rest)) : Z X E nL Q kc ks sz M pc L (.long y :: .long x :: rest) := fun H locs ls a1 a2 a3 a4 => lv_lrem C.1 C.2.1 hdg hne (kk H locs ls a1 a2 a3 a4)
theorem z_lneg (C : zC X E cc own nL ret rm) {x : Int64} (hdg : decode cc pc = .ok (.lneg, 1)) (kk : Z X E nL Q kc ks sz M (pc + 1) L (.long (-x) :: rest)) : Z X E nL Q kc ks sz M pc L (.long x :: rest) := fun H locs ls a1 a2 a3 a4 => lv_lneg C.1 C.2.1 hdg (kk H locs ls a1 a2 a3 a4)
theorem z_ishl (C : zC X E cc own nL ret rm) {x y : Int32} (hdg : decode cc pc = .ok (.ishl, 1)) (kk : Z X E nL Q kc ks sz M (pc + 1) L (.int (x <<< (y &&& 31)) :: rest)) : Z X E nL Q kc ks sz M pc L (.int y :: .int x :: rest) := fun H locs ls a1 a2 a3 a4 => lv_ishl C.1 C.2.1 hdg (kk H locs ls a1 a2 a3 a4)
theorem z_ishr (C : zC X E cc own nL ret rm) {x y : Int32} (hdg : decode cc pc = .ok (.ishr, 1)) (kk : Z X E nL Q kc ks sz M (pc + 1) L (.int (x >>> (y &&& 31)) :: rest)) : Z X E nL Q kc ks sz M pc L (.int y :: .int x :: rest) := fun H locs ls a1 a2 a3 a4 => lv_ishr C.1 C.2.1 hdg (kk H locs ls a1 a2 a3 a4)
theorem z_i2l (C : zC X E cc own nL ret rm) {x : Int32} {v : Int64} (hdg : decode cc pc = .ok (.i2l, 1)) (hv : x.toInt64 = v) (kk : Z X E nL Q kc ks sz M (pc + 1) L (.long v :: rest)) : Z X E nL Q kc ks sz M pc L (.int x :: rest) := fun H locs ls a1 a2 a3 a4 => lv_i2l C.1 C.2.1 hdg hv (kk H locs ls a1 a2 a3 a4)
theorem z_l2i (C : zC X E cc own nL ret rm) {x : Int64} {v : Int32} (hdg : decode cc pc = .ok (.l2i, 1)) (hv : x.toInt32 = v) (kk : Z X E nL Q kc ks sz M (pc + 1) L (.int v :: rest)) : Z X E nL Q kc ks sz M pc L (.long x :: rest) := fun H locs ls a1 a2 a3 a4 => lv_l2i C.1 C.2.1 hdg hv (kk H locs ls a1 a2 a3 a4)
theorem z_i2b (C : zC X E cc own nL ret rm) {x : Int32} {v : Int32} (hdg : decode cc pc = .ok (.i2b, 1)) (hv : x.toInt8.toInt32 = v) (kk : Z X E nL Q kc ks sz M (pc + 1) L (.int v :: rest)) : Z X E nL Q kc ks sz M pc L (.int x :: rest) := fun H locs ls a1 a2 a3 a4 => lv_i2b C.1 C.2.1 hdg hv (kk H locs ls a1 a2 a3 a4)
theorem z_i2s (C : zC X E cc own nL ret rm) {x : Int32} {v : Int32} (hdg : decode cc pc = .ok (.i2s, 1)) (hv : x.toInt16.toInt32 = v) (kk : Z X E nL Q kc ks sz M (pc + 1) L (.int v :: rest)) : Z X E nL Q kc ks sz M pc L (.int x :: rest) := fun H locs ls a1 a2 a3 a4 => lv_i2s C.1 C.2.1 hdg hv (kk H locs ls a1 a2 a3 a4)
theorem z_i2c (C : zC X E cc own nL ret rm) {x : Int32} {v : Int32} (hdg : decode cc pc = .ok (.i2c, 1)) (hv : (x.toUInt32 % 65536).toInt32 = v) (kk : Z X E nL Q kc ks sz M (pc + 1) L (.int v :: rest)) : Z X E nL Q kc ks sz M pc L (.int x :: rest) := fun H locs ls a1 a2 a3 a4 => lv_i2c C.1 C.2.1 hdg hv (kk H locs ls a1 a2 a3 a4)
theorem z_iushr (C : zC X E cc own nL ret rm) {x y v : Int32} (hdg : decode cc pc = .ok (.iushr, 1)) (hv : (x.toUInt32 >>> (y.toUInt32 &&& Int32.toUInt32 31)).toInt32 = v) (kk : Z X E nL Q kc ks sz M (pc + 1) L (.int v :: rest)) : Z X E nL Q kc ks sz M pc L (.int y :: .int x :: rest) := fun H locs ls a1 a2 a3 a4 => lv_iushr C.1 C.2.1 hdg hv (kk H locs ls a1 a2 a3 a4)
theorem z_lushr (C : zC X E cc own nL ret rm) {x v : Int64} {y : Int32} (hdg : decode cc pc = .ok (.lushr, 1)) (hv : (x.toUInt64 >>> (y.toInt64.toUInt64 &&& Int64.toUInt64 63)).toInt64 = v) (kk : Z X E nL Q kc ks sz M (pc + 1) L (.long v :: rest)) : Z X E nL Q kc ks sz M pc L (.int y :: .long x :: rest) := fun H locs ls a1 a2 a3 a4 => lv_lushr C.1 C.2.1 hdg hv (kk H locs ls a1 a2 a3 a4)
theorem z_lshl (C : zC X E cc own nL ret rm) {x v : Int64} {y : Int32} (hdg : decode cc pc = .ok (.lshl, 1)) (hv : x <<< (y.toInt64 &&& 63) = v) (kk : Z X E nL Q kc ks sz M (pc + 1) L (.long v :: rest)) : Z X E nL Q kc ks sz M pc L (.int y :: .long x :: rest) := fun H locs ls a1 a2 a3 a4 => lv_lshl C.1 C.2.1 hdg hv (kk H locs ls a1 a2 a3 a4)
theorem z_lshr (C : zC X E cc own nL ret rm) {x v : Int64} {y : Int32} (hdg : decode cc pc = .ok (.lshr, 1)) (hv : x >>> (y.toInt64 &&& 63) = v) (kk : Z X E nL Q kc ks sz M (pc + 1) L (.long v :: rest)) : Z X E nL Q kc ks sz M pc L (.int y :: .long x :: rest) := fun H locs ls a1 a2 a3 a4 => lv_lshr C.1 C.2.1 hdg hv (kk H locs ls a1 a2 a3 a4)
theorem z_dup (C : zC X E cc own nL ret rm) {va : Value} (hdg : decode cc pc = .ok (.dup, 1)) (hva : va.category = 1) (kk : Z X E nL Q kc ks sz M (pc + 1) L (va :: va :: rest)) : Z X E nL Q kc ks sz M pc L (va :: rest) := fun H locs ls a1 a2 a3 a4 => lv_dup C.1 C.2.1 hdg hva (kk H locs ls a1 a2 a3 a4)
theorem z_pop (C : zC X E cc own nL ret rm) {va : Value} (hdg : decode cc pc = .ok (.pop, 1)) (hva : va.category = 1) (kk : Z X E nL Q kc ks sz M (pc + 1) L (rest)) : Z X E nL Q kc ks sz M pc L (va :: rest) := fun H locs ls a1 a2 a3 a4 => lv_pop C.1 C.2.1 hdg hva (kk H locs ls a1 a2 a3 a4)
theorem z_dup_x1 (C : zC X E cc own nL ret rm) {va vb : Value} (hdg : decode cc pc = .ok (.dup_x1, 1)) (hva : va.category = 1) (hvb : vb.category = 1) (kk : Z X E nL Q kc ks sz M (pc + 1) L (va :: vb :: va :: rest)) : Z X E nL Q kc ks sz M pc L (va :: vb :: rest) := fun H locs ls a1 a2 a3 a4 => lv_dup_x1 C.1 C.2.1 hdg hva hvb (kk H locs ls a1 a2 a3 a4)
theorem z_dup_x2 (C : zC X E cc own nL ret rm) {va vb vd : Value} (hdg : decode cc pc = .ok (.dup_x2, 1)) (hva : va.category = 1) (hvb : vb.category = 1) (hvd : vd.category = 1) (kk : Z X E nL Q kc ks sz M (pc + 1) L (va :: vb :: vd :: va :: rest)) : Z X E nL Q kc ks sz M pc L (va :: vb :: vd :: rest) := fun H locs ls a1 a2 a3 a4 => lv_dup_x2 C.1 C.2.1 hdg hva hvb hvd (kk H locs ls a1 a2 a3 a4)
theorem z_dup2_11 (C : zC X E cc own nL ret rm) {va vb : Value} (hdg : decode cc pc = .ok (.dup2, 1)) (hva : va.category = 1) (hvb : vb.category = 1) (kk : Z X E nL Q kc ks sz M (pc + 1) L (va :: vb :: va :: vb :: rest)) : Z X E nL Q kc ks sz M pc L (va :: vb :: rest) := fun H locs ls a1 a2 a3 a4 => lv_dup2_11 C.1 C.2.1 hdg hva hvb (kk H locs ls a1 a2 a3 a4)
theorem z_dup2_2 (C : zC X E cc own nL ret rm) {va : Value} (hdg : decode cc pc = .ok (.dup2, 1)) (hva : va.category = 2) (kk : Z X E nL Q kc ks sz M (pc + 1) L (va :: va :: rest)) : Z X E nL Q kc ks sz M pc L (va :: rest) := fun H locs ls a1 a2 a3 a4 => lv_dup2_2 C.1 C.2.1 hdg hva (kk H locs ls a1 a2 a3 a4)
theorem z_pop2_2 (C : zC X E cc own nL ret rm) {va : Value} (hdg : decode cc pc = .ok (.pop2, 1)) (hva : va.category = 2) (kk : Z X E nL Q kc ks sz M (pc + 1) L (rest)) : Z X E nL Q kc ks sz M pc L (va :: rest) := fun H locs ls a1 a2 a3 a4 => lv_pop2_2 C.1 C.2.1 hdg hva (kk H locs ls a1 a2 a3 a4)
theorem z_pop2_11 (C : zC X E cc own nL ret rm) {va vb : Value} (hdg : decode cc pc = .ok (.pop2, 1)) (hva : va.category = 1) (hvb : vb.category = 1) (kk : Z X E nL Q kc ks sz M (pc + 1) L (rest)) : Z X E nL Q kc ks sz M pc L (va :: vb :: rest) := fun H locs ls a1 a2 a3 a4 => lv_pop2_11 C.1 C.2.1 hdg hva hvb (kk H locs ls a1 a2 a3 a4)
theorem z_if_eq (C : zC X E cc own nL ret rm) {x : Int32} {off : Int} {tgt : Nat} (hdg : decode cc pc = .ok (.ifCond .eq off, 3)) (ht : (pc : Int) + off = (tgt : Int)) (kt : x = 0 → Z X E nL Q kc ks sz M tgt L rest) (kf : ¬ x = 0 → Z X E nL Q kc ks sz M (pc + 3) L rest) : Z X E nL Q kc ks sz M pc L (.int x :: rest) := fun H locs ls a1 a2 a3 a4 => lv_if_eq C.1 C.2.1 hdg ht (fun h => kt h H locs ls a1 a2 a3 a4) (fun h => kf h H locs ls a1 a2 a3 a4)
theorem z_icmp_eq (C : zC X E cc own nL ret rm) {x y : Int32} {off : Int} {tgt : Nat} (hdg : decode cc pc = .ok (.if_icmp .eq off, 3)) (ht : (pc : Int) + off = (tgt : Int)) (kt : x = y → Z X E nL Q kc ks sz M tgt L rest) (kf : ¬ x = y → Z X E nL Q kc ks sz M (pc + 3) L rest) : Z X E nL Q kc ks sz M pc L (.int y :: .int x :: rest) := fun H locs ls a1 a2 a3 a4 => lv_icmp_eq C.1 C.2.1 hdg ht (fun h => kt h H locs ls a1 a2 a3 a4) (fun h => kf h H locs ls a1 a2 a3 a4)
theorem z_if_ne (C : zC X E cc own nL ret rm) {x : Int32} {off : Int} {tgt : Nat} (hdg : decode cc pc = .ok (.ifCond .ne off, 3)) (ht : (pc : Int) + off = (tgt : Int)) (kt : ¬ x = 0 → Z X E nL Q kc ks sz M tgt L rest) (kf : x = 0 → Z X E nL Q kc ks sz M (pc + 3) L rest) : Z X E nL Q kc ks sz M pc L (.int x :: rest) := fun H locs ls a1 a2 a3 a4 => lv_if_ne C.1 C.2.1 hdg ht (fun h => kt h H locs ls a1 a2 a3 a4) (fun h => kf h H locs ls a1 a2 a3 a4)
theorem z_icmp_ne (C : zC X E cc own nL ret rm) {x y : Int32} {off : Int} {tgt : Nat} (hdg : decode cc pc = .ok (.if_icmp .ne off, 3)) (ht : (pc : Int) + off = (tgt : Int)) (kt : ¬ x = y → Z X E nL Q kc ks sz M tgt L rest) (kf : x = y → Z X E nL Q kc ks sz M (pc + 3) L rest) : Z X E nL Q kc ks sz M pc L (.int y :: .int x :: rest) := fun H locs ls a1 a2 a3 a4 => lv_icmp_ne C.1 C.2.1 hdg ht (fun h => kt h H locs ls a1 a2 a3 a4) (fun h => kf h H locs ls a1 a2 a3 a4)
theorem z_if_lt (C : zC X E cc own nL ret rm) {x : Int32} {off : Int} {tgt : Nat} (hdg : decode cc pc = .ok (.ifCond .lt off, 3)) (ht : (pc : Int) + off = (tgt : Int)) (kt : x < 0 → Z X E nL Q kc ks sz M tgt L rest) (kf : ¬ x < 0 → Z X E nL Q kc ks sz M (pc + 3) L rest) : Z X E nL Q kc ks sz M pc L (.int x :: rest) := fun H locs ls a1 a2 a3 a4 => lv_if_lt C.1 C.2.1 hdg ht (fun h => kt h H locs ls a1 a2 a3 a4) (fun h => kf h H locs ls a1 a2 a3 a4)
theorem z_icmp_lt (C : zC X E cc own nL ret rm) {x y : Int32} {off : Int} {tgt : Nat} (hdg : decode cc pc = .ok (.if_icmp .lt off, 3)) (ht : (pc : Int) + off = (tgt : Int)) (kt : x < y → Z X E nL Q kc ks sz M tgt L rest) (kf : ¬ x < y → Z X E nL Q kc ks sz M (pc + 3) L rest) : Z X E nL Q kc ks sz M pc L (.int y :: .int x :: rest) := fun H locs ls a1 a2 a3 a4 => lv_icmp_lt C.1 C.2.1 hdg ht (fun h => kt h H locs ls a1 a2 a3 a4) (fun h => kf h H locs ls a1 a2 a3 a4)
theorem z_if_ge (C : zC X E cc own nL ret rm) {x : Int32} {off : Int} {tgt : Nat} (hdg : decode cc pc = .ok (.ifCond .ge off, 3)) (ht : (pc : Int) + off = (tgt : Int)) (kt : 0 ≤ x → Z X E nL Q kc ks sz M tgt L rest) (kf : ¬ 0 ≤ x → Z X E nL Q kc ks sz M (pc + 3) L rest) : Z X E nL Q kc ks sz M pc L (.int x :: rest) := fun H locs ls a1 a2 a3 a4 => lv_if_ge C.1 C.2.1 hdg ht (fun h => kt h H locs ls a1 a2 a3 a4) (fun h => kf h H locs ls a1 a2 a3 a4)
theorem z_icmp_ge (C : zC X E cc own nL ret rm) {x y : Int32} {off : Int} {tgt : Nat} (hdg : decode cc pc = .ok (.if_icmp .ge off, 3)) (ht : (pc : Int) + off = (tgt : Int)) (kt : y ≤ x → Z X E nL Q kc ks sz M tgt L rest) (kf : ¬ y ≤ x → Z X E nL Q kc ks sz M (pc + 3) L rest) : Z X E nL Q kc ks sz M pc L (.int y :: .int x :: rest) := fun H locs ls a1 a2 a3 a4 => lv_icmp_ge C.1 C.2.1 hdg ht (fun h => kt h H locs ls a1 a2 a3 a4) (fun h => kf h H locs ls a1 a2 a3 a4)
theorem z_if_gt (C : zC X E cc own nL ret rm) {x : Int32} {off : Int} {tgt : Nat} (hdg : decode cc pc = .ok (.ifCond .gt off, 3)) (ht : (pc : Int) + off = (tgt : Int)) (kt : 0 < x → Z X E nL Q kc ks sz M tgt L rest) (kf : ¬ 0 < x → Z X E nL Q kc ks sz M (pc + 3) L rest) : Z X E nL Q kc ks sz M pc L (.int x :: rest) := fun H locs ls a1 a2 a3 a4 => lv_if_gt C.1 C.2.1 hdg ht (fun h => kt h H locs ls a1 a2 a3 a4) (fun h => kf h H locs ls a1 a2 a3 a4)
theorem z_icmp_gt (C : zC X E cc own nL ret rm) {x y : Int32} {off : Int} {tgt : Nat} (hdg : decode cc pc = .ok (.if_icmp .gt off, 3)) (ht : (pc : Int) + off = (tgt : Int)) (kt : y < x → Z X E nL Q kc ks sz M tgt L rest) (kf : ¬ y < x → Z X E nL Q kc ks sz M (pc + 3) L rest) : Z X E nL Q kc ks sz M pc L (.int y :: .int x :: rest) := fun H locs ls a1 a2 a3 a4 => lv_icmp_gt C.1 C.2.1 hdg ht (fun h => kt h H locs ls a1 a2 a3 a4) (fun h => kf h H locs ls a1 a2 a3 a4)
theorem z_if_le (C : zC X E cc own nL ret rm) {x : Int32} {off : Int} {tgt : Nat} (hdg : decode cc pc = .ok (.ifCond .le off, 3)) (ht : (pc : Int) + off = (tgt : Int)) (kt : x ≤ 0 → Z X E nL Q kc ks sz M tgt L rest) (kf : ¬ x ≤ 0 → Z X E nL Q kc ks sz M (pc + 3) L rest) : Z X E nL Q kc ks sz M pc L (.int x :: rest) := fun H locs ls a1 a2 a3 a4 => lv_if_le C.1 C.2.1 hdg ht (fun h => kt h H locs ls a1 a2 a3 a4) (fun h => kf h H locs ls a1 a2 a3 a4)
theorem z_icmp_le (C : zC X E cc own nL ret rm) {x y : Int32} {off : Int} {tgt : Nat} (hdg : decode cc pc = .ok (.if_icmp .le off, 3)) (ht : (pc : Int) + off = (tgt : Int)) (kt : x ≤ y → Z X E nL Q kc ks sz M tgt L rest) (kf : ¬ x ≤ y → Z X E nL Q kc ks sz M (pc + 3) L rest) : Z X E nL Q kc ks sz M pc L (.int y :: .int x :: rest) := fun H locs ls a1 a2 a3 a4 => lv_icmp_le C.1 C.2.1 hdg ht (fun h => kt h H locs ls a1 a2 a3 a4) (fun h => kf h H locs ls a1 a2 a3 a4)
theorem z_goto (C : zC X E cc own nL ret rm) {off : Int} {tgt : Nat} (hdg : decode cc pc = .ok (.goto off, 3)) (ht : (pc : Int) + off = (tgt : Int)) (kk : Z X E nL Q kc ks sz M tgt L rest) : Z X E nL Q kc ks sz M pc L rest := fun H locs ls a1 a2 a3 a4 => lv_goto C.1 C.2.1 hdg ht (kk H locs ls a1 a2 a3 a4)
theorem z_tableOut (C : zC X E cc own nL ret rm) {dflt lo hi : Int} {offs : Array Int} {len : Nat} {x : Int32} {tgt : Nat} (hdg : decode cc pc = .ok (.tableswitch dflt lo hi offs, len)) (h : x.toInt < lo ∨ hi < x.toInt) (ht : (pc : Int) + dflt = (tgt : Int)) (kk : Z X E nL Q kc ks sz M tgt L rest) : Z X E nL Q kc ks sz M pc L (.int x :: rest) := fun H locs ls a1 a2 a3 a4 => lv_tableOut C.1 C.2.1 hdg h ht (kk H locs ls a1 a2 a3 a4)
theorem z_tableIn (C : zC X E cc own nL ret rm) {dflt lo hi : Int} {offs : Array Int} {len : Nat} {x : Int32} {off : Int} {tgt : Nat} (hdg : decode cc pc = .ok (.tableswitch dflt lo hi offs, len)) (h1 : ¬ x.toInt < lo) (h2 : ¬ hi < x.toInt) (ho : offs[(x.toInt - lo).toNat]? = some off) (ht : (pc : Int) + off = (tgt : Int)) (kk : Z X E nL Q kc ks sz M tgt L rest) : Z X E nL Q kc ks sz M pc L (.int x :: rest) := fun H locs ls a1 a2 a3 a4 => lv_tableIn C.1 C.2.1 hdg h1 h2 ho ht (kk H locs ls a1 a2 a3 a4)
theorem z_lookup (C : zC X E cc own nL ret rm) {dflt : Int} {ps : Array (Int × Int)} {len : Nat} {x : Int32} {off : Int} {tgt : Nat} (hdg : decode cc pc = .ok (.lookupswitch dflt ps, len)) (hp : (ps.toList.zip (ps.toList.drop 1)).all (fun (a, next) => a.1 < next.1) = true) (ho : Op.lookupswitch.offset ps.toList dflt x.toInt = off) (ht : (pc : Int) + off = (tgt : Int)) (kk : Z X E nL Q kc ks sz M tgt L rest) : Z X E nL Q kc ks sz M pc L (.int x :: rest) := fun H locs ls a1 a2 a3 a4 => lv_lookup C.1 C.2.1 hdg hp ho ht (kk H locs ls a1 a2 a3 a4)
theorem z_ifnonnull (C : zC X E cc own nL ret rm) {x : Nat} {off : Int} {tgt : Nat} (hdg : decode cc pc = .ok (.ifnonnull off, 3)) (ht : (pc : Int) + off = (tgt : Int)) (kk : Z X E nL Q kc ks sz M tgt L rest) : Z X E nL Q kc ks sz M pc L (.ref x :: rest) := fun H locs ls a1 a2 a3 a4 => lv_ifnonnull C.1 C.2.1 hdg ht (kk H locs ls a1 a2 a3 a4)
theorem z_ifnull (C : zC X E cc own nL ret rm) {x : Nat} {off : Int} (hdg : decode cc pc = .ok (.ifnull off, 3)) (kk : Z X E nL Q kc ks sz M (pc + 3) L rest) : Z X E nL Q kc ks sz M pc L (.ref x :: rest) := fun H locs ls a1 a2 a3 a4 => lv_ifnull C.1 C.2.1 hdg (kk H locs ls a1 a2 a3 a4)
theorem z_null (C : zC X E cc own nL ret rm) (hdg : decode cc pc = .ok (.aconst_null, 1)) (kk : Z X E nL Q kc ks sz M (pc + 1) L (.null :: rest)) : Z X E nL Q kc ks sz M pc L rest := fun H locs ls a1 a2 a3 a4 => lv_null C.1 C.2.1 hdg (kk H locs ls a1 a2 a3 a4)
theorem z_ifnullN (C : zC X E cc own nL ret rm) {off : Int} {tgt : Nat} (hdg : decode cc pc = .ok (.ifnull off, 3)) (ht : (pc : Int) + off = (tgt : Int)) (kk : Z X E nL Q kc ks sz M tgt L rest) : Z X E nL Q kc ks sz M pc L (.null :: rest) := fun H locs ls a1 a2 a3 a4 => lv_ifnullN C.1 C.2.1 hdg ht (kk H locs ls a1 a2 a3 a4)
theorem z_ifnonnullN (C : zC X E cc own nL ret rm) {off : Int} (hdg : decode cc pc = .ok (.ifnonnull off, 3)) (kk : Z X E nL Q kc ks sz M (pc + 3) L rest) : Z X E nL Q kc ks sz M pc L (.null :: rest) := fun H locs ls a1 a2 a3 a4 => lv_ifnonnullN C.1 C.2.1 hdg (kk H locs ls a1 a2 a3 a4)
theorem z_acmp_eq (C : zC X E cc own nL ret rm) {rx ry : Option Nat} {off : Int} {tgt : Nat} (hdg : decode cc pc = .ok (.if_acmp .eq off, 3)) (ht : (pc : Int) + off = (tgt : Int)) (kt : rx = ry → Z X E nL Q kc ks sz M tgt L rest) (kf : ¬ rx = ry → Z X E nL Q kc ks sz M (pc + 3) L rest) : Z X E nL Q kc ks sz M pc L (va_rf ry :: va_rf rx :: rest) := fun H locs ls a1 a2 a3 a4 => lv_acmp_eq C.1 C.2.1 hdg ht (fun h => kt h H locs ls a1 a2 a3 a4) (fun h => kf h H locs ls a1 a2 a3 a4)
theorem z_acmp_ne (C : zC X E cc own nL ret rm) {rx ry : Option Nat} {off : Int} {tgt : Nat} (hdg : decode cc pc = .ok (.if_acmp .ne off, 3)) (ht : (pc : Int) + off = (tgt : Int)) (kt : ¬ rx = ry → Z X E nL Q kc ks sz M tgt L rest) (kf : rx = ry → Z X E nL Q kc ks sz M (pc + 3) L rest) : Z X E nL Q kc ks sz M pc L (va_rf ry :: va_rf rx :: rest) := fun H locs ls a1 a2 a3 a4 => lv_acmp_ne C.1 C.2.1 hdg ht (fun h => kt h H locs ls a1 a2 a3 a4) (fun h => kf h H locs ls a1 a2 a3 a4)
def zl : List (Nat × Value) → Nat → Option Value
  | [], _ => none
  | (j, v) :: t, i => bif Nat.beq j i then some v else zl t i
theorem zl_mem {L : List (Nat × Value)} {i : Nat} {v : Value} (h : zl L i = some v) : (i, v) ∈ L := by
  induction L with
  | nil => simp [zl] at h
  | cons q t ih =>
    obtain ⟨j, w⟩ := q
    simp only [zl] at h
    cases hb : Nat.beq j i with
    | true =>
      rw [hb] at h
      have e := Nat.eq_of_beq_eq_true hb
      subst e
      simp only [cond_true, Option.some.injEq] at h
      subst h
      exact List.mem_cons_self
    | false =>
      rw [hb] at h
      exact List.mem_cons_of_mem _ (ih h)
def zin (i : Nat) (v : Value) : List (Nat × Value) → List (Nat × Value)
  | [] => [(i, v)]
  | (j, w) :: t => bif Nat.blt i j then (i, v) :: (j, w) :: t else (j, w) :: zin i v t
theorem zin_mem {i : Nat} {v : Value} {q : Nat × Value} {l : List (Nat × Value)} (h : q ∈ zin i v l) : q ∈ (i, v) :: l := by
  induction l with
  | nil => exact h
  | cons a t ih =>
    obtain ⟨j, w⟩ := a
    simp only [zin] at h
    cases hb : Nat.blt i j with
    | true => rw [hb] at h; exact h
    | false =>
      rw [hb] at h
      rcases List.mem_cons.mp h with h | h
      · rw [h]; exact List.mem_cons_of_mem _ List.mem_cons_self
      · rcases List.mem_cons.mp (ih h) with h | h
        · rw [h]; exact List.mem_cons_self
        · exact List.mem_cons_of_mem _ (List.mem_cons_of_mem _ h)
theorem zin_has {ls : Array Slot} {nL i : Nat} {v : Value} {l : List (Nat × Value)} (h : lv_has ls nL ((i, v) :: l)) : lv_has ls nL (zin i v l) := ⟨h.1, h.2.1, fun q hq => h.2.2 q (zin_mem hq)⟩
def zst (L : List (Nat × Value)) (i : Nat) (v : Value) : List (Nat × Value) := zin i v (L.filter (fun q => !(q.1 == i) && !(q.1 + 1 == i && q.2.category == 2)))
def zst2 (L : List (Nat × Value)) (i : Nat) (v : Value) : List (Nat × Value) := zin i v (L.filter (fun q => !(q.1 == i) && (!(q.1 == i + 1) && !(q.1 + 1 == i && q.2.category == 2))))
theorem zl_at {ls : Array Slot} {i : Nat} {v : Value} (h : lv_has ls nL L) (hl : zl L i = some v) : ls[i]? = some (.val v) := h.2.2 (i, v) (zl_mem hl)
theorem z_iload_n (C : zC X E cc own nL ret rm) {f : Fin 4} {i : Nat} {x : Int32} (hdg : decode cc pc = .ok (.iload_n f, 1)) (hi : (f : Nat) = i) (hl : zl L i = some (.int x)) (kk : Z X E nL Q kc ks sz M (pc + 1) L (.int x :: rest)) : Z X E nL Q kc ks sz M pc L rest := fun H locs ls h1 h2 h3 h4 => lv_iload_n C.1 C.2.1 hdg hi (zl_at h4 hl) (kk H locs ls h1 h2 h3 h4)
theorem z_iload (C : zC X E cc own nL ret rm) {i : Nat} {x : Int32} (hdg : decode cc pc = .ok (.iload i, 2)) (hl : zl L i = some (.int x)) (kk : Z X E nL Q kc ks sz M (pc + 2) L (.int x :: rest)) : Z X E nL Q kc ks sz M pc L rest := fun H locs ls h1 h2 h3 h4 => lv_iload C.1 C.2.1 hdg (zl_at h4 hl) (kk H locs ls h1 h2 h3 h4)
theorem z_lload_n (C : zC X E cc own nL ret rm) {f : Fin 4} {i : Nat} {x : Int64} (hdg : decode cc pc = .ok (.lload_n f, 1)) (hi : (f : Nat) = i) (hl : zl L i = some (.long x)) (kk : Z X E nL Q kc ks sz M (pc + 1) L (.long x :: rest)) : Z X E nL Q kc ks sz M pc L rest := fun H locs ls h1 h2 h3 h4 => lv_lload_n C.1 C.2.1 hdg hi (zl_at h4 hl) (kk H locs ls h1 h2 h3 h4)
theorem z_lload (C : zC X E cc own nL ret rm) {i : Nat} {x : Int64} (hdg : decode cc pc = .ok (.lload i, 2)) (hl : zl L i = some (.long x)) (kk : Z X E nL Q kc ks sz M (pc + 2) L (.long x :: rest)) : Z X E nL Q kc ks sz M pc L rest := fun H locs ls h1 h2 h3 h4 => lv_lload C.1 C.2.1 hdg (zl_at h4 hl) (kk H locs ls h1 h2 h3 h4)
theorem z_aload_n (C : zC X E cc own nL ret rm) {f : Fin 4} {i : Nat} {x : Nat} (hdg : decode cc pc = .ok (.aload_n f, 1)) (hi : (f : Nat) = i) (hl : zl L i = some (.ref x)) (kk : Z X E nL Q kc ks sz M (pc + 1) L (.ref x :: rest)) : Z X E nL Q kc ks sz M pc L rest := fun H locs ls h1 h2 h3 h4 => lv_aload_n C.1 C.2.1 hdg hi (zl_at h4 hl) (kk H locs ls h1 h2 h3 h4)
theorem z_aload (C : zC X E cc own nL ret rm) {i : Nat} {x : Nat} (hdg : decode cc pc = .ok (.aload i, 2)) (hl : zl L i = some (.ref x)) (kk : Z X E nL Q kc ks sz M (pc + 2) L (.ref x :: rest)) : Z X E nL Q kc ks sz M pc L rest := fun H locs ls h1 h2 h3 h4 => lv_aload C.1 C.2.1 hdg (zl_at h4 hl) (kk H locs ls h1 h2 h3 h4)
theorem z_aload_nN (C : zC X E cc own nL ret rm) {f : Fin 4} {i : Nat} (hdg : decode cc pc = .ok (.aload_n f, 1)) (hi : (f : Nat) = i) (hl : zl L i = some .null) (kk : Z X E nL Q kc ks sz M (pc + 1) L (.null :: rest)) : Z X E nL Q kc ks sz M pc L rest := fun H locs ls h1 h2 h3 h4 => lv_aload_nN C.1 C.2.1 hdg hi (zl_at h4 hl) (kk H locs ls h1 h2 h3 h4)
theorem z_aloadN (C : zC X E cc own nL ret rm) {i : Nat} (hdg : decode cc pc = .ok (.aload i, 2)) (hl : zl L i = some .null) (kk : Z X E nL Q kc ks sz M (pc + 2) L (.null :: rest)) : Z X E nL Q kc ks sz M pc L rest := fun H locs ls h1 h2 h3 h4 => lv_aloadN C.1 C.2.1 hdg (zl_at h4 hl) (kk H locs ls h1 h2 h3 h4)
theorem z_istore_n (C : zC X E cc own nL ret rm) {f : Fin 4} {i : Nat} {x : Int32} {L' : List (Nat × Value)} (hdg : decode cc pc = .ok (.istore_n f, 1)) (hi : (f : Nat) = i) (hn : i < nL) (hL : zst L i (.int x) = L') (kk : Z X E nL Q kc ks sz M (pc + 1) L' rest) : Z X E nL Q kc ks sz M pc L (.int x :: rest) := fun H locs ls h1 h2 h3 h4 => lv_istore_n C.1 C.2.1 hdg hi h4 hn rfl (fun ls' h' => kk H locs ls' h1 h2 h3 (hL ▸ zin_has h'))
theorem z_istore (C : zC X E cc own nL ret rm) {i : Nat} {x : Int32} {L' : List (Nat × Value)} (hdg : decode cc pc = .ok (.istore i, 2)) (hn : i < nL) (hL : zst L i (.int x) = L') (kk : Z X E nL Q kc ks sz M (pc + 2) L' rest) : Z X E nL Q kc ks sz M pc L (.int x :: rest) := fun H locs ls h1 h2 h3 h4 => lv_istore C.1 C.2.1 hdg h4 hn rfl (fun ls' h' => kk H locs ls' h1 h2 h3 (hL ▸ zin_has h'))
theorem z_lstore_n (C : zC X E cc own nL ret rm) {f : Fin 4} {i : Nat} {x : Int64} {L' : List (Nat × Value)} (hdg : decode cc pc = .ok (.lstore_n f, 1)) (hi : (f : Nat) = i) (hn : i + 1 < nL) (hL : zst2 L i (.long x) = L') (kk : Z X E nL Q kc ks sz M (pc + 1) L' rest) : Z X E nL Q kc ks sz M pc L (.long x :: rest) := fun H locs ls h1 h2 h3 h4 => lv_lstore_n C.1 C.2.1 hdg hi h4 hn rfl (fun ls' h' => kk H locs ls' h1 h2 h3 (hL ▸ zin_has h'))
theorem z_lstore (C : zC X E cc own nL ret rm) {i : Nat} {x : Int64} {L' : List (Nat × Value)} (hdg : decode cc pc = .ok (.lstore i, 2)) (hn : i + 1 < nL) (hL : zst2 L i (.long x) = L') (kk : Z X E nL Q kc ks sz M (pc + 2) L' rest) : Z X E nL Q kc ks sz M pc L (.long x :: rest) := fun H locs ls h1 h2 h3 h4 => lv_lstore C.1 C.2.1 hdg h4 hn rfl (fun ls' h' => kk H locs ls' h1 h2 h3 (hL ▸ zin_has h'))
theorem z_astore_n (C : zC X E cc own nL ret rm) {f : Fin 4} {i : Nat} {x : Nat} {L' : List (Nat × Value)} (hdg : decode cc pc = .ok (.astore_n f, 1)) (hi : (f : Nat) = i) (hn : i < nL) (hL : zst L i (.ref x) = L') (kk : Z X E nL Q kc ks sz M (pc + 1) L' rest) : Z X E nL Q kc ks sz M pc L (.ref x :: rest) := fun H locs ls h1 h2 h3 h4 => lv_astore_n C.1 C.2.1 hdg hi h4 hn rfl (fun ls' h' => kk H locs ls' h1 h2 h3 (hL ▸ zin_has h'))
theorem z_astore (C : zC X E cc own nL ret rm) {i : Nat} {x : Nat} {L' : List (Nat × Value)} (hdg : decode cc pc = .ok (.astore i, 2)) (hn : i < nL) (hL : zst L i (.ref x) = L') (kk : Z X E nL Q kc ks sz M (pc + 2) L' rest) : Z X E nL Q kc ks sz M pc L (.ref x :: rest) := fun H locs ls h1 h2 h3 h4 => lv_astore C.1 C.2.1 hdg h4 hn rfl (fun ls' h' => kk H locs ls' h1 h2 h3 (hL ▸ zin_has h'))
theorem z_astore_nN (C : zC X E cc own nL ret rm) {f : Fin 4} {i : Nat} {L' : List (Nat × Value)} (hdg : decode cc pc = .ok (.astore_n f, 1)) (hi : (f : Nat) = i) (hn : i < nL) (hL : zst L i .null = L') (kk : Z X E nL Q kc ks sz M (pc + 1) L' rest) : Z X E nL Q kc ks sz M pc L (.null :: rest) := fun H locs ls h1 h2 h3 h4 => lv_astore_nN C.1 C.2.1 hdg hi h4 hn rfl (fun ls' h' => kk H locs ls' h1 h2 h3 (hL ▸ zin_has h'))
theorem z_astoreN (C : zC X E cc own nL ret rm) {i : Nat} {L' : List (Nat × Value)} (hdg : decode cc pc = .ok (.astore i, 2)) (hn : i < nL) (hL : zst L i .null = L') (kk : Z X E nL Q kc ks sz M (pc + 2) L' rest) : Z X E nL Q kc ks sz M pc L (.null :: rest) := fun H locs ls h1 h2 h3 h4 => lv_astoreN C.1 C.2.1 hdg h4 hn rfl (fun ls' h' => kk H locs ls' h1 h2 h3 (hL ▸ zin_has h'))
theorem z_iinc (C : zC X E cc own nL ret rm) {i : Nat} {n : Int} {x v : Int32} {L' : List (Nat × Value)} (hdg : decode cc pc = .ok (.iinc i n, 3)) (hl : zl L i = some (.int x)) (hv : x + Int32.ofInt n = v) (hn : i < nL) (hL : zst L i (.int v) = L') (kk : Z X E nL Q kc ks sz M (pc + 3) L' rest) : Z X E nL Q kc ks sz M pc L rest := fun H locs ls h1 h2 h3 h4 => by
  obtain ⟨k, hk⟩ := List.getElem?_of_mem (zl_mem hl)
  exact lv_iinc C.1 C.2.1 hdg h4 hk hv hn rfl (fun ls' h' => kk H locs ls' h1 h2 h3 (hL ▸ zin_has h'))
/-- fewer locals are known, by their places -/
theorem z_sub {L' : List (Nat × Value)} (ps : List Nat) (hl : lv_pick L ps = L') (kk : Z X E nL Q kc ks sz M pc L' rest) : Z X E nL Q kc ks sz M pc L rest := fun H locs ls h1 h2 h3 h4 => kk H locs ls h1 h2 h3 (lv_sub h4 ps hl)
/-- less is known of the world -/
theorem z_less {M' : zM} (h : ∀ (a : Nat) (e : va_E), M' a = some e → M a = some e) (kk : Z X E nL Q kc ks sz M' pc L rest) : Z X E nL Q kc ks sz M pc L rest := fun H locs ls h1 h2 h3 h4 => kk H locs ls h1 (fun a e he => h2 a e (h a e he)) h3 h4
theorem z_world {M' : zM} (h : M = M') (kk : Z X E nL Q kc ks sz M' pc L rest) : Z X E nL Q kc ks sz M pc L rest := h ▸ kk
/-- nothing is held from the size on -/
theorem z_fresh (kk : (∀ a : Nat, sz ≤ a → M a = none) → Z X E nL Q kc ks sz M pc L rest) : Z X E nL Q kc ks sz M pc L rest := fun H locs ls h1 h2 h3 h4 => kk (h2.none h1) H locs ls h1 h2 h3 h4
theorem z_widen {k n : Nat} (h1 : kc ≤ k) (h2 : ks ≤ n) (kk : Z X E nL Q k n sz M pc L rest) : Z X E nL Q kc ks sz M pc L rest := fun H locs ls a1 a2 a3 a4 => W.widen h1 h2 (kk H locs ls a1 a2 a3 a4)
theorem z_topi {x : Int32} (kk : ∀ y : Int32, y = x → Z X E nL Q kc ks sz M pc L (.int y :: rest)) : Z X E nL Q kc ks sz M pc L (.int x :: rest) := kk x rfl
/-- the number on top is another one -/
theorem z_top {x y : Int32} (h : x = y) (kk : Z X E nL Q kc ks sz M pc L (.int y :: rest)) : Z X E nL Q kc ks sz M pc L (.int x :: rest) := h ▸ kk
theorem z_get (C : zC X E cc own nL ret rm) {ref Cn : String} {T : u_T} {N ci index a : Nat} {fs : List Value} {v : Value} (hin : ∀ w ∈ u_ws Cn T N, w ∈ zWS) (he : M a = some (.inr (ci, fs))) (hc : vwCl[ci]? = some (Cn, T, N)) (k : Nat) (hk : k < N) (hlink : Cond.fieldLink own index ref (T k).2.1 (T k).2.2.1 ∈ zWS) (hsame : (T k).1 = ref) (hv : fs[k]? = some v) (hdg : decode cc pc = .ok (.getfield index, 3)) (kk : Z X E nL Q kc ks sz M (pc + 3) L (v :: rest)) : Z X E nL Q kc ks sz M pc L (.ref a :: rest) := fun H locs ls h1 h2 h3 h4 =>
  va_get C.1 C.2.1 C.2.2.2.2.1 hin C.2.2.2.1 C.2.2.2.2.2.1 (h2.one he) 0 rfl hc k hk (C.2.2.2.2.1 _ hlink) (fun _ h => by rw [← hsame]; exact h) hv hdg (kk H locs ls h1 h2 h3 h4)
theorem z_getN (C : zC X E cc own nL ret rm) {ref Cn host : String} {T : u_T} {N ci index a : Nat} {fs : List Value} {v : Value} (hin : ∀ w ∈ u_ws Cn T N, w ∈ zWS) (he : M a = some (.inr (ci, fs))) (hc : vwCl[ci]? = some (Cn, T, N)) (k : Nat) (hk : k < N) (hlink : Cond.fieldLinkNest own index ref (T k).2.1 (T k).2.2.1 host ∈ zN) (hsame : (T k).1 = ref) (hv : fs[k]? = some v) (hdg : decode cc pc = .ok (.getfield index, 3)) (kk : Z X E nL Q kc ks sz M (pc + 3) L (v :: rest)) : Z X E nL Q kc ks sz M pc L (.ref a :: rest) := fun H locs ls h1 h2 h3 h4 =>
  va_getN C.1 C.2.1 C.2.2.2.2.1 hin C.2.2.2.1 C.2.2.2.2.2.1 (h2.one he) 0 rfl hc k hk (va_Nw.use rfl (C.2.2.2.2.2.2.2.2.2.2.1 _ hlink)) (fun _ h => by rw [← hsame]; exact h) hv hdg (kk H locs ls h1 h2 h3 h4)
theorem z_put (C : zC X E cc own nL ret rm) {ref Cn : String} {T : u_T} {N ci index a : Nat} {fs : List Value} {v : Value} {ty : FieldType} (hin : ∀ w ∈ u_ws Cn T N, w ∈ zWS) (ty0 : Nat → FieldType) (hty : ∀ k, k < N → parseFieldDescriptor (T k).2.2.1 = some (ty0 k)) (hnm : ∀ a, a < N → ∀ b, b < N → a ≠ b → (T a).2.1 ≠ (T b).2.1) (he : M a = some (.inr (ci, fs))) (hc : vwCl[ci]? = some (Cn, T, N)) (k : Nat) (hk : k < N) (hlink : Cond.fieldLink own index ref (T k).2.1 (T k).2.2.1 ∈ zWS) (hsame : (T k).1 = ref) (hfin : (T k).2.2.2 = false) (hd : ty0 k = ty) (hn : narrow ty v = v) (hfit : fits ty v = true) (hl : k < fs.length) (hdg : decode cc pc = .ok (.putfield index, 3)) (kk : Z X E nL Q kc ks sz (zU M a (.inr (ci, fs.set k v))) (pc + 3) L rest) : Z X E nL Q kc ks sz M pc L (v :: .ref a :: rest) := by
  intro H locs ls h1 h2 h3 h4
  obtain ⟨hAa, r, q0, cell, q1, q2, q3, q4⟩ := h2 a _ he
  have hr : r = (Cn, T, N) := Option.some.inj (q0.symm.trans hc)
  subst hr
  have hts := C.2.2.2.2.1
  have hK := C.2.2.2.2.2.1
  have hap := va_apart (own := own) hts hin ty0 hty hnm hK hc
  obtain ⟨hS, hfc, kC, hkC, hkind⟩ := hK.1 ci _ hc
  obtain ⟨cf, kf, fi, f, hi, hsl⟩ := hS k hk
  have hlay := hts _ (hin _ (u_in_lay hk))
  unfold u_lay at hlay
  rw [if_neg (by rw [hfin]; decide)] at hlay
  have hst := (u_facts hfc hkC (u_lays hts hin hk) hi).1
  have h6 := u_store hfc hkC hkind hlay hi (by rw [hty k hk, hd]) hn hfit
  refine W.putK C.1 C.2.1 (f := f) ⟨C.2.2.2.1, hts _ hlink, ⟨_, _, _, by rw [← hsame]; exact hi⟩, hst⟩ (by rw [q2]; exact h6) q1 q3 (by rw [hsl]; exact k2_hasslot (q4 k hk)) rfl rfl hdg fun H' e1 e2 e3 => ?_
  rw [hsl] at e1 ⊢
  exact kk H' _ ls (e2.trans h1) (h2.set hAa ⟨_, hc, t_OB.to (V := updV (vp_V fs) k v) ⟨_, e1, q2, q3, t_set q4 hap hk v⟩ (fun j _ => vp_updV_set hl v j)⟩ e3) (h3.put e2 e3 hAa) h4
theorem z_putN (C : zC X E cc own nL ret rm) {ref Cn host : String} {T : u_T} {N ci index a : Nat} {fs : List Value} {v : Value} {ty : FieldType} (hin : ∀ w ∈ u_ws Cn T N, w ∈ zWS) (ty0 : Nat → FieldType) (hty : ∀ k, k < N → parseFieldDescriptor (T k).2.2.1 = some (ty0 k)) (hnm : ∀ a, a < N → ∀ b, b < N → a ≠ b → (T a).2.1 ≠ (T b).2.1) (he : M a = some (.inr (ci, fs))) (hc : vwCl[ci]? = some (Cn, T, N)) (k : Nat) (hk : k < N) (hlink : Cond.fieldLinkNest own index ref (T k).2.1 (T k).2.2.1 host ∈ zN) (hsame : (T k).1 = ref) (hfin : (T k).2.2.2 = false) (hd : ty0 k = ty) (hn : narrow ty v = v) (hfit : fits ty v = true) (hl : k < fs.length) (hdg : decode cc pc = .ok (.putfield index, 3)) (kk : Z X E nL Q kc ks sz (zU M a (.inr (ci, fs.set k v))) (pc + 3) L rest) : Z X E nL Q kc ks sz M pc L (v :: .ref a :: rest) := by
  intro H locs ls h1 h2 h3 h4
  obtain ⟨hAa, r, q0, cell, q1, q2, q3, q4⟩ := h2 a _ he
  have hr : r = (Cn, T, N) := Option.some.inj (q0.symm.trans hc)
  subst hr
  have hts := C.2.2.2.2.1
  have hK := C.2.2.2.2.2.1
  have hap := va_apart (own := own) hts hin ty0 hty hnm hK hc
  obtain ⟨hS, hfc, kC, hkC, hkind⟩ := hK.1 ci _ hc
  obtain ⟨cf, kf, fi, f, hi, hsl⟩ := hS k hk
  have hlay := hts _ (hin _ (u_in_lay hk))
  unfold u_lay at hlay
  rw [if_neg (by rw [hfin]; decide)] at hlay
  have hst := (u_facts hfc hkC (u_lays hts hin hk) hi).1
  have h6 := u_store hfc hkC hkind hlay hi (by rw [hty k hk, hd]) hn hfit
  refine va_WputK C.1 C.2.1 (f := f) C.2.2.2.1 (va_Nw.use rfl (C.2.2.2.2.2.2.2.2.2.2.1 _ hlink)) (by rw [← hsame]; exact hi) hst (by rw [q2]; exact h6) q1 q3 (by rw [hsl]; exact k2_hasslot (q4 k hk)) rfl rfl hdg fun H' e1 e2 e3 => ?_
  rw [hsl] at e1 ⊢
  exact kk H' _ ls (e2.trans h1) (h2.set hAa ⟨_, hc, t_OB.to (V := updV (vp_V fs) k v) ⟨_, e1, q2, q3, t_set q4 hap hk v⟩ (fun j _ => vp_updV_set hl v j)⟩ e3) (h3.put e2 e3 hAa) h4
theorem z_putF (C : zC X E cc own nL ret rm) {ref Cn : String} {T : u_T} {N ci index a : Nat} {fs : List Value} {v : Value} {ty : FieldType} (hin : ∀ w ∈ u_ws Cn T N, w ∈ zWS) (ty0 : Nat → FieldType) (hty : ∀ k, k < N → parseFieldDescriptor (T k).2.2.1 = some (ty0 k)) (hnm : ∀ a, a < N → ∀ b, b < N → a ≠ b → (T a).2.1 ≠ (T b).2.1) (hinit : X.2.2.2.2.2.2.2.2.1.name = "<init>") (he : M a = some (.inr (ci, fs))) (hc : vwCl[ci]? = some (Cn, T, N)) (k : Nat) (hk : k < N) (hlink : Cond.fieldLink own index ref (T k).2.1 (T k).2.2.1 ∈ zWS) (hsame : (T k).1 = ref) (hfin : (T k).2.2.2 = true) (hdecl : (T k).1 = own) (hd : ty0 k = ty) (hn : narrow ty v = v) (hfit : fits ty v = true) (hl : k < fs.length) (hdg : decode cc pc = .ok (.putfield index, 3)) (kk : Z X E nL Q kc ks sz (zU M a (.inr (ci, fs.set k v))) (pc + 3) L rest) : Z X E nL Q kc ks sz M pc L (v :: .ref a :: rest) := by
  intro H locs ls h1 h2 h3 h4
  obtain ⟨hAa, r, q0, cell, q1, q2, q3, q4⟩ := h2 a _ he
  have hr : r = (Cn, T, N) := Option.some.inj (q0.symm.trans hc)
  subst hr
  have hts := C.2.2.2.2.1
  have hK := C.2.2.2.2.2.1
  have hown := C.2.2.2.1
  have hap := va_apart (own := own) hts hin ty0 hty hnm hK hc
  obtain ⟨hS, hfc, kC, hkC, hkind⟩ := hK.1 ci _ hc
  obtain ⟨cf, kf, fi, f, hi, hsl⟩ := hS k hk
  have hlay := hts _ (hin _ (u_in_lay hk))
  unfold u_lay at hlay
  rw [if_pos hfin] at hlay
  have hst := (u_facts hfc hkC (u_lays hts hin hk) hi).1
  have hcf : X.2.2.2.2.2.1.cls = cf := by
    obtain ⟨_, _, c', _, _, _, -, -, hf', -, -, -, hown2, -⟩ := Cond.laysFinal_spec hlay
    have e1 : c' = cf := by have := hi.symm.trans hf'; simp at this; exact this.1.symm
    rw [hdecl] at hown2
    rw [← e1]; exact Option.some.inj (hown.symm.trans hown2)
  have h6 := u_fits hfc hkC hkind (Or.inr hlay) hi (by rw [hty k hk, hd]) hn hfit
  refine W.putFinK C.1 C.2.1 hown (hts _ hlink) (by rw [← hsame]; exact hi) hst hcf hinit (by rw [q2]; exact h6) q1 q3 (by rw [hsl]; exact k2_hasslot (q4 k hk)) rfl rfl hdg fun H' e1 e2 e3 => ?_
  rw [hsl] at e1 ⊢
  exact kk H' _ ls (e2.trans h1) (h2.set hAa ⟨_, hc, t_OB.to (V := updV (vp_V fs) k v) ⟨_, e1, q2, q3, t_set q4 hap hk v⟩ (fun j _ => vp_updV_set hl v j)⟩ e3) (h3.put e2 e3 hAa) h4
theorem z_alen (C : zC X E cc own nL ret rm) {a : Nat} {cA : ClassId} {x : vp_A} (ha : M a = some (.inl (cA, x))) (t0 : Nat) {ty : FieldType} (ht : (zTy E.2.1)[t0]? = some (cA, ty)) {v : Int32} (hv : Int32.ofNat x.1 = v) (hdg : decode cc pc = .ok (.arraylength, 1)) (kk : Z X E nL Q kc ks sz M (pc + 1) L (.int v :: rest)) : Z X E nL Q kc ks sz M pc L (.ref a :: rest) := fun H locs ls h1 h2 h3 h4 =>
  va_alen C.1 C.2.1 C.2.2.2.2.2.1 (h2.one ha) 0 t0 rfl ht hv hdg (kk H locs ls h1 h2 h3 h4)
theorem z_iald (C : zC X E cc own nL ret rm) {a : Nat} {cA : ClassId} {n : Nat} {f : Nat → Int32} (ha : M a = some (.inl (cA, n, .inl f))) (t0 : Nat) (ht : (zTy E.2.1)[t0]? = some (cA, .int)) {i : Int32} (j : Nat) (hi : i = nI j) (hj : j < n) (hn : n < 2 ^ 31) (hdg : decode cc pc = .ok (.iaload, 1)) (kk : Z X E nL Q kc ks sz M (pc + 1) L (.int (f j) :: rest)) : Z X E nL Q kc ks sz M pc L (.int i :: .ref a :: rest) := fun H locs ls h1 h2 h3 h4 => by
  subst hi
  refine va_iald C.1 C.2.1 C.2.2.2.2.2.1 (h2.one ha) 0 t0 rfl ht (vp_in_nI hj hn) hdg ?_
  rw [nI_clamp (by omega)]
  exact kk H locs ls h1 h2 h3 h4
theorem z_cald (C : zC X E cc own nL ret rm) {a : Nat} {cA : ClassId} {n : Nat} {f : Nat → Int32} (ha : M a = some (.inl (cA, n, .inl f))) (t0 : Nat) (ht : (zTy E.2.1)[t0]? = some (cA, .char)) {i : Int32} (j : Nat) (hi : i = nI j) (hj : j < n) (hn : n < 2 ^ 31) (hdg : decode cc pc = .ok (.caload, 1)) (kk : Z X E nL Q kc ks sz M (pc + 1) L (.int (f j) :: rest)) : Z X E nL Q kc ks sz M pc L (.int i :: .ref a :: rest) := fun H locs ls h1 h2 h3 h4 => by
  subst hi
  refine va_cald C.1 C.2.1 C.2.2.2.2.2.1 (h2.one ha) 0 t0 rfl ht (vp_in_nI hj hn) hdg ?_
  rw [nI_clamp (by omega)]
  exact kk H locs ls h1 h2 h3 h4
theorem z_aald (C : zC X E cc own nL ret rm) {a : Nat} {cA : ClassId} {Cn : String} {n : Nat} {f : Nat → Option Nat} (ha : M a = some (.inl (cA, n, .inr (.inr (.inr (.inr f)))))) (t0 : Nat) (ht : (zTy E.2.1)[t0]? = some (cA, .object Cn)) {i : Int32} (j : Nat) (hi : i = nI j) (hj : j < n) (hn : n < 2 ^ 31) {v : Value} (hv : va_rf (f j) = v) (hdg : decode cc pc = .ok (.aaload, 1)) (kk : Z X E nL Q kc ks sz M (pc + 1) L (v :: rest)) : Z X E nL Q kc ks sz M pc L (.int i :: .ref a :: rest) := fun H locs ls h1 h2 h3 h4 => by
  subst hi
  subst hv
  refine va_aldq C.1 C.2.1 C.2.2.2.2.2.1 (h2.one ha) 0 t0 rfl ht (vp_in_nI hj hn) hdg ?_
  rw [nI_clamp (by omega)]
  exact kk H locs ls h1 h2 h3 h4
theorem z_iast (C : zC X E cc own nL ret rm) {a : Nat} {cA : ClassId} {n : Nat} {f : Nat → Int32} (ha : M a = some (.inl (cA, n, .inl f))) (t0 : Nat) (ht : (zTy E.2.1)[t0]? = some (cA, .int)) {i x : Int32} (j : Nat) (hi : i = nI j) (hj : j < n) (hn : n < 2 ^ 31) (hdg : decode cc pc = .ok (.iastore, 1)) (kk : Z X E nL Q kc ks sz (zU M a (.inl (cA, n, .inl (upd f j x)))) (pc + 1) L rest) : Z X E nL Q kc ks sz M pc L (.int x :: .int i :: .ref a :: rest) := fun H locs ls h1 h2 h3 h4 => by
  subst hi
  obtain ⟨hAa, q1⟩ := h2 a _ ha
  have hin : vp_in (nI j) n := vp_in_nI hj hn
  have hcl : (nI j).toNatClampNeg = j := nI_clamp (by omega)
  refine W.iast C.1 C.2.1 q1 ((C.2.2.2.2.2.1.2 t0 _ ht).1 n (fun j => .int (f j))) (fun q => by cases q) (by show ¬ (nI j < 0 ∨ (arrV _ _ _).slots.size ≤ _); rw [arrV_size]; exact hin) rfl rfl hdg fun H1 e z oq => ?_
  refine kk H1 _ ls (z.trans h1) (h2.set hAa ?_ oq) (h3.put z oq hAa) h4
  show H1[a]? = some (vp_cell _ _)
  rw [e]
  show some ((vp_cell _ _).setSlot _ _) = _
  rw [vp_cell_i, vp_cell_i, arrV_store, hcl]
  congr 2
  funext q
  by_cases hq : q = j
  · subst hq
    simp [updV, upd]
  · simp [updV, upd, hq]
theorem z_cast (C : zC X E cc own nL ret rm) {a : Nat} {cA : ClassId} {n : Nat} {f : Nat → Int32} (ha : M a = some (.inl (cA, n, .inl f))) (t0 : Nat) (ht : (zTy E.2.1)[t0]? = some (cA, .char)) {i x : Int32} (j : Nat) (hi : i = nI j) (hj : j < n) (hn : n < 2 ^ 31) (hx : vp_nar .char x = x) (hdg : decode cc pc = .ok (.castore, 1)) (kk : Z X E nL Q kc ks sz (zU M a (.inl (cA, n, .inl (upd f j x)))) (pc + 1) L rest) : Z X E nL Q kc ks sz M pc L (.int x :: .int i :: .ref a :: rest) := fun H locs ls h1 h2 h3 h4 => by
  subst hi
  obtain ⟨hAa, q1⟩ := h2 a _ ha
  have hin : vp_in (nI j) n := vp_in_nI hj hn
  have hcl : (nI j).toNatClampNeg = j := nI_clamp (by omega)
  refine W.cast C.1 C.2.1 q1 ((C.2.2.2.2.2.1.2 t0 _ ht).1 n (fun j => .int (f j))) (fun q => by cases q) (by show ¬ (nI j < 0 ∨ (arrV _ _ _).slots.size ≤ _); rw [arrV_size]; exact hin) rfl rfl hdg fun H1 e z oq => ?_
  refine kk H1 _ ls (z.trans h1) (h2.set hAa ?_ oq) (h3.put z oq hAa) h4
  show H1[a]? = some (vp_cell _ _)
  rw [e]
  show some ((vp_cell _ _).setSlot _ _) = _
  rw [vp_cell_i, vp_cell_i, arrV_store, hcl]
  congr 2
  funext q
  by_cases hq : q = j
  · subst hq
    have hx' : (narrow .char (.int x)) = .int x := by
      have h9 : narrow .char (.int x) = .int (vp_nar .char x) := rfl
      rw [h9, hx]
    simp [updV, upd, hx']
  · simp [updV, upd, hq]
/-- storing an object of the row's own class -/
theorem z_aast (C : zC X E cc own nL ret rm) {a v : Nat} {cA : ClassId} {r : vw_C} {n ci : Nat} {vs : List Value} {f : Nat → Option Nat} (ha : M a = some (.inl (cA, n, .inr (.inr (.inr (.inr f)))))) (t0 : Nat) (ht : (zTy E.2.1)[t0]? = some (cA, .object r.1)) (hv : M v = some (.inr (ci, vs))) (hc : vwCl[ci]? = some r) {i : Int32} (j : Nat) (hi : i = nI j) (hj : j < n) (hn : n < 2 ^ 31) (hdg : decode cc pc = .ok (.aastore, 1)) (kk : Z X E nL Q kc ks sz (zU M a (.inl (cA, n, .inr (.inr (.inr (.inr (va_up f j (some v)))))))) (pc + 1) L rest) : Z X E nL Q kc ks sz M pc L (.ref v :: .int i :: .ref a :: rest) := fun H locs ls h1 h2 h3 h4 => by
  subst hi
  obtain ⟨hAa, q1⟩ := h2 a _ ha
  have hin : vp_in (nI j) n := vp_in_nI hj hn
  have hcl : (nI j).toNatClampNeg = j := nI_clamp (by omega)
  have hK := C.2.2.2.2.2.1
  have h0 : ¬ nI j < 0 := fun q => hin (Or.inl q)
  obtain ⟨-, r', hr', cellV, g1, g2, g3, -⟩ := h2 v _ hv
  have hcls := (hK.1 ci r hc).2
  obtain ⟨kA, comp, k1, k2, k3, -⟩ := (hK.2 t0 _ ht).2
  have hcomp : comp = E.1.1 ci := Option.some.inj (k3.symm.trans hcls.1)
  subst hcomp
  obtain ⟨kC, hkC, -⟩ := hcls.2
  refine W.aast C.1 C.2.1 q1 (fun q h => by cases h) (fun h => by cases h) k1 k2 rfl hkC ⟨h0, by show _ < (arrV _ _ _).slots.size; rw [arrV_size, hcl]; exact hj⟩ g1 (fun q h => by rw [g3] at h; cases h) (by rw [g2]; exact hkC) (by rw [g2]; exact va_assign hcls) rfl rfl hdg fun H1 e z oq => ?_
  refine kk H1 _ ls (z.trans h1) (h2.set hAa ?_ oq) (h3.put z oq hAa) h4
  show H1[a]? = some (vp_cell _ _)
  rw [e]
  show some ((vp_cell _ _).setSlot _ _) = _
  rw [vp_cell_q, vp_cell_q, arrV_store, hcl]
  congr 2
  funext q
  by_cases hq : q = j
  · subst hq
    simp [updV, va_up, va_rf]
  · simp [updV, va_up, hq]
/-- a new object stands at the heap's end -/
theorem z_new (C : zC X E cc own nL ret rm) {Cn : String} {T : u_T} {N ci index : Nat} (hin : ∀ w ∈ u_ws Cn T N, w ∈ zWS) (ty : Nat → FieldType) (hty : ∀ k, k < N → parseFieldDescriptor (T k).2.2.1 = some (ty k)) (hcl : Cond.classLink own index Cn ∈ zWS) (hinst : Cond.instantiable Cn N ∈ zWS) (hini : Cond.initialized Cn ∈ zWS) (hc : vwCl[ci]? = some (Cn, T, N)) {fs : List Value} (hfs : ∀ j, j < N → defaultValue (ty j) = vp_V fs j) (hcells : kc + 1 ≤ rm.cells) (hslots : ks + N ≤ rm.slots) (hdg : decode cc pc = .ok (.new index, 3))
    (kk : Z X E nL Q (kc + 1) (ks + N) (sz + 1) (zU M sz (.inr (ci, fs))) (pc + 3) L (.ref sz :: rest)) : Z X E nL Q kc ks sz M pc L rest := by
  intro H locs ls h1 h2 h3 h4
  have hts := C.2.2.2.2.1
  have hKn := C.2.2.2.2.2.1.1 ci _ hc
  have hR := C.2.2.2.2.2.2.2.2.2.1
  refine W.newcK C.1 C.2.1 C.2.2.2.1 (hts _ hcl) (hts _ hinst) (hts _ hini) rfl hdg (by rw [hR]; exact hcells) (by rw [hR]; exact hslots) hKn.2.1 h1 fun H1 kC hkC e1 z1 o1 => ?_
  have hle : X.2.2.2.2.1.heap.size ≤ sz := by have := h3.1; omega
  refine kk H1 locs ls z1 (h2.new h1 (C.2.2.2.2.2.2.1 _ hle) ⟨_, hc, (u_born ty hts hin hKn hkC e1 hty).to hfs⟩ o1) ⟨by omega, fun x a1 a2 => (o1 x (by omega)).trans (h3.2.1 x a1 a2), h3.2.2⟩ h4
/-- a new array of numbers stands at the heap's end -/
theorem z_newa (C : zC X E cc own nL ret rm) {atype : ArrayType} (harr : Cond.arrayClass (newarray.typeOf atype) ∈ zWS) {ty : FieldType} (hty : newarray.typeOf atype = ty) (t0 : Nat) {cA : ClassId} (ht : (zTy E.2.1)[t0]? = some (cA, ty)) (hob : ∀ n, ty ≠ .object n) {n : Int32} (N' : Nat) {a0 : vp_A} (ha : vp_cell cA a0 = arrV cA N' (fun _ => defaultValue ty)) (hi : n = nI N') (hbytes : N' * componentBytes ty ≤ 536870912) (hsm : N' < 2 ^ 31) (hcells : kc + 1 ≤ rm.cells) (hslots : ks + N' ≤ rm.slots) (hdg : decode cc pc = .ok (.newarray atype, 2))
    (kk : Z X E nL Q (kc + 1) (ks + N') (sz + 1) (zU M sz (.inl (cA, a0))) (pc + 2) L (.ref sz :: rest)) : Z X E nL Q kc ks sz M pc L (.int n :: rest) := by
  intro H locs ls h1 h2 h3 h4
  subst hty
  subst hi
  have hts := C.2.2.2.2.1
  have hR := C.2.2.2.2.2.2.2.2.2.1
  refine va_newaK C.1 C.2.1 (hts _ harr) rfl hdg rfl (nI_pos hsm) (nI_clamp hsm) hbytes (by rw [hR]; exact hcells) (by rw [hR]; exact hslots) h1 fun H1 cA' e1 z1 o1 hAr hNm => ?_
  have hle : X.2.2.2.2.1.heap.size ≤ sz := by have := h3.1; omega
  have hRA := (C.2.2.2.2.2.1.2 t0 _ ht).2
  have hce : cA' = cA := by
    cases hq : newarray.typeOf atype with
    | object C => exact absurd hq (hob C)
    | _ =>
      simp only [hq] at hRA hNm
      exact Option.some.inj (hNm.symm.trans hRA)
  subst hce
  refine kk H1 locs ls z1 (h2.new h1 (C.2.2.2.2.2.2.1 _ hle) ?_ o1) ⟨by omega, fun x a1 a2 => (o1 x (by omega)).trans (h3.2.1 x a1 a2), h3.2.2⟩ h4
  show H1[sz]? = some (vp_cell _ _)
  rw [ha]
  exact e1
/-- a new array of references stands at the heap's end -/
theorem z_newq (C : zC X E cc own nL ret rm) {Cn : String} {index : Nat} (hclink : Cond.classLink own index Cn ∈ zWS) (hover : Cn ∈ zO) (t0 : Nat) {cA : ClassId} (ht : (zTy E.2.1)[t0]? = some (cA, .object Cn)) {n : Int32} (N' : Nat) (hi : n = nI N') (hbytes : N' * 4 ≤ 536870912) (hsm : N' < 2 ^ 31) (hcells : kc + 1 ≤ rm.cells) (hslots : ks + N' ≤ rm.slots) (hdg : decode cc pc = .ok (.anewarray index, 3))
    (kk : Z X E nL Q (kc + 1) (ks + N') (sz + 1) (zU M sz (.inl (cA, N', .inr (.inr (.inr (.inr (fun _ => none))))))) (pc + 3) L (.ref sz :: rest)) : Z X E nL Q kc ks sz M pc L (.int n :: rest) := by
  intro H locs ls h1 h2 h3 h4
  subst hi
  have hts := C.2.2.2.2.1
  have hR := C.2.2.2.2.2.2.2.2.2.1
  have hcl : (nI N').toNatClampNeg = N' := nI_clamp hsm
  refine W.anew C.1 C.2.1 C.2.2.2.1 (hts _ hclink) (va_AO.use (C.2.2.2.2.2.2.2.2.2.2.2.1 _ hover)) rfl hdg rfl (nI_pos hsm) (by rw [hcl]; exact hbytes) (by rw [hR]; exact hcells) (by rw [hR, hcl]; exact hslots) fun cA' kA comp f1 f2 f3 f4 => ?_
  have hle : X.2.2.2.2.1.heap.size ≤ sz := by have := h3.1; omega
  obtain ⟨kA', comp', k1, k2, k3, k4⟩ := (C.2.2.2.2.2.1.2 t0 _ ht).2
  have hce : cA' = cA := Option.some.inj (f1.symm.trans k4)
  subst hce
  rw [hcl]
  generalize hH1 : H.push ({ cls := cA', slots := Array.replicate N' .null, vm := .none } : Cell) = H1
  have z1 : H1.size = sz + 1 := by rw [← hH1, Array.size_push, h1]
  have e1 : H1[sz]? = some (arrV cA' N' (fun _ => .null)) := by rw [← hH1, ← h1, Array.getElem?_push_size, ← arrV_new]
  have o1 : ∀ q : Nat, q < sz → H1[q]? = H[q]? := fun q hq => by rw [← hH1, Array.getElem?_push, if_neg (by omega)]
  rw [h1]
  exact kk H1 locs ls z1 (h2.new h1 (C.2.2.2.2.2.2.1 _ hle) e1 o1) ⟨by omega, fun x a1 a2 => (o1 x (by omega)).trans (h3.2.1 x a1 a2), h3.2.2⟩ h4
theorem z_ldc (C : zC X E cc own nL ret rm) {index : Nat} {v : Int32} (hconst : Jvm.Cond.constant own index v ∈ zWS) (hdg : decode cc pc = .ok (.ldc index, 2)) (kk : Z X E nL Q kc ks sz M (pc + 2) L (.int v :: rest)) : Z X E nL Q kc ks sz M pc L rest := fun H locs ls h1 h2 h3 h4 => lv_ldc C.1 C.2.1 C.2.2.2.1 (C.2.2.2.2.1 _ hconst) hdg (kk H locs ls h1 h2 h3 h4)
theorem z_ldc2 (C : zC X E cc own nL ret rm) {index : Nat} {v : Int64} (hconst : Jvm.Cond.constantLong own index v ∈ zWS) (hdg : decode cc pc = .ok (.ldc2_w index, 3)) (kk : Z X E nL Q kc ks sz M (pc + 3) L (.long v :: rest)) : Z X E nL Q kc ks sz M pc L rest := fun H locs ls h1 h2 h3 h4 => lv_ldc2 C.1 C.2.1 C.2.2.2.1 (C.2.2.2.2.1 _ hconst) hdg (kk H locs ls h1 h2 h3 h4)
theorem z_mmax (C : zC X E cc own nL ret rm) {index : Nat} (hlink : Cond.methodLink own index Lib.Math.max.name ∈ zWS) (hstat : Cond.static Lib.Math.max.name ∈ zWS) (hini : Cond.initialized "java/lang/Math" ∈ zWS) (hcode : Cond.code Lib.Math.max.name Lib.Math.max.code 2 (some .int) ∈ zWS) (hframes : 1 ≤ rm.frames) (hlocals : (rest.map fun v => v.category).sum + 13 ≤ rm.locals) (hc : kc ≤ rm.cells) (hs : ks ≤ rm.slots) {x y : Int32} (hdg : decode cc pc = .ok (.invokestatic index, 3)) (kk : Z X E nL Q kc ks sz M (pc + 3) L (.int (if x < y then y else x) :: rest)) : Z X E nL Q kc ks sz M pc L (.int y :: .int x :: rest) := fun H locs ls h1 h2 h3 h4 => by
  have hts := C.2.2.2.2.1
  have hR := C.2.2.2.2.2.2.2.2.2.1
  exact va_mmax C.1 C.2.1 (C.2.2.1.trans h4.1.symm) C.2.2.2.1 (hts _ hlink) (hts _ hstat) (hts _ hini) (hts _ hcode) (by rw [hR]; exact hframes) (by rw [hR]; exact hlocals) (by rw [hR]; exact hc) (by rw [hR]; exact hs) hdg (kk H locs ls h1 h2 h3 h4)
theorem z_mmin (C : zC X E cc own nL ret rm) {index : Nat} (hlink : Cond.methodLink own index Lib.Math.min.name ∈ zWS) (hstat : Cond.static Lib.Math.min.name ∈ zWS) (hini : Cond.initialized "java/lang/Math" ∈ zWS) (hcode : Cond.code Lib.Math.min.name Lib.Math.min.code 2 (some .int) ∈ zWS) (hframes : 1 ≤ rm.frames) (hlocals : (rest.map fun v => v.category).sum + 13 ≤ rm.locals) (hc : kc ≤ rm.cells) (hs : ks ≤ rm.slots) {x y : Int32} (hdg : decode cc pc = .ok (.invokestatic index, 3)) (kk : Z X E nL Q kc ks sz M (pc + 3) L (.int (if y < x then y else x) :: rest)) : Z X E nL Q kc ks sz M pc L (.int y :: .int x :: rest) := fun H locs ls h1 h2 h3 h4 => by
  have hts := C.2.2.2.2.1
  have hR := C.2.2.2.2.2.2.2.2.2.1
  exact va_mmin C.1 C.2.1 (C.2.2.1.trans h4.1.symm) C.2.2.2.1 (hts _ hlink) (hts _ hstat) (hts _ hini) (hts _ hcode) (by rw [hR]; exact hframes) (by rw [hR]; exact hlocals) (by rw [hR]; exact hc) (by rw [hR]; exact hs) hdg (kk H locs ls h1 h2 h3 h4)
theorem z_mabs (C : zC X E cc own nL ret rm) {index : Nat} (hlink : Cond.methodLink own index Lib.Math.abs.name ∈ zWS) (hstat : Cond.static Lib.Math.abs.name ∈ zWS) (hini : Cond.initialized "java/lang/Math" ∈ zWS) (hcode : Cond.code Lib.Math.abs.name Lib.Math.abs.code 1 (some .int) ∈ zWS) (hframes : 1 ≤ rm.frames) (hlocals : (rest.map fun v => v.category).sum + 13 ≤ rm.locals) (hc : kc ≤ rm.cells) (hs : ks ≤ rm.slots) {x : Int32} (hdg : decode cc pc = .ok (.invokestatic index, 3)) (kk : Z X E nL Q kc ks sz M (pc + 3) L (.int (if 0 ≤ x then x else 0 - x) :: rest)) : Z X E nL Q kc ks sz M pc L (.int x :: rest) := fun H locs ls h1 h2 h3 h4 => by
  have hts := C.2.2.2.2.1
  have hR := C.2.2.2.2.2.2.2.2.2.1
  exact va_mabs C.1 C.2.1 (C.2.2.1.trans h4.1.symm) C.2.2.2.1 (hts _ hlink) (hts _ hstat) (hts _ hini) (hts _ hcode) (by rw [hR]; exact hframes) (by rw [hR]; exact hlocals) (by rw [hR]; exact hc) (by rw [hR]; exact hs) hdg (kk H locs ls h1 h2 h3 h4)
theorem z_obj (C : zC X E cc own nL ret rm) {idx a : Nat} (hlink : Cond.methodLink own idx Lib.objectInit ∈ zWS) (hinst : Cond.instanceMethod Lib.objectInit ∈ zWS) (hcode : Cond.code Lib.objectInit ⟨#[0xb1]⟩ 1 none ∈ zWS) (hd : decode cc pc = .ok (.invokespecial idx, 3)) (hframes : 1 ≤ rm.frames) (hlocals : (rest.map fun v => v.category).sum + 12 ≤ rm.locals) (kk : Z X E nL Q kc ks sz M (pc + 3) L rest) : Z X E nL Q kc ks sz M pc L (.ref a :: rest) := fun H locs ls h1 h2 h3 h4 => by
  have hts := C.2.2.2.2.1
  have hR := C.2.2.2.2.2.2.2.2.2.1
  refine W.objInit C.1 C.2.1 C.2.2.2.1 (hts _ hlink) (hts _ hinst) (hts _ hcode) rfl (h4.1.trans C.2.2.1.symm) rfl hd (by rw [hR]; exact hframes) (by show 2 * 0 + _ + 12 ≤ _; rw [hR]; omega) ?_
  exact kk H locs ls h1 h2 h3 h4
/-- the world at a method's end -/
theorem z_end (C : zC X E cc own nL ret rm) {H : Heap} {locs : List Loc} (h1 : H.size = sz) (h2 : zH E M H) (h3 : va_S E.2.2.1 X.2.2.2.2.1.heap H locs) {t : State} (ht : t.heap = H) (hW : X.2.2.2.2.1.WarmedH t.vm) : zI E sz M t := by
  refine ⟨by rw [ht]; exact h1, by rw [ht]; exact h2, va_K.moved hW.alike C.2.2.2.2.2.1, fun q hq => C.2.2.2.2.2.2.1 q (by have := h3.1; omega), zJ_warm hW (fun q a1 a2 => by rw [ht]; exact h3.2.1 q a1 a2) C.2.2.2.2.2.2.2.2.2.2⟩
theorem z_iret (C : zC X E cc own nL (some .int) rm) {post : Option Value → Nat → zM → Prop} {v : Int32} (hq : post (some (.int v)) sz M) (hdg : decode cc pc = .ok (.ireturn, 1)) : Z X E nL (zQ X E kc ks post) kc ks sz M pc L [.int v] := fun H locs ls h1 h2 h3 h4 =>
  W.iret C.1 C.2.1 C.2.2.2.2.2.2.2.2.1 (fun t ht hW => ⟨⟨_, sz, M, rfl, hq, z_end C h1 h2 h3 ht hW⟩, h3.F ht⟩) h3.2.2 hdg C.2.2.2.2.2.2.2.1
theorem z_zret {ty : FieldType} (C : zC X E cc own nL (some ty) rm) {post : Option Value → Nat → zM → Prop} {v : Int32} (hn : narrow ty (.int v) = .int v) (hq : post (some (.int v)) sz M) (hdg : decode cc pc = .ok (.ireturn, 1)) : Z X E nL (zQ X E kc ks post) kc ks sz M pc L [.int v] := fun H locs ls h1 h2 h3 h4 =>
  W.zret C.1 C.2.1 C.2.2.2.2.2.2.2.2.1 hn (fun t ht hW => ⟨⟨_, sz, M, rfl, hq, z_end C h1 h2 h3 ht hW⟩, h3.F ht⟩) h3.2.2 hdg C.2.2.2.2.2.2.2.1
theorem z_vret (C : zC X E cc own nL none rm) {post : Option Value → Nat → zM → Prop} (hq : post none sz M) (hdg : decode cc pc = .ok (.return_, 1)) : Z X E nL (zQ X E kc ks post) kc ks sz M pc L [] := fun H locs ls h1 h2 h3 h4 =>
  W.vret C.1 C.2.1 C.2.2.2.2.2.2.2.2.1 (fun t ht hW => ⟨⟨_, sz, M, rfl, hq, z_end C h1 h2 h3 ht hW⟩, h3.F ht⟩) h3.2.2 hdg C.2.2.2.2.2.2.2.1
theorem z_aret {rt : FieldType} (C : zC X E cc own nL (some rt) rm) {post : Option Value → Nat → zM → Prop} {v : Value} (hrt : (∃ n, rt = .object n) ∨ ∃ t, rt = .array t) (hv : v = .null ∨ ∃ a, v = .ref a) (hq : post (some v) sz M) (hdg : decode cc pc = .ok (.areturn, 1)) : Z X E nL (zQ X E kc ks post) kc ks sz M pc L [v] := fun H locs ls h1 h2 h3 h4 =>
  W.aret C.1 C.2.1 C.2.2.2.2.2.2.2.2.1 hrt hv (fun t ht hW => ⟨⟨_, sz, M, rfl, hq, z_end C h1 h2 h3 ht hW⟩, h3.F ht⟩) h3.2.2 hdg C.2.2.2.2.2.2.2.1
/-- a contract out of a walk -/
theorem zMet.ofZ {l : Launch} {y : MethodName} {mc ms : Nat} {av : List Value} {post : Option Value → Nat → zM → Prop} {maxL : Nat} (hy : plainName y.cls = true) (hav : (lg_sl av).length ≤ maxL)
    (body : ∀ X : zX, X.2.1 = l → X.2.2.2.2.2.2.2.2.1.name = y.name → zC X E cc y.cls maxL ret rm → Z X E maxL (zQ X E mc ms post) 0 0 sz M 0 (lv_args 0 av) []) : zMet E l y cc maxL ret rm mc ms av sz M post := by
  refine Met.ofW (cc := cc) (maxL := maxL) (ret := ret) hy rfl ?_
  intro p e s m args below meth c s₁ B hml hv
  obtain ⟨rfl, hsz, hP, hK, hA, hJ⟩ := hv
  have hts := atoms_spec (ws := Cond.code y cc maxL ret :: zWS) B.pre
  have hl := lv_entry av hav
  rw [lg_entry_eq]
  exact body (p, l, e, rm, s, m, av.toArray, below, meth, c) rfl (name_of_methodNamed B.named B.method).1 ⟨B.exec, B.bytes, hml, findClass_of_methodNamed B.named, fun w hw => hts w (List.mem_cons_of_mem _ hw), hK, fun q hq => hA q (by rw [← hsz]; exact hq), B.notSynchronized, B.returns, rfl, hJ⟩ s.heap [] _ hsz hP va_S.rf hl
theorem zI.calling {U : State} {g : JFrame} {mk : MethodId} {a : Array Value} (h : zI E sz M U) : zI E sz M (U.calling g mk a) := ⟨h.1, h.2.1, va_K.moved (u := U) (U := U.calling g mk a) (Vm.Alike.refl U.vm) h.2.2.1, h.2.2.2.1, zJ_same (u := U) (U := U.calling g mk a) rfl rfl h.2.2.2.2⟩
theorem z_enter (C : zC X E cc own nL ret rm) {H : Heap} {locs : List Loc} (h1 : H.size = sz) (h2 : zH E M H) (h3 : va_S E.2.2.1 X.2.2.2.2.1.heap H locs) : ∀ U : State, U.heap = H → X.2.2.2.2.1.WarmedH U.vm → zI E sz M U := fun _ hU hW => z_end C h1 h2 h3 hU hW
/-- what comes behind a call, of whatever kind -/
theorem z_after {H : Heap} {locs : List Loc} {ls : Array Slot} {mc ms : Nat} {st0 : List Value} {post : Option Value → Nat → zM → Prop} {a : Array Value}
    (hr : va_Run X.1 X.2.1 X.2.2.1 X.2.2.2.1 X.2.2.2.2.1 X.2.2.2.2.2.1 X.2.2.2.2.2.2.1 X.2.2.2.2.2.2.2.1 X.2.2.2.2.2.2.2.2.1 X.2.2.2.2.2.2.2.2.2 H locs kc ks mc ms (F0 X.2.2.2.2.2.1 pc ls st0) rest (zQc E post a) E.2.2.1)
    (h3 : va_S E.2.2.1 X.2.2.2.2.1.heap H locs) (h4 : lv_has ls nL L)
    (kk : ∀ (v : Option Value) (sz' : Nat) (M' : zM), post v sz' M' → Z X E nL Q (kc + mc) (ks + ms) sz' M' (pc + 3) L (v.toList ++ rest)) :
    W X.1 X.2.1 X.2.2.1 X.2.2.2.1 X.2.2.2.2.1 X.2.2.2.2.2.1 X.2.2.2.2.2.2.1 X.2.2.2.2.2.2.2.1 X.2.2.2.2.2.2.2.2.1 X.2.2.2.2.2.2.2.2.2 H locs kc ks Q (F0 X.2.2.2.2.2.1 pc ls st0) := by
  intro T hT XS
  obtain ⟨v, st₀, t, T', Lc, g0, X', hL, e1, e2, ⟨⟨v', sz', M', hv, hp, hz, hP, -⟩, hz2, hk⟩, st⟩ := hr T hT XS
  cases hv
  rw [g0] at hz2 hk
  obtain ⟨t2, a1, b1⟩ := kk v sz' M' hp T'.heap (locs ++ Lc) ls (by rw [e1]; exact hz) (by rw [e1]; exact hP) ⟨Nat.le_trans h3.1 (by rw [e1]; exact hz2), fun q q1 q2 => by rw [e1, hk q (Nat.lt_of_lt_of_le q1 h3.1) q2]; exact h3.2.1 q q1 q2, fun q hq => by
      rcases List.mem_append.mp hq with h | h
      · exact h3.2.2 q h
      · exact hL q h⟩ h4 T' rfl X'
  exact ⟨t2, st t2 a1, b1⟩
theorem z_callV (C : zC X E cc own nL ret rm) {y : MethodName} {rmc : Room} {mc ms b ci N index maxL n : Nat} {As fs : List Value} {post : Option Value → Nat → zM → Prop} {Cn : String} {T : u_T} {bytes : ByteArray} {rt : Option FieldType} (hM : zMet E X.2.1 y bytes maxL rt rmc mc ms (.ref b :: As) sz M post) (cw : CallW rm X.2.2.2.2.1 X.2.2.2.2.2.2.1 own Cn index y bytes maxL rt (Cond.code y bytes maxL rt :: zWS) rmc mc ms n) (he : M b = some (.inr (ci, fs))) (hc : vwCl[ci]? = some (Cn, T, N)) (hn : As.length = n) {st0 : List Value} (hst : st0 = As.reverse ++ .ref b :: rest) (hW : (rest.map fun v => v.category).sum ≤ 8) (hdg : decode cc pc = .ok (.invokevirtual index, 3)) (hf : kc + mc ≤ rm.cells ∧ ks + ms ≤ rm.slots)
    (kk : ∀ (v : Option Value) (sz' : Nat) (M' : zM), post v sz' M' → Z X E nL Q (kc + mc) (ks + ms) sz' M' (pc + 3) L (v.toList ++ rest)) : Z X E nL Q kc ks sz M pc L st0 := fun H locs ls h1 h2 h3 h4 => by
  have hR := C.2.2.2.2.2.2.2.2.2.1
  refine z_after (va_runV (As := As) (b := b) (rest := rest) (C := Cn) ⟨C.1, C.2.1, C.2.2.1, C.2.2.2.1, C.2.2.2.2.1⟩ hM (by rw [hR]; exact cw) ⟨fun a U g mk q => ⟨q.1, q.2.calling⟩, va_recv C.2.2.2.2.2.1 (h2.one he) hc (q0 := 0) rfl, fun U hU hW => ⟨rfl, z_enter C h1 h2 h3 U hU hW⟩⟩ rfl hn h4.1 hst (lv_room hW) hdg (by rw [hR]; exact hf)) h3 h4 kk
theorem z_callVN (C : zC X E cc own nL ret rm) {y : MethodName} {rmc : Room} {mc ms b ci N index maxL n : Nat} {As fs : List Value} {post : Option Value → Nat → zM → Prop} {Cn host : String} {T : u_T} {bytes : ByteArray} {rt : Option FieldType} (hM : zMet E X.2.1 y bytes maxL rt rmc mc ms (.ref b :: As) sz M post) (cw : va_CN rm X.2.2.2.2.1 X.2.2.2.2.2.2.1 own index y host bytes maxL rt (Cond.code y bytes maxL rt :: zWS) rmc mc ms n ∧ (Cond.instanceMethod y).before X.2.2.2.2.2.2.1 X.2.2.2.2.1 = true ∧ (Cond.selects Cn y y).before X.2.2.2.2.2.2.1 X.2.2.2.2.1 = true) (he : M b = some (.inr (ci, fs))) (hc : vwCl[ci]? = some (Cn, T, N)) (hn : As.length = n) {st0 : List Value} (hst : st0 = As.reverse ++ .ref b :: rest) (hW : (rest.map fun v => v.category).sum ≤ 8) (hdg : decode cc pc = .ok (.invokevirtual index, 3)) (hf : kc + mc ≤ rm.cells ∧ ks + ms ≤ rm.slots)
    (kk : ∀ (v : Option Value) (sz' : Nat) (M' : zM), post v sz' M' → Z X E nL Q (kc + mc) (ks + ms) sz' M' (pc + 3) L (v.toList ++ rest)) : Z X E nL Q kc ks sz M pc L st0 := fun H locs ls h1 h2 h3 h4 => by
  have hR := C.2.2.2.2.2.2.2.2.2.1
  refine z_after (va_runVN (As := As) (b := b) (rest := rest) (C := Cn) ⟨C.1, C.2.1, C.2.2.1, C.2.2.2.1, C.2.2.2.2.1⟩ hM (by rw [hR]; exact cw) ⟨fun a U g mk q => ⟨q.1, q.2.calling⟩, va_recv C.2.2.2.2.2.1 (h2.one he) hc (q0 := 0) rfl, fun U hU hW => ⟨rfl, z_enter C h1 h2 h3 U hU hW⟩⟩ rfl hn h4.1 hst (lv_room hW) hdg (by rw [hR]; exact hf)) h3 h4 kk
theorem z_callS (C : zC X E cc own nL ret rm) {y : MethodName} {rmc : Room} {mc ms index maxL n : Nat} {As : List Value} {post : Option Value → Nat → zM → Prop} {bytes : ByteArray} {rt : Option FieldType} (hM : zMet E X.2.1 y bytes maxL rt rmc mc ms As sz M post) (cw : CallB rm X.2.2.2.2.1 X.2.2.2.2.2.2.1 own index y bytes maxL rt (Cond.code y bytes maxL rt :: zWS) rmc mc ms n ∧ (Cond.static y).before X.2.2.2.2.2.2.1 X.2.2.2.2.1 = true) (hn : As.length = n) {st0 : List Value} (hst : st0 = As.reverse ++ rest) (hW : (rest.map fun v => v.category).sum ≤ 8) (hdg : decode cc pc = .ok (.invokestatic index, 3)) (hf : kc + mc ≤ rm.cells ∧ ks + ms ≤ rm.slots)
    (kk : ∀ (v : Option Value) (sz' : Nat) (M' : zM), post v sz' M' → Z X E nL Q (kc + mc) (ks + ms) sz' M' (pc + 3) L (v.toList ++ rest)) : Z X E nL Q kc ks sz M pc L st0 := fun H locs ls h1 h2 h3 h4 => by
  have hR := C.2.2.2.2.2.2.2.2.2.1
  refine z_after (va_runS (As := As) (rest := rest) ⟨C.1, C.2.1, C.2.2.1, C.2.2.2.1, C.2.2.2.2.1⟩ hM (by rw [hR]; exact cw) ⟨fun a U g mk q => ⟨q.1, q.2.calling⟩, fun U hU hW => ⟨rfl, z_enter C h1 h2 h3 U hU hW⟩⟩ rfl hn h4.1 hst (lv_room hW) hdg (by rw [hR]; exact hf)) h3 h4 kk
theorem z_callSN (C : zC X E cc own nL ret rm) {y : MethodName} {rmc : Room} {mc ms index maxL n : Nat} {As : List Value} {post : Option Value → Nat → zM → Prop} {host : String} {bytes : ByteArray} {rt : Option FieldType} (hM : zMet E X.2.1 y bytes maxL rt rmc mc ms As sz M post) (cw : va_CN rm X.2.2.2.2.1 X.2.2.2.2.2.2.1 own index y host bytes maxL rt (Cond.code y bytes maxL rt :: zWS) rmc mc ms n ∧ (Cond.static y).before X.2.2.2.2.2.2.1 X.2.2.2.2.1 = true ∧ True) (hn : As.length = n) {st0 : List Value} (hst : st0 = As.reverse ++ rest) (hW : (rest.map fun v => v.category).sum ≤ 8) (hdg : decode cc pc = .ok (.invokestatic index, 3)) (hf : kc + mc ≤ rm.cells ∧ ks + ms ≤ rm.slots)
    (kk : ∀ (v : Option Value) (sz' : Nat) (M' : zM), post v sz' M' → Z X E nL Q (kc + mc) (ks + ms) sz' M' (pc + 3) L (v.toList ++ rest)) : Z X E nL Q kc ks sz M pc L st0 := fun H locs ls h1 h2 h3 h4 => by
  have hR := C.2.2.2.2.2.2.2.2.2.1
  refine z_after (va_runSN (As := As) (rest := rest) ⟨C.1, C.2.1, C.2.2.1, C.2.2.2.1, C.2.2.2.2.1⟩ hM (by rw [hR]; exact cw) ⟨fun a U g mk q => ⟨q.1, q.2.calling⟩, fun U hU hW => ⟨rfl, z_enter C h1 h2 h3 U hU hW⟩⟩ rfl hn h4.1 hst (lv_room hW) hdg (by rw [hR]; exact hf)) h3 h4 kk
theorem z_callI (C : zC X E cc own nL ret rm) {y : MethodName} {rmc : Room} {mc ms b index maxL n : Nat} {As : List Value} {post : Option Value → Nat → zM → Prop} {bytes : ByteArray} (hM : zMet E X.2.1 y bytes maxL none rmc mc ms (.ref b :: As) sz M post) (cw : CallB rm X.2.2.2.2.1 X.2.2.2.2.2.2.1 own index y bytes maxL none (Cond.code y bytes maxL none :: zWS) rmc mc ms n ∧ y.name = "<init>" ∧ (Cond.instanceMethod y).before X.2.2.2.2.2.2.1 X.2.2.2.2.1 = true) (hn : As.length = n) {st0 : List Value} (hst : st0 = As.reverse ++ .ref b :: rest) (hW : (rest.map fun v => v.category).sum ≤ 8) (hdg : decode cc pc = .ok (.invokespecial index, 3)) (hf : kc + mc ≤ rm.cells ∧ ks + ms ≤ rm.slots)
    (kk : ∀ (v : Option Value) (sz' : Nat) (M' : zM), post v sz' M' → Z X E nL Q (kc + mc) (ks + ms) sz' M' (pc + 3) L (v.toList ++ rest)) : Z X E nL Q kc ks sz M pc L st0 := fun H locs ls h1 h2 h3 h4 => by
  have hR := C.2.2.2.2.2.2.2.2.2.1
  refine z_after (va_runI (As := As) (b := b) (rest := rest) ⟨C.1, C.2.1, C.2.2.1, C.2.2.2.1, C.2.2.2.2.1⟩ hM (by rw [hR]; exact cw) ⟨fun a U g mk q => ⟨q.1, q.2.calling⟩, fun U hU hW => ⟨rfl, z_enter C h1 h2 h3 U hU hW⟩⟩ rfl hn h4.1 hst (lv_room hW) hdg (by rw [hR]; exact hf)) h3 h4 kk
theorem z_callIN (C : zC X E cc own nL ret rm) {y : MethodName} {rmc : Room} {mc ms b index maxL n : Nat} {As : List Value} {post : Option Value → Nat → zM → Prop} {host : String} {bytes : ByteArray} (hM : zMet E X.2.1 y bytes maxL none rmc mc ms (.ref b :: As) sz M post) (cw : va_CN rm X.2.2.2.2.1 X.2.2.2.2.2.2.1 own index y host bytes maxL none (Cond.code y bytes maxL none :: zWS) rmc mc ms n ∧ y.name = "<init>" ∧ (Cond.instanceMethod y).before X.2.2.2.2.2.2.1 X.2.2.2.2.1 = true) (hn : As.length = n) {st0 : List Value} (hst : st0 = As.reverse ++ .ref b :: rest) (hW : (rest.map fun v => v.category).sum ≤ 8) (hdg : decode cc pc = .ok (.invokespecial index, 3)) (hf : kc + mc ≤ rm.cells ∧ ks + ms ≤ rm.slots)
    (kk : ∀ (v : Option Value) (sz' : Nat) (M' : zM), post v sz' M' → Z X E nL Q (kc + mc) (ks + ms) sz' M' (pc + 3) L (v.toList ++ rest)) : Z X E nL Q kc ks sz M pc L st0 := fun H locs ls h1 h2 h3 h4 => by
  have hR := C.2.2.2.2.2.2.2.2.2.1
  refine z_after (va_runIN (As := As) (b := b) (rest := rest) ⟨C.1, C.2.1, C.2.2.1, C.2.2.2.1, C.2.2.2.2.1⟩ hM (by rw [hR]; exact cw) ⟨fun a U g mk q => ⟨q.1, q.2.calling⟩, fun U hU hW => ⟨rfl, z_enter C h1 h2 h3 U hU hW⟩⟩ rfl hn h4.1 hst (lv_room hW) hdg (by rw [hR]; exact hf)) h3 h4 kk
theorem zWS_good {w : Cond} (h : w ∈ zWS) : (w.onTables && w.keeps) = true ∨ ∃ ty, w = .arrayClass ty := good_of_word (List.mem_filter.mp h).2
theorem z_cb (C : zC X E cc own nL ret rm) {y : MethodName} {bytes : ByteArray} {maxL index n mc ms : Nat} {rt : Option FieldType} {rmc : Room} (hc : Cond.code y bytes maxL rt ∈ zWS) (hl : Cond.methodLink own index y ∈ zWS) (hini : Cond.initialized y.cls ∈ zWS) (hrc : rmc.cells = mc) (hrs : rmc.slots = ms) (hd : y.cls ≠ "java/lang/invoke/MethodHandle" ∧ y.cls ≠ "java/lang/invoke/VarHandle" ∧ (parseMethodDescriptor y.desc).map (fun d => d.parameters.length) = some n) (hR : rmc.frames + 1 ≤ rm.frames ∧ 8 + (maxL + 11) + rmc.locals ≤ rm.locals) :
    CallB rm X.2.2.2.2.1 X.2.2.2.2.2.2.1 own index y bytes maxL rt (Cond.code y bytes maxL rt :: zWS) rmc mc ms n := by
  have hts := C.2.2.2.2.1
  refine callB_of n (Ts := zWS) hts (fun w hw => ?_) rfl hrc hrs (hts _ hini) (hts _ hl) hd hR
  rcases List.mem_cons.mp hw with h | h
  · subst h; exact ⟨hc, zWS_good hc⟩
  · exact ⟨h, zWS_good h⟩
theorem z_cn (C : zC X E cc own nL ret rm) {y : MethodName} {bytes : ByteArray} {maxL index n mc ms : Nat} {rt : Option FieldType} {rmc : Room} {host : String} (hc : Cond.code y bytes maxL rt ∈ zWS) (hl : Cond.methodLinkNest own index y host ∈ zN) (hini : Cond.initialized y.cls ∈ zWS) (hrc : rmc.cells = mc) (hrs : rmc.slots = ms) (hd : y.cls ≠ "java/lang/invoke/MethodHandle" ∧ y.cls ≠ "java/lang/invoke/VarHandle" ∧ (parseMethodDescriptor y.desc).map (fun d => d.parameters.length) = some n) (hR : rmc.frames + 1 ≤ rm.frames ∧ 8 + (maxL + 11) + rmc.locals ≤ rm.locals) :
    va_CN rm X.2.2.2.2.1 X.2.2.2.2.2.2.1 own index y host bytes maxL rt (Cond.code y bytes maxL rt :: zWS) rmc mc ms n := by
  have hts := C.2.2.2.2.1
  refine va_cnB n (Ts := zWS) hts (fun w hw => ?_) rfl hrc hrs (C.2.2.2.2.2.2.2.2.2.2.1 _ hl) (hts _ hini) hd hR
  rcases List.mem_cons.mp hw with h | h
  · subst h; exact ⟨hc, zWS_good hc⟩
  · exact ⟨h, zWS_good h⟩
end ZR
