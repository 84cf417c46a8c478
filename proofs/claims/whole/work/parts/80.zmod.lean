/-! the reference in the world -/
def mw (E : zE) (M : zM) (m : Nat) (xln : Nat → Nat) (xlen : Nat) (xlab : Nat) (xbad : Int32) (xlev : Nat) (xtr : Int32) (xwa : Nat) (xpl : Nat) (xfo : Nat) (xsf : Nat → Nat) (xbf : Nat → Nat) (xF : Nat → FF) (xG : Nat → FF) (xP : Nat → FF) (xQ : Nat → FF) (xmm : Nat → FF) (xsl : Nat → Nat) (xkd : Nat → Nat) (xhs : Nat → Nat) (xht : Nat → Nat) (xsg : Nat → Nat) (xdv : Nat → Nat) : Prop := M m = some (.inr (10, [.ref (m + 1), .int (nI xlen), .int (nI xlab), .int xbad, .int (nI xlev), .int xtr, .int (nI xwa), .int (nI xpl), .int (nI xfo), .ref (m + 2), .ref (m + 3), .ref (m + 4), .ref (m + 5), .ref (m + 6), .ref (m + 7), .ref (m + 8), .ref (m + 9), .ref (m + 10), .ref (m + 11), .ref (m + 12), .ref (m + 13), .ref (m + 14)])) ∧ M (m + 1) = some (.inl (E.2.1 0, 32, .inl (fun j => nI (xln j)))) ∧ M (m + 2) = some (.inl (E.2.1 0, 41, .inl (fun j => nI (xsf j)))) ∧ M (m + 3) = some (.inl (E.2.1 0, 3, .inl (fun j => nI (xbf j)))) ∧ M (m + 4) = some (.inl (E.2.1 0, 1014, .inl (fun j => fI (xF j)))) ∧ M (m + 5) = some (.inl (E.2.1 0, 1014, .inl (fun j => fI (xG j)))) ∧ M (m + 6) = some (.inl (E.2.1 0, 40, .inl (fun j => fI (xP j)))) ∧ M (m + 7) = some (.inl (E.2.1 0, 40, .inl (fun j => fI (xQ j)))) ∧ M (m + 8) = some (.inl (E.2.1 0, 962, .inl (fun j => fI (xmm j)))) ∧ M (m + 9) = some (.inl (E.2.1 0, 26, .inl (fun j => tI (xsl j)))) ∧ M (m + 10) = some (.inl (E.2.1 0, 10, .inl (fun j => nI (xkd j)))) ∧ M (m + 11) = some (.inl (E.2.1 2, 10, .inl (fun j => nI (xhs j)))) ∧ M (m + 12) = some (.inl (E.2.1 2, 10, .inl (fun j => nI (xht j)))) ∧ M (m + 13) = some (.inl (E.2.1 0, 10, .inl (fun j => nI (xsg j)))) ∧ M (m + 14) = some (.inl (E.2.1 2, 10, .inl (fun j => nI (xdv j))))
theorem mw_o {E : zE} {M : zM} {m : Nat} {xln : Nat → Nat} {xlen : Nat} {xlab : Nat} {xbad : Int32} {xlev : Nat} {xtr : Int32} {xwa : Nat} {xpl : Nat} {xfo : Nat} {xsf : Nat → Nat} {xbf : Nat → Nat} {xF : Nat → FF} {xG : Nat → FF} {xP : Nat → FF} {xQ : Nat → FF} {xmm : Nat → FF} {xsl : Nat → Nat} {xkd : Nat → Nat} {xhs : Nat → Nat} {xht : Nat → Nat} {xsg : Nat → Nat} {xdv : Nat → Nat} (H : mw E M m xln xlen xlab xbad xlev xtr xwa xpl xfo xsf xbf xF xG xP xQ xmm xsl xkd xhs xht xsg xdv) (len lab : Nat) (bad : Int32) (lev : Nat) (tr : Int32) (wa pl fo : Nat) : mw E (zU M m (.inr (10, [.ref (m + 1), .int (nI len), .int (nI lab), .int bad, .int (nI lev), .int tr, .int (nI wa), .int (nI pl), .int (nI fo), .ref (m + 2), .ref (m + 3), .ref (m + 4), .ref (m + 5), .ref (m + 6), .ref (m + 7), .ref (m + 8), .ref (m + 9), .ref (m + 10), .ref (m + 11), .ref (m + 12), .ref (m + 13), .ref (m + 14)]))) m xln len lab bad lev tr wa pl fo xsf xbf xF xG xP xQ xmm xsl xkd xhs xht xsg xdv := ⟨zU_eq, (zU_ne (by omega)).trans H.2.1, (zU_ne (by omega)).trans H.2.2.1, (zU_ne (by omega)).trans H.2.2.2.1, (zU_ne (by omega)).trans H.2.2.2.2.1, (zU_ne (by omega)).trans H.2.2.2.2.2.1, (zU_ne (by omega)).trans H.2.2.2.2.2.2.1, (zU_ne (by omega)).trans H.2.2.2.2.2.2.2.1, (zU_ne (by omega)).trans H.2.2.2.2.2.2.2.2.1, (zU_ne (by omega)).trans H.2.2.2.2.2.2.2.2.2.1, (zU_ne (by omega)).trans H.2.2.2.2.2.2.2.2.2.2.1, (zU_ne (by omega)).trans H.2.2.2.2.2.2.2.2.2.2.2.1, (zU_ne (by omega)).trans H.2.2.2.2.2.2.2.2.2.2.2.2.1, (zU_ne (by omega)).trans H.2.2.2.2.2.2.2.2.2.2.2.2.2.1, (zU_ne (by omega)).trans H.2.2.2.2.2.2.2.2.2.2.2.2.2.2⟩
theorem mw_a1 {E : zE} {M : zM} {m : Nat} {xln : Nat → Nat} {xlen : Nat} {xlab : Nat} {xbad : Int32} {xlev : Nat} {xtr : Int32} {xwa : Nat} {xpl : Nat} {xfo : Nat} {xsf : Nat → Nat} {xbf : Nat → Nat} {xF : Nat → FF} {xG : Nat → FF} {xP : Nat → FF} {xQ : Nat → FF} {xmm : Nat → FF} {xsl : Nat → Nat} {xkd : Nat → Nat} {xhs : Nat → Nat} {xht : Nat → Nat} {xsg : Nat → Nat} {xdv : Nat → Nat} (H : mw E M m xln xlen xlab xbad xlev xtr xwa xpl xfo xsf xbf xF xG xP xQ xmm xsl xkd xhs xht xsg xdv) (f : Nat → Nat) : mw E (zU M (m + 1) (.inl (E.2.1 0, 32, .inl (fun j => nI (f j))))) m f xlen xlab xbad xlev xtr xwa xpl xfo xsf xbf xF xG xP xQ xmm xsl xkd xhs xht xsg xdv := ⟨(zU_ne (by omega)).trans H.1, zU_eq, (zU_ne (by omega)).trans H.2.2.1, (zU_ne (by omega)).trans H.2.2.2.1, (zU_ne (by omega)).trans H.2.2.2.2.1, (zU_ne (by omega)).trans H.2.2.2.2.2.1, (zU_ne (by omega)).trans H.2.2.2.2.2.2.1, (zU_ne (by omega)).trans H.2.2.2.2.2.2.2.1, (zU_ne (by omega)).trans H.2.2.2.2.2.2.2.2.1, (zU_ne (by omega)).trans H.2.2.2.2.2.2.2.2.2.1, (zU_ne (by omega)).trans H.2.2.2.2.2.2.2.2.2.2.1, (zU_ne (by omega)).trans H.2.2.2.2.2.2.2.2.2.2.2.1, (zU_ne (by omega)).trans H.2.2.2.2.2.2.2.2.2.2.2.2.1, (zU_ne (by omega)).trans H.2.2.2.2.2.2.2.2.2.2.2.2.2.1, (zU_ne (by omega)).trans H.2.2.2.2.2.2.2.2.2.2.2.2.2.2⟩
theorem mw_a2 {E : zE} {M : zM} {m : Nat} {xln : Nat → Nat} {xlen : Nat} {xlab : Nat} {xbad : Int32} {xlev : Nat} {xtr : Int32} {xwa : Nat} {xpl : Nat} {xfo : Nat} {xsf : Nat → Nat} {xbf : Nat → Nat} {xF : Nat → FF} {xG : Nat → FF} {xP : Nat → FF} {xQ : Nat → FF} {xmm : Nat → FF} {xsl : Nat → Nat} {xkd : Nat → Nat} {xhs : Nat → Nat} {xht : Nat → Nat} {xsg : Nat → Nat} {xdv : Nat → Nat} (H : mw E M m xln xlen xlab xbad xlev xtr xwa xpl xfo xsf xbf xF xG xP xQ xmm xsl xkd xhs xht xsg xdv) (f : Nat → Nat) : mw E (zU M (m + 2) (.inl (E.2.1 0, 41, .inl (fun j => nI (f j))))) m xln xlen xlab xbad xlev xtr xwa xpl xfo f xbf xF xG xP xQ xmm xsl xkd xhs xht xsg xdv := ⟨(zU_ne (by omega)).trans H.1, (zU_ne (by omega)).trans H.2.1, zU_eq, (zU_ne (by omega)).trans H.2.2.2.1, (zU_ne (by omega)).trans H.2.2.2.2.1, (zU_ne (by omega)).trans H.2.2.2.2.2.1, (zU_ne (by omega)).trans H.2.2.2.2.2.2.1, (zU_ne (by omega)).trans H.2.2.2.2.2.2.2.1, (zU_ne (by omega)).trans H.2.2.2.2.2.2.2.2.1, (zU_ne (by omega)).trans H.2.2.2.2.2.2.2.2.2.1, (zU_ne (by omega)).trans H.2.2.2.2.2.2.2.2.2.2.1, (zU_ne (by omega)).trans H.2.2.2.2.2.2.2.2.2.2.2.1, (zU_ne (by omega)).trans H.2.2.2.2.2.2.2.2.2.2.2.2.1, (zU_ne (by omega)).trans H.2.2.2.2.2.2.2.2.2.2.2.2.2.1, (zU_ne (by omega)).trans H.2.2.2.2.2.2.2.2.2.2.2.2.2.2⟩
theorem mw_a3 {E : zE} {M : zM} {m : Nat} {xln : Nat → Nat} {xlen : Nat} {xlab : Nat} {xbad : Int32} {xlev : Nat} {xtr : Int32} {xwa : Nat} {xpl : Nat} {xfo : Nat} {xsf : Nat → Nat} {xbf : Nat → Nat} {xF : Nat → FF} {xG : Nat → FF} {xP : Nat → FF} {xQ : Nat → FF} {xmm : Nat → FF} {xsl : Nat → Nat} {xkd : Nat → Nat} {xhs : Nat → Nat} {xht : Nat → Nat} {xsg : Nat → Nat} {xdv : Nat → Nat} (H : mw E M m xln xlen xlab xbad xlev xtr xwa xpl xfo xsf xbf xF xG xP xQ xmm xsl xkd xhs xht xsg xdv) (f : Nat → Nat) : mw E (zU M (m + 3) (.inl (E.2.1 0, 3, .inl (fun j => nI (f j))))) m xln xlen xlab xbad xlev xtr xwa xpl xfo xsf f xF xG xP xQ xmm xsl xkd xhs xht xsg xdv := ⟨(zU_ne (by omega)).trans H.1, (zU_ne (by omega)).trans H.2.1, (zU_ne (by omega)).trans H.2.2.1, zU_eq, (zU_ne (by omega)).trans H.2.2.2.2.1, (zU_ne (by omega)).trans H.2.2.2.2.2.1, (zU_ne (by omega)).trans H.2.2.2.2.2.2.1, (zU_ne (by omega)).trans H.2.2.2.2.2.2.2.1, (zU_ne (by omega)).trans H.2.2.2.2.2.2.2.2.1, (zU_ne (by omega)).trans H.2.2.2.2.2.2.2.2.2.1, (zU_ne (by omega)).trans H.2.2.2.2.2.2.2.2.2.2.1, (zU_ne (by omega)).trans H.2.2.2.2.2.2.2.2.2.2.2.1, (zU_ne (by omega)).trans H.2.2.2.2.2.2.2.2.2.2.2.2.1, (zU_ne (by omega)).trans H.2.2.2.2.2.2.2.2.2.2.2.2.2.1, (zU_ne (by omega)).trans H.2.2.2.2.2.2.2.2.2.2.2.2.2.2⟩
theorem mw_a4 {E : zE} {M : zM} {m : Nat} {xln : Nat → Nat} {xlen : Nat} {xlab : Nat} {xbad : Int32} {xlev : Nat} {xtr : Int32} {xwa : Nat} {xpl : Nat} {xfo : Nat} {xsf : Nat → Nat} {xbf : Nat → Nat} {xF : Nat → FF} {xG : Nat → FF} {xP : Nat → FF} {xQ : Nat → FF} {xmm : Nat → FF} {xsl : Nat → Nat} {xkd : Nat → Nat} {xhs : Nat → Nat} {xht : Nat → Nat} {xsg : Nat → Nat} {xdv : Nat → Nat} (H : mw E M m xln xlen xlab xbad xlev xtr xwa xpl xfo xsf xbf xF xG xP xQ xmm xsl xkd xhs xht xsg xdv) (f : Nat → FF) : mw E (zU M (m + 4) (.inl (E.2.1 0, 1014, .inl (fun j => fI (f j))))) m xln xlen xlab xbad xlev xtr xwa xpl xfo xsf xbf f xG xP xQ xmm xsl xkd xhs xht xsg xdv := ⟨(zU_ne (by omega)).trans H.1, (zU_ne (by omega)).trans H.2.1, (zU_ne (by omega)).trans H.2.2.1, (zU_ne (by omega)).trans H.2.2.2.1, zU_eq, (zU_ne (by omega)).trans H.2.2.2.2.2.1, (zU_ne (by omega)).trans H.2.2.2.2.2.2.1, (zU_ne (by omega)).trans H.2.2.2.2.2.2.2.1, (zU_ne (by omega)).trans H.2.2.2.2.2.2.2.2.1, (zU_ne (by omega)).trans H.2.2.2.2.2.2.2.2.2.1, (zU_ne (by omega)).trans H.2.2.2.2.2.2.2.2.2.2.1, (zU_ne (by omega)).trans H.2.2.2.2.2.2.2.2.2.2.2.1, (zU_ne (by omega)).trans H.2.2.2.2.2.2.2.2.2.2.2.2.1, (zU_ne (by omega)).trans H.2.2.2.2.2.2.2.2.2.2.2.2.2.1, (zU_ne (by omega)).trans H.2.2.2.2.2.2.2.2.2.2.2.2.2.2⟩
theorem mw_a5 {E : zE} {M : zM} {m : Nat} {xln : Nat → Nat} {xlen : Nat} {xlab : Nat} {xbad : Int32} {xlev : Nat} {xtr : Int32} {xwa : Nat} {xpl : Nat} {xfo : Nat} {xsf : Nat → Nat} {xbf : Nat → Nat} {xF : Nat → FF} {xG : Nat → FF} {xP : Nat → FF} {xQ : Nat → FF} {xmm : Nat → FF} {xsl : Nat → Nat} {xkd : Nat → Nat} {xhs : Nat → Nat} {xht : Nat → Nat} {xsg : Nat → Nat} {xdv : Nat → Nat} (H : mw E M m xln xlen xlab xbad xlev xtr xwa xpl xfo xsf xbf xF xG xP xQ xmm xsl xkd xhs xht xsg xdv) (f : Nat → FF) : mw E (zU M (m + 5) (.inl (E.2.1 0, 1014, .inl (fun j => fI (f j))))) m xln xlen xlab xbad xlev xtr xwa xpl xfo xsf xbf xF f xP xQ xmm xsl xkd xhs xht xsg xdv := ⟨(zU_ne (by omega)).trans H.1, (zU_ne (by omega)).trans H.2.1, (zU_ne (by omega)).trans H.2.2.1, (zU_ne (by omega)).trans H.2.2.2.1, (zU_ne (by omega)).trans H.2.2.2.2.1, zU_eq, (zU_ne (by omega)).trans H.2.2.2.2.2.2.1, (zU_ne (by omega)).trans H.2.2.2.2.2.2.2.1, (zU_ne (by omega)).trans H.2.2.2.2.2.2.2.2.1, (zU_ne (by omega)).trans H.2.2.2.2.2.2.2.2.2.1, (zU_ne (by omega)).trans H.2.2.2.2.2.2.2.2.2.2.1, (zU_ne (by omega)).trans H.2.2.2.2.2.2.2.2.2.2.2.1, (zU_ne (by omega)).trans H.2.2.2.2.2.2.2.2.2.2.2.2.1, (zU_ne (by omega)).trans H.2.2.2.2.2.2.2.2.2.2.2.2.2.1, (zU_ne (by omega)).trans H.2.2.2.2.2.2.2.2.2.2.2.2.2.2⟩
theorem mw_a6 {E : zE} {M : zM} {m : Nat} {xln : Nat → Nat} {xlen : Nat} {xlab : Nat} {xbad : Int32} {xlev : Nat} {xtr : Int32} {xwa : Nat} {xpl : Nat} {xfo : Nat} {xsf : Nat → Nat} {xbf : Nat → Nat} {xF : Nat → FF} {xG : Nat → FF} {xP : Nat → FF} {xQ : Nat → FF} {xmm : Nat → FF} {xsl : Nat → Nat} {xkd : Nat → Nat} {xhs : Nat → Nat} {xht : Nat → Nat} {xsg : Nat → Nat} {xdv : Nat → Nat} (H : mw E M m xln xlen xlab xbad xlev xtr xwa xpl xfo xsf xbf xF xG xP xQ xmm xsl xkd xhs xht xsg xdv) (f : Nat → FF) : mw E (zU M (m + 6) (.inl (E.2.1 0, 40, .inl (fun j => fI (f j))))) m xln xlen xlab xbad xlev xtr xwa xpl xfo xsf xbf xF xG f xQ xmm xsl xkd xhs xht xsg xdv := ⟨(zU_ne (by omega)).trans H.1, (zU_ne (by omega)).trans H.2.1, (zU_ne (by omega)).trans H.2.2.1, (zU_ne (by omega)).trans H.2.2.2.1, (zU_ne (by omega)).trans H.2.2.2.2.1, (zU_ne (by omega)).trans H.2.2.2.2.2.1, zU_eq, (zU_ne (by omega)).trans H.2.2.2.2.2.2.2.1, (zU_ne (by omega)).trans H.2.2.2.2.2.2.2.2.1, (zU_ne (by omega)).trans H.2.2.2.2.2.2.2.2.2.1, (zU_ne (by omega)).trans H.2.2.2.2.2.2.2.2.2.2.1, (zU_ne (by omega)).trans H.2.2.2.2.2.2.2.2.2.2.2.1, (zU_ne (by omega)).trans H.2.2.2.2.2.2.2.2.2.2.2.2.1, (zU_ne (by omega)).trans H.2.2.2.2.2.2.2.2.2.2.2.2.2.1, (zU_ne (by omega)).trans H.2.2.2.2.2.2.2.2.2.2.2.2.2.2⟩
theorem mw_a7 {E : zE} {M : zM} {m : Nat} {xln : Nat → Nat} {xlen : Nat} {xlab : Nat} {xbad : Int32} {xlev : Nat} {xtr : Int32} {xwa : Nat} {xpl : Nat} {xfo : Nat} {xsf : Nat → Nat} {xbf : Nat → Nat} {xF : Nat → FF} {xG : Nat → FF} {xP : Nat → FF} {xQ : Nat → FF} {xmm : Nat → FF} {xsl : Nat → Nat} {xkd : Nat → Nat} {xhs : Nat → Nat} {xht : Nat → Nat} {xsg : Nat → Nat} {xdv : Nat → Nat} (H : mw E M m xln xlen xlab xbad xlev xtr xwa xpl xfo xsf xbf xF xG xP xQ xmm xsl xkd xhs xht xsg xdv) (f : Nat → FF) : mw E (zU M (m + 7) (.inl (E.2.1 0, 40, .inl (fun j => fI (f j))))) m xln xlen xlab xbad xlev xtr xwa xpl xfo xsf xbf xF xG xP f xmm xsl xkd xhs xht xsg xdv := ⟨(zU_ne (by omega)).trans H.1, (zU_ne (by omega)).trans H.2.1, (zU_ne (by omega)).trans H.2.2.1, (zU_ne (by omega)).trans H.2.2.2.1, (zU_ne (by omega)).trans H.2.2.2.2.1, (zU_ne (by omega)).trans H.2.2.2.2.2.1, (zU_ne (by omega)).trans H.2.2.2.2.2.2.1, zU_eq, (zU_ne (by omega)).trans H.2.2.2.2.2.2.2.2.1, (zU_ne (by omega)).trans H.2.2.2.2.2.2.2.2.2.1, (zU_ne (by omega)).trans H.2.2.2.2.2.2.2.2.2.2.1, (zU_ne (by omega)).trans H.2.2.2.2.2.2.2.2.2.2.2.1, (zU_ne (by omega)).trans H.2.2.2.2.2.2.2.2.2.2.2.2.1, (zU_ne (by omega)).trans H.2.2.2.2.2.2.2.2.2.2.2.2.2.1, (zU_ne (by omega)).trans H.2.2.2.2.2.2.2.2.2.2.2.2.2.2⟩
theorem mw_a8 {E : zE} {M : zM} {m : Nat} {xln : Nat → Nat} {xlen : Nat} {xlab : Nat} {xbad : Int32} {xlev : Nat} {xtr : Int32} {xwa : Nat} {xpl : Nat} {xfo : Nat} {xsf : Nat → Nat} {xbf : Nat → Nat} {xF : Nat → FF} {xG : Nat → FF} {xP : Nat → FF} {xQ : Nat → FF} {xmm : Nat → FF} {xsl : Nat → Nat} {xkd : Nat → Nat} {xhs : Nat → Nat} {xht : Nat → Nat} {xsg : Nat → Nat} {xdv : Nat → Nat} (H : mw E M m xln xlen xlab xbad xlev xtr xwa xpl xfo xsf xbf xF xG xP xQ xmm xsl xkd xhs xht xsg xdv) (f : Nat → FF) : mw E (zU M (m + 8) (.inl (E.2.1 0, 962, .inl (fun j => fI (f j))))) m xln xlen xlab xbad xlev xtr xwa xpl xfo xsf xbf xF xG xP xQ f xsl xkd xhs xht xsg xdv := ⟨(zU_ne (by omega)).trans H.1, (zU_ne (by omega)).trans H.2.1, (zU_ne (by omega)).trans H.2.2.1, (zU_ne (by omega)).trans H.2.2.2.1, (zU_ne (by omega)).trans H.2.2.2.2.1, (zU_ne (by omega)).trans H.2.2.2.2.2.1, (zU_ne (by omega)).trans H.2.2.2.2.2.2.1, (zU_ne (by omega)).trans H.2.2.2.2.2.2.2.1, zU_eq, (zU_ne (by omega)).trans H.2.2.2.2.2.2.2.2.2.1, (zU_ne (by omega)).trans H.2.2.2.2.2.2.2.2.2.2.1, (zU_ne (by omega)).trans H.2.2.2.2.2.2.2.2.2.2.2.1, (zU_ne (by omega)).trans H.2.2.2.2.2.2.2.2.2.2.2.2.1, (zU_ne (by omega)).trans H.2.2.2.2.2.2.2.2.2.2.2.2.2.1, (zU_ne (by omega)).trans H.2.2.2.2.2.2.2.2.2.2.2.2.2.2⟩
theorem mw_a9 {E : zE} {M : zM} {m : Nat} {xln : Nat → Nat} {xlen : Nat} {xlab : Nat} {xbad : Int32} {xlev : Nat} {xtr : Int32} {xwa : Nat} {xpl : Nat} {xfo : Nat} {xsf : Nat → Nat} {xbf : Nat → Nat} {xF : Nat → FF} {xG : Nat → FF} {xP : Nat → FF} {xQ : Nat → FF} {xmm : Nat → FF} {xsl : Nat → Nat} {xkd : Nat → Nat} {xhs : Nat → Nat} {xht : Nat → Nat} {xsg : Nat → Nat} {xdv : Nat → Nat} (H : mw E M m xln xlen xlab xbad xlev xtr xwa xpl xfo xsf xbf xF xG xP xQ xmm xsl xkd xhs xht xsg xdv) (f : Nat → Nat) : mw E (zU M (m + 9) (.inl (E.2.1 0, 26, .inl (fun j => tI (f j))))) m xln xlen xlab xbad xlev xtr xwa xpl xfo xsf xbf xF xG xP xQ xmm f xkd xhs xht xsg xdv := ⟨(zU_ne (by omega)).trans H.1, (zU_ne (by omega)).trans H.2.1, (zU_ne (by omega)).trans H.2.2.1, (zU_ne (by omega)).trans H.2.2.2.1, (zU_ne (by omega)).trans H.2.2.2.2.1, (zU_ne (by omega)).trans H.2.2.2.2.2.1, (zU_ne (by omega)).trans H.2.2.2.2.2.2.1, (zU_ne (by omega)).trans H.2.2.2.2.2.2.2.1, (zU_ne (by omega)).trans H.2.2.2.2.2.2.2.2.1, zU_eq, (zU_ne (by omega)).trans H.2.2.2.2.2.2.2.2.2.2.1, (zU_ne (by omega)).trans H.2.2.2.2.2.2.2.2.2.2.2.1, (zU_ne (by omega)).trans H.2.2.2.2.2.2.2.2.2.2.2.2.1, (zU_ne (by omega)).trans H.2.2.2.2.2.2.2.2.2.2.2.2.2.1, (zU_ne (by omega)).trans H.2.2.2.2.2.2.2.2.2.2.2.2.2.2⟩
theorem mw_a10 {E : zE} {M : zM} {m : Nat} {xln : Nat → Nat} {xlen : Nat} {xlab : Nat} {xbad : Int32} {xlev : Nat} {xtr : Int32} {xwa : Nat} {xpl : Nat} {xfo : Nat} {xsf : Nat → Nat} {xbf : Nat → Nat} {xF : Nat → FF} {xG : Nat → FF} {xP : Nat → FF} {xQ : Nat → FF} {xmm : Nat → FF} {xsl : Nat → Nat} {xkd : Nat → Nat} {xhs : Nat → Nat} {xht : Nat → Nat} {xsg : Nat → Nat} {xdv : Nat → Nat} (H : mw E M m xln xlen xlab xbad xlev xtr xwa xpl xfo xsf xbf xF xG xP xQ xmm xsl xkd xhs xht xsg xdv) (f : Nat → Nat) : mw E (zU M (m + 10) (.inl (E.2.1 0, 10, .inl (fun j => nI (f j))))) m xln xlen xlab xbad xlev xtr xwa xpl xfo xsf xbf xF xG xP xQ xmm xsl f xhs xht xsg xdv := ⟨(zU_ne (by omega)).trans H.1, (zU_ne (by omega)).trans H.2.1, (zU_ne (by omega)).trans H.2.2.1, (zU_ne (by omega)).trans H.2.2.2.1, (zU_ne (by omega)).trans H.2.2.2.2.1, (zU_ne (by omega)).trans H.2.2.2.2.2.1, (zU_ne (by omega)).trans H.2.2.2.2.2.2.1, (zU_ne (by omega)).trans H.2.2.2.2.2.2.2.1, (zU_ne (by omega)).trans H.2.2.2.2.2.2.2.2.1, (zU_ne (by omega)).trans H.2.2.2.2.2.2.2.2.2.1, zU_eq, (zU_ne (by omega)).trans H.2.2.2.2.2.2.2.2.2.2.2.1, (zU_ne (by omega)).trans H.2.2.2.2.2.2.2.2.2.2.2.2.1, (zU_ne (by omega)).trans H.2.2.2.2.2.2.2.2.2.2.2.2.2.1, (zU_ne (by omega)).trans H.2.2.2.2.2.2.2.2.2.2.2.2.2.2⟩
theorem mw_a11 {E : zE} {M : zM} {m : Nat} {xln : Nat → Nat} {xlen : Nat} {xlab : Nat} {xbad : Int32} {xlev : Nat} {xtr : Int32} {xwa : Nat} {xpl : Nat} {xfo : Nat} {xsf : Nat → Nat} {xbf : Nat → Nat} {xF : Nat → FF} {xG : Nat → FF} {xP : Nat → FF} {xQ : Nat → FF} {xmm : Nat → FF} {xsl : Nat → Nat} {xkd : Nat → Nat} {xhs : Nat → Nat} {xht : Nat → Nat} {xsg : Nat → Nat} {xdv : Nat → Nat} (H : mw E M m xln xlen xlab xbad xlev xtr xwa xpl xfo xsf xbf xF xG xP xQ xmm xsl xkd xhs xht xsg xdv) (f : Nat → Nat) : mw E (zU M (m + 11) (.inl (E.2.1 2, 10, .inl (fun j => nI (f j))))) m xln xlen xlab xbad xlev xtr xwa xpl xfo xsf xbf xF xG xP xQ xmm xsl xkd f xht xsg xdv := ⟨(zU_ne (by omega)).trans H.1, (zU_ne (by omega)).trans H.2.1, (zU_ne (by omega)).trans H.2.2.1, (zU_ne (by omega)).trans H.2.2.2.1, (zU_ne (by omega)).trans H.2.2.2.2.1, (zU_ne (by omega)).trans H.2.2.2.2.2.1, (zU_ne (by omega)).trans H.2.2.2.2.2.2.1, (zU_ne (by omega)).trans H.2.2.2.2.2.2.2.1, (zU_ne (by omega)).trans H.2.2.2.2.2.2.2.2.1, (zU_ne (by omega)).trans H.2.2.2.2.2.2.2.2.2.1, (zU_ne (by omega)).trans H.2.2.2.2.2.2.2.2.2.2.1, zU_eq, (zU_ne (by omega)).trans H.2.2.2.2.2.2.2.2.2.2.2.2.1, (zU_ne (by omega)).trans H.2.2.2.2.2.2.2.2.2.2.2.2.2.1, (zU_ne (by omega)).trans H.2.2.2.2.2.2.2.2.2.2.2.2.2.2⟩
theorem mw_a12 {E : zE} {M : zM} {m : Nat} {xln : Nat → Nat} {xlen : Nat} {xlab : Nat} {xbad : Int32} {xlev : Nat} {xtr : Int32} {xwa : Nat} {xpl : Nat} {xfo : Nat} {xsf : Nat → Nat} {xbf : Nat → Nat} {xF : Nat → FF} {xG : Nat → FF} {xP : Nat → FF} {xQ : Nat → FF} {xmm : Nat → FF} {xsl : Nat → Nat} {xkd : Nat → Nat} {xhs : Nat → Nat} {xht : Nat → Nat} {xsg : Nat → Nat} {xdv : Nat → Nat} (H : mw E M m xln xlen xlab xbad xlev xtr xwa xpl xfo xsf xbf xF xG xP xQ xmm xsl xkd xhs xht xsg xdv) (f : Nat → Nat) : mw E (zU M (m + 12) (.inl (E.2.1 2, 10, .inl (fun j => nI (f j))))) m xln xlen xlab xbad xlev xtr xwa xpl xfo xsf xbf xF xG xP xQ xmm xsl xkd xhs f xsg xdv := ⟨(zU_ne (by omega)).trans H.1, (zU_ne (by omega)).trans H.2.1, (zU_ne (by omega)).trans H.2.2.1, (zU_ne (by omega)).trans H.2.2.2.1, (zU_ne (by omega)).trans H.2.2.2.2.1, (zU_ne (by omega)).trans H.2.2.2.2.2.1, (zU_ne (by omega)).trans H.2.2.2.2.2.2.1, (zU_ne (by omega)).trans H.2.2.2.2.2.2.2.1, (zU_ne (by omega)).trans H.2.2.2.2.2.2.2.2.1, (zU_ne (by omega)).trans H.2.2.2.2.2.2.2.2.2.1, (zU_ne (by omega)).trans H.2.2.2.2.2.2.2.2.2.2.1, (zU_ne (by omega)).trans H.2.2.2.2.2.2.2.2.2.2.2.1, zU_eq, (zU_ne (by omega)).trans H.2.2.2.2.2.2.2.2.2.2.2.2.2.1, (zU_ne (by omega)).trans H.2.2.2.2.2.2.2.2.2.2.2.2.2.2⟩
theorem mw_a13 {E : zE} {M : zM} {m : Nat} {xln : Nat → Nat} {xlen : Nat} {xlab : Nat} {xbad : Int32} {xlev : Nat} {xtr : Int32} {xwa : Nat} {xpl : Nat} {xfo : Nat} {xsf : Nat → Nat} {xbf : Nat → Nat} {xF : Nat → FF} {xG : Nat → FF} {xP : Nat → FF} {xQ : Nat → FF} {xmm : Nat → FF} {xsl : Nat → Nat} {xkd : Nat → Nat} {xhs : Nat → Nat} {xht : Nat → Nat} {xsg : Nat → Nat} {xdv : Nat → Nat} (H : mw E M m xln xlen xlab xbad xlev xtr xwa xpl xfo xsf xbf xF xG xP xQ xmm xsl xkd xhs xht xsg xdv) (f : Nat → Nat) : mw E (zU M (m + 13) (.inl (E.2.1 0, 10, .inl (fun j => nI (f j))))) m xln xlen xlab xbad xlev xtr xwa xpl xfo xsf xbf xF xG xP xQ xmm xsl xkd xhs xht f xdv := ⟨(zU_ne (by omega)).trans H.1, (zU_ne (by omega)).trans H.2.1, (zU_ne (by omega)).trans H.2.2.1, (zU_ne (by omega)).trans H.2.2.2.1, (zU_ne (by omega)).trans H.2.2.2.2.1, (zU_ne (by omega)).trans H.2.2.2.2.2.1, (zU_ne (by omega)).trans H.2.2.2.2.2.2.1, (zU_ne (by omega)).trans H.2.2.2.2.2.2.2.1, (zU_ne (by omega)).trans H.2.2.2.2.2.2.2.2.1, (zU_ne (by omega)).trans H.2.2.2.2.2.2.2.2.2.1, (zU_ne (by omega)).trans H.2.2.2.2.2.2.2.2.2.2.1, (zU_ne (by omega)).trans H.2.2.2.2.2.2.2.2.2.2.2.1, (zU_ne (by omega)).trans H.2.2.2.2.2.2.2.2.2.2.2.2.1, zU_eq, (zU_ne (by omega)).trans H.2.2.2.2.2.2.2.2.2.2.2.2.2.2⟩
theorem mw_a14 {E : zE} {M : zM} {m : Nat} {xln : Nat → Nat} {xlen : Nat} {xlab : Nat} {xbad : Int32} {xlev : Nat} {xtr : Int32} {xwa : Nat} {xpl : Nat} {xfo : Nat} {xsf : Nat → Nat} {xbf : Nat → Nat} {xF : Nat → FF} {xG : Nat → FF} {xP : Nat → FF} {xQ : Nat → FF} {xmm : Nat → FF} {xsl : Nat → Nat} {xkd : Nat → Nat} {xhs : Nat → Nat} {xht : Nat → Nat} {xsg : Nat → Nat} {xdv : Nat → Nat} (H : mw E M m xln xlen xlab xbad xlev xtr xwa xpl xfo xsf xbf xF xG xP xQ xmm xsl xkd xhs xht xsg xdv) (f : Nat → Nat) : mw E (zU M (m + 14) (.inl (E.2.1 2, 10, .inl (fun j => nI (f j))))) m xln xlen xlab xbad xlev xtr xwa xpl xfo xsf xbf xF xG xP xQ xmm xsl xkd xhs xht xsg f := ⟨(zU_ne (by omega)).trans H.1, (zU_ne (by omega)).trans H.2.1, (zU_ne (by omega)).trans H.2.2.1, (zU_ne (by omega)).trans H.2.2.2.1, (zU_ne (by omega)).trans H.2.2.2.2.1, (zU_ne (by omega)).trans H.2.2.2.2.2.1, (zU_ne (by omega)).trans H.2.2.2.2.2.2.1, (zU_ne (by omega)).trans H.2.2.2.2.2.2.2.1, (zU_ne (by omega)).trans H.2.2.2.2.2.2.2.2.1, (zU_ne (by omega)).trans H.2.2.2.2.2.2.2.2.2.1, (zU_ne (by omega)).trans H.2.2.2.2.2.2.2.2.2.2.1, (zU_ne (by omega)).trans H.2.2.2.2.2.2.2.2.2.2.2.1, (zU_ne (by omega)).trans H.2.2.2.2.2.2.2.2.2.2.2.2.1, (zU_ne (by omega)).trans H.2.2.2.2.2.2.2.2.2.2.2.2.2.1, zU_eq⟩
theorem mw_R {E : zE} {M M' : zM} {m lo hi : Nat} {xln : Nat → Nat} {xlen : Nat} {xlab : Nat} {xbad : Int32} {xlev : Nat} {xtr : Int32} {xwa : Nat} {xpl : Nat} {xfo : Nat} {xsf : Nat → Nat} {xbf : Nat → Nat} {xF : Nat → FF} {xG : Nat → FF} {xP : Nat → FF} {xQ : Nat → FF} {xmm : Nat → FF} {xsl : Nat → Nat} {xkd : Nat → Nat} {xhs : Nat → Nat} {xht : Nat → Nat} {xsg : Nat → Nat} {xdv : Nat → Nat} (ho : zoutR M M' lo hi) (H : mw E M m xln xlen xlab xbad xlev xtr xwa xpl xfo xsf xbf xF xG xP xQ xmm xsl xkd xhs xht xsg xdv) (hne : m + 15 ≤ lo ∨ hi ≤ m) : mw E M' m xln xlen xlab xbad xlev xtr xwa xpl xfo xsf xbf xF xG xP xQ xmm xsl xkd xhs xht xsg xdv := ⟨(ho _ (by omega)).trans H.1, (ho _ (by omega)).trans H.2.1, (ho _ (by omega)).trans H.2.2.1, (ho _ (by omega)).trans H.2.2.2.1, (ho _ (by omega)).trans H.2.2.2.2.1, (ho _ (by omega)).trans H.2.2.2.2.2.1, (ho _ (by omega)).trans H.2.2.2.2.2.2.1, (ho _ (by omega)).trans H.2.2.2.2.2.2.2.1, (ho _ (by omega)).trans H.2.2.2.2.2.2.2.2.1, (ho _ (by omega)).trans H.2.2.2.2.2.2.2.2.2.1, (ho _ (by omega)).trans H.2.2.2.2.2.2.2.2.2.2.1, (ho _ (by omega)).trans H.2.2.2.2.2.2.2.2.2.2.2.1, (ho _ (by omega)).trans H.2.2.2.2.2.2.2.2.2.2.2.2.1, (ho _ (by omega)).trans H.2.2.2.2.2.2.2.2.2.2.2.2.2.1, (ho _ (by omega)).trans H.2.2.2.2.2.2.2.2.2.2.2.2.2.2⟩
theorem zo_u {M : zM} {a lo hi : Nat} {e : va_E} (h1 : lo ≤ a) (h2 : a < hi) : zoutR M (zU M a e) lo hi := fun q hq => zU_ne (by omega)
def updF (F : Nat → FF) (k : Nat) (x : FF) : Nat → FF := fun j => if j = k then x else F j
theorem fI_upd {F : Nat → FF} {k : Nat} {x : FF} : upd (fun j => fI (F j)) k (fI x) = fun j => fI (updF F k x j) := by
  funext j
  unfold upd updF
  split <;> rfl
theorem tI_upd {f : Nat → Nat} {k x : Nat} : upd (fun j => tI (f j)) k (tI x) = fun j => tI (updN f k x j) := by
  funext j
  unfold upd updN
  split <;> rfl
theorem updF_eq {F : Nat → FF} {k : Nat} {x : FF} : updF F k x k = x := if_pos rfl
theorem updF_ne {F : Nat → FF} {k j : Nat} {x : FF} (h : j ≠ k) : updF F k x j = F j := if_neg h
def sel {α : Type} (d : Nat) (a b : α) : α := if d = 0 then a else b
theorem sel_0 {α : Type} {d : Nat} {a b : α} (h : d = 0) : sel d a b = a := if_pos h
theorem sel_1 {α : Type} {d : Nat} {a b : α} (h : ¬ d = 0) : sel d a b = b := if_neg h
theorem fI_add (x y : FF) : fI x + fI y - (fI x + fI y) / 10007 * 10007 = fI (x + y) := by
  have h := fI_madd x 1 y
  rw [fI_1, Int32.one_mul] at h
  rw [h]
  congr 1
  grind
theorem fI_negm (x : FF) : 10007 - fI x - (10007 - fI x) / 10007 * 10007 = fI (- x) := by
  have h := fI_msub 0 x 1
  rw [fI_0, fI_1, Int32.zero_add, Int32.mul_one] at h
  rw [h]
  congr 1
  grind
section ZB
variable {X : zX} {E : zE} {nL : Nat} {Q : State → Prop} {kc ks sz : Nat} {M : zM} {pc : Nat} {L : List (Nat × Value)} {rest : List Value} {cc : ByteArray} {own : String} {ret : Option FieldType} {rm : Room}
theorem z_lcmp (C : zC X E cc own nL ret rm) {x y : Int64} (hdg : decode cc pc = .ok (.lcmp, 1)) (kk : Z X E nL Q kc ks sz M (pc + 1) L (.int (lg_cmp x y) :: rest)) : Z X E nL Q kc ks sz M pc L (.long y :: .long x :: rest) := fun H locs ls a1 a2 a3 a4 => W.lcmp C.1 C.2.1 hdg (kk H locs ls a1 a2 a3 a4)
theorem z_zald (C : zC X E cc own nL ret rm) {a : Nat} {cA : ClassId} {n : Nat} {f : Nat → Int32} (ha : M a = some (.inl (cA, n, .inl f))) (t0 : Nat) (ht : (zTy E.2.1)[t0]? = some (cA, .boolean)) {i : Int32} (j : Nat) (hi : i = nI j) (hj : j < n) (hn : n < 2 ^ 31) (hdg : decode cc pc = .ok (.baload, 1)) (kk : Z X E nL Q kc ks sz M (pc + 1) L (.int (f j) :: rest)) : Z X E nL Q kc ks sz M pc L (.int i :: .ref a :: rest) := fun H locs ls h1 h2 h3 h4 => by
  subst hi
  refine va_zald C.1 C.2.1 C.2.2.2.2.2.1 (h2.one ha) 0 t0 rfl ht (vp_in_nI hj hn) hdg ?_
  rw [nI_clamp (by omega)]
  exact kk H locs ls h1 h2 h3 h4
theorem z_zast (C : zC X E cc own nL ret rm) {a : Nat} {cA : ClassId} {n : Nat} {f : Nat → Int32} (ha : M a = some (.inl (cA, n, .inl f))) (t0 : Nat) (ht : (zTy E.2.1)[t0]? = some (cA, .boolean)) {i x : Int32} (j : Nat) (hi : i = nI j) (hj : j < n) (hn : n < 2 ^ 31) (hx : vp_nar .boolean x = x) (hdg : decode cc pc = .ok (.bastore, 1)) (kk : Z X E nL Q kc ks sz (zU M a (.inl (cA, n, .inl (upd f j x)))) (pc + 1) L rest) : Z X E nL Q kc ks sz M pc L (.int x :: .int i :: .ref a :: rest) := fun H locs ls h1 h2 h3 h4 => by
  subst hi
  obtain ⟨hAa, q1⟩ := h2 a _ ha
  have hin : vp_in (nI j) n := vp_in_nI hj hn
  have hcl : (nI j).toNatClampNeg = j := nI_clamp (by omega)
  refine W.zast C.1 C.2.1 q1 ((C.2.2.2.2.2.1.2 t0 _ ht).1 n (fun j => .int (f j))) (fun q => by cases q) (by show ¬ (nI j < 0 ∨ (arrV _ _ _).slots.size ≤ _); rw [arrV_size]; exact hin) rfl rfl hdg fun H1 e z oq => ?_
  refine kk H1 _ ls (z.trans h1) (h2.set hAa ?_ oq) (h3.put z oq hAa) h4
  show H1[a]? = some (vp_cell _ _)
  rw [e]
  show some ((vp_cell _ _).setSlot _ _) = _
  rw [vp_cell_i, vp_cell_i, arrV_store, hcl]
  congr 2
  funext q
  by_cases hq : q = j
  · subst hq
    have hx' : (narrow .boolean (.int x)) = .int x := by
      have h9 : narrow .boolean (.int x) = .int (vp_nar .boolean x) := rfl
      rw [h9, hx]
    simp [updV, upd, hx']
  · simp [updV, upd, hq]
end ZB
theorem nar_01 {n : Nat} (h : n ≤ 1) : vp_nar .boolean (nI n) = nI n := by
  rcases (by omega : n = 0 ∨ n = 1) with q | q <;> subst q <;> decide
/-! registers as rows of thirteen -/
def pg (F : Nat → FF) (r : Nat) : PS := fun i => if i < 13 then F (r * 13 + i) else 0
def cpF (F : Nat → FF) (f t i : Nat) : Nat → FF := fun j => if t * 13 ≤ j ∧ j < t * 13 + i then F (j - t * 13 + f * 13) else F j
def coF (F : Nat → FF) (t : Nat) (v : FF) (i : Nat) : Nat → FF := fun j => if t * 13 ≤ j ∧ j < t * 13 + i then (if j = t * 13 then v else 0) else F j
theorem cpF_0 (F : Nat → FF) (f t : Nat) : cpF F f t 0 = F := by
  funext j
  unfold cpF
  rw [if_neg (by omega)]
theorem cpF_s {F : Nat → FF} {f t i : Nat} (hne : f ≠ t) (hi : i < 13) : updF (cpF F f t i) (t * 13 + i) (cpF F f t i (f * 13 + i)) = cpF F f t (i + 1) := by
  funext j
  unfold updF cpF
  by_cases h : j = t * 13 + i
  · rw [if_pos h, if_neg (by omega), if_pos (by omega)]
    congr 1; omega
  · rw [if_neg h]
    by_cases h2 : t * 13 ≤ j ∧ j < t * 13 + i
    · rw [if_pos h2, if_pos (by omega)]
    · rw [if_neg h2, if_neg (by omega)]
theorem pg_cp {F : Nat → FF} {f t r : Nat} : pg (cpF F f t 13) r = if r = t then pg F f else pg F r := by
  funext i
  unfold pg cpF
  by_cases h : r = t
  · rw [if_pos h]
    subst h
    by_cases hi : i < 13
    · rw [if_pos hi, if_pos hi, if_pos (by omega)]
      congr 1; omega
    · rw [if_neg hi, if_neg hi]
  · rw [if_neg h]
    by_cases hi : i < 13
    · rw [if_pos hi, if_pos hi, if_neg (by omega)]
    · rw [if_neg hi, if_neg hi]
theorem coF_0 (F : Nat → FF) (t : Nat) (v : FF) : coF F t v 0 = F := by
  funext j
  unfold coF
  rw [if_neg (by omega)]
theorem coF_s {F : Nat → FF} {t i : Nat} : updF (coF F t 0 i) (t * 13 + i) 0 = coF F t 0 (i + 1) := by
  funext j
  unfold updF coF
  by_cases h : j = t * 13 + i
  · rw [if_pos h, if_pos (by omega)]; split <;> rfl
  · rw [if_neg h]
    by_cases h2 : t * 13 ≤ j ∧ j < t * 13 + i
    · rw [if_pos h2, if_pos (show t * 13 ≤ j ∧ j < t * 13 + (i + 1) by omega)]
    · rw [if_neg h2, if_neg (show ¬ (t * 13 ≤ j ∧ j < t * 13 + (i + 1)) by omega)]
theorem coF_v {F : Nat → FF} {t : Nat} {v : FF} : updF (coF F t 0 13) (t * 13) v = coF F t v 13 := by
  funext j
  unfold updF coF
  by_cases h : j = t * 13
  · rw [if_pos h, if_pos (by omega), if_pos h]
  · rw [if_neg h]
    by_cases h2 : t * 13 ≤ j ∧ j < t * 13 + 13
    · rw [if_pos h2, if_pos h2, if_neg h, if_neg h]
    · rw [if_neg h2, if_neg h2]
theorem pg_co {F : Nat → FF} {t r : Nat} {v : FF} : pg (coF F t v 13) r = if r = t then ps_C v else pg F r := by
  funext i
  unfold pg coF
  by_cases h : r = t
  · rw [if_pos h]
    subst h
    by_cases hi : i < 13
    · rw [if_pos hi, if_pos (by omega)]
      by_cases h0 : i = 0
      · rw [if_pos (by omega)]; simp [ps_C, h0]
      · rw [if_neg (by omega)]; simp [ps_C, h0]
    · rw [if_neg hi]; simp [ps_C, show i ≠ 0 by omega]
  · rw [if_neg h]
    by_cases hi : i < 13
    · rw [if_pos hi, if_pos hi, if_neg (by omega)]
    · rw [if_neg hi, if_neg hi]
theorem pg_z {F : Nat → FF} {r : Nat} : ∀ i, 13 ≤ i → pg F r i = 0 := fun i hi => if_neg (by omega)
theorem pg_at {F : Nat → FF} {r i : Nat} (h : i < 13) : pg F r i = F (r * 13 + i) := if_pos h
theorem isC_ex {P : PS} {n : Nat} (h : ∀ i, n ≤ i → P i = 0) : ∃ k, isC P k ∧ k ≤ n := by
  induction n with
  | zero => exact ⟨0, ⟨h, fun m hm => by omega⟩, Nat.le_refl 0⟩
  | succ n ih =>
    by_cases q : P n = 0
    · obtain ⟨k, h1, h2⟩ := ih (fun i hi => by
        rcases Nat.lt_or_ge n i with g | g
        · exact h i g
        · rw [show i = n by omega]; exact q)
      exact ⟨k, h1, by omega⟩
    · exact ⟨n + 1, ⟨h, fun m hm => by rw [show m = n by omega]; exact q⟩, Nat.le_refl _⟩
theorem isC_pg {F : Nat → FF} {r k : Nat} (h : isC (pg F r) k) : k ≤ 13 := by
  obtain ⟨k', h1, h2⟩ := isC_ex (P := pg F r) (n := 13) pg_z
  rw [isC_un h h1]; exact h2
/-! the rows that are used, as bits of a long -/
def ub (u : Int64) (r : Nat) : Bool := u.toBitVec.getLsbD r
theorem sh_nat {r : Nat} (h : r < 64) : ((nI r).toInt64 &&& 63) = Int64.ofNat r := by
  have : ∀ r, r < 64 → ((Int32.ofNat r).toInt64 &&& 63) = Int64.ofNat r := by decide
  exact this r h
theorem ub_shr {u : Int64} {r : Nat} (h : r < 64) : ((u >>> ((nI r).toInt64 &&& 63)) &&& 1 = 0) ↔ ub u r = false := by
  rw [sh_nat h]
  unfold ub
  rw [← Int64.toBitVec_inj]
  have hm : (Int64.ofNat r).toBitVec.smod 64 = BitVec.ofNat 64 r := by
    have : ∀ r, r < 64 → (Int64.ofNat r).toBitVec.smod 64 = BitVec.ofNat 64 r := by decide
    exact this r h
  have e : (u >>> Int64.ofNat r &&& 1).toBitVec = u.toBitVec.sshiftRight r &&& 1 := by
    rw [Int64.toBitVec_and, Int64.toBitVec_shiftRight, hm]
    congr 1
    show u.toBitVec.sshiftRight (BitVec.ofNat 64 r).toNat = _
    rw [BitVec.toNat_ofNat, Nat.mod_eq_of_lt (by omega)]
  rw [e]
  have key : (u.toBitVec.sshiftRight r).getLsbD 0 = u.toBitVec.getLsbD r := by
    rw [BitVec.getLsbD_sshiftRight]
    simp [h]
  constructor
  · intro q
    have q0 := congrArg (fun b => BitVec.getLsbD b 0) q
    simp only [BitVec.getLsbD_and] at q0
    rw [key] at q0
    simpa using q0
  · intro q
    apply BitVec.eq_of_getLsbD_eq
    intro i hi
    rw [BitVec.getLsbD_and]
    by_cases i0 : i = 0
    · subst i0
      rw [key, q]; simp
    · have : BitVec.getLsbD (1 : BitVec 64) i = false := by
        have : ∀ i, i < 64 → i ≠ 0 → BitVec.getLsbD (1 : BitVec 64) i = false := by decide
        exact this i hi i0
      rw [this]
      simp
theorem ub_or {u : Int64} {p r : Nat} (hp : p < 64) (hr : r < 64) : ub (u ||| (1 <<< ((nI p).toInt64 &&& 63))) r = (ub u r || decide (r = p)) := by
  rw [sh_nat hp]
  unfold ub
  rw [Int64.toBitVec_or, BitVec.getLsbD_or]
  congr 1
  have : ∀ p, p < 64 → ∀ r, r < 64 → ((1 <<< Int64.ofNat p : Int64)).toBitVec.getLsbD r = decide (r = p) := by decide
  exact this p hp r hr
theorem ub_0 {r : Nat} : ub 0 r = false := by
  unfold ub
  simp
/-! answers that are true or false; numbers of either sign -/
def b01 (p : Prop) [Decidable p] : Nat := if p then 1 else 0
theorem b01_t {p : Prop} [Decidable p] (h : p) : b01 p = 1 := if_pos h
theorem b01_f {p : Prop} [Decidable p] (h : ¬ p) : b01 p = 0 := if_neg h
theorem b01_ne {p : Prop} [Decidable p] (h : ¬ nI (b01 p) = 0) : p := Classical.byContradiction (fun q => h (by rw [b01_f q]; rfl))
theorem b01_z {p : Prop} [Decidable p] (h : nI (b01 p) = 0) : ¬ p := fun q => by
  rw [b01_t q] at h
  exact absurd h (by decide)
theorem xi_lt {x : Int32} {k : Nat} (hk : k < 2 ^ 31) : x < nI k ↔ x.toInt < (k : Int) := by rw [Int32.lt_iff_toInt_lt, nI_toInt hk]
theorem xi_le {x : Int32} {k : Nat} (hk : k < 2 ^ 31) : x ≤ nI k ↔ x.toInt ≤ (k : Int) := by rw [Int32.le_iff_toInt_le, nI_toInt hk]
theorem xi_gt {x : Int32} {k : Nat} (hk : k < 2 ^ 31) : nI k < x ↔ (k : Int) < x.toInt := by rw [Int32.lt_iff_toInt_lt, nI_toInt hk]
theorem xi_ge {x : Int32} {k : Nat} (hk : k < 2 ^ 31) : nI k ≤ x ↔ (k : Int) ≤ x.toInt := by rw [Int32.le_iff_toInt_le, nI_toInt hk]
theorem xi_eq {x : Int32} {k : Nat} (hk : k < 2 ^ 31) : x = nI k ↔ x.toInt = (k : Int) := by
  rw [← nI_toInt hk]
  exact Int32.toInt_inj.symm
/-- an answer of the automaton's methods -/
def aPost (E : zE) (M : zM) (sz m : Nat) (xln : Nat → Nat) (xlen : Nat) (xlab : Nat) (xbad : Int32) (xlev : Nat) (xtr : Int32) (xwa : Nat) (xpl : Nat) (xfo : Nat) (xsf : Nat → Nat) (xbf : Nat → Nat) (xF : Nat → FF) (xG : Nat → FF) (xP : Nat → FF) (xQ : Nat → FF) (xmm : Nat → FF) (xsl : Nat → Nat) (xkd : Nat → Nat) (xhs : Nat → Nat) (xht : Nat → Nat) (xsg : Nat → Nat) (xdv : Nat → Nat) (r : Option AS) : Option Value → Nat → zM → Prop := fun v s M' => sz = s ∧ zoutR M M' m (m + 15) ∧ match r with
  | none => some (.int (-1)) = v ∧ mw E M' m xln xlen xlab xbad xlev xtr xwa xpl xfo xsf xbf xF xG xP xQ xmm xsl xkd xhs xht xsg xdv
  | some a => some (.int (nI a.1)) = v ∧ mw E M' m xln xlen xlab xbad a.2.1 xtr xwa xpl xfo xsf xbf xF xG xP xQ xmm xsl a.2.2 xhs xht xsg xdv
def ainv (s lev : Nat) : Prop := s ≤ 26 ∧ lev ≤ 8 ∧ (s = 23 ∨ s = 24 → lev < 8)
def okO (r : Option AS) : Prop := ∀ a, r = some a → ainv a.1 a.2.1
theorem okO_i {p : Prop} [Decidable p] {A B : Option AS} (h1 : p → okO A) (h2 : ¬ p → okO B) : okO (if p then A else B) := by
  by_cases q : p
  · rw [if_pos q]; exact h1 q
  · rw [if_neg q]; exact h2 q
theorem okO_n : okO none := fun _ q => by cases q
theorem okO_s {s lev : Nat} {kd : Nat → Nat} (h : ainv s lev) : okO (some (s, lev, kd)) := fun a q => by
  rw [← Option.some.inj q]; exact h
theorem m_at_inv {s c lev : Nat} {kd : Nat → Nat} {a : AS} (h : ainv s lev) (e : m_at s c lev kd = some a) : ainv a.1 a.2.1 := by
  obtain ⟨h1, h2, h3⟩ := h
  have key : okO (m_at s c lev kd) := by
    unfold m_at m_beg m_open m_close
    repeat' first | exact okO_n | (refine okO_s ?_; unfold ainv; (try split) <;> omega) | refine okO_i (fun _ => ?_) (fun _ => ?_)
  exact key a e
