theorem okM_of {M : eM} (h : dkT (eCode M) (eTab M) (eCode M).data.toList 0 = true) (h1 : Cond.code (eNm M) (eCode M) (eNL M) (eRet M) ∈ eTbl) (h2 : plainName (eNm M).cls = true) (h3 : (eNm M).cls = eOwn M) (h4 : (eRm M).cells = 0) (h5 : (eRm M).slots = 0) : okM M :=
  ⟨dkT_ok (eTab M) _ 0 rfl h, h1, h2, h3, h4, h5⟩
