theorem okM_of {M : eM} (h : (eTab M).all (fun e => decide (decode (eCode M) e.1 = .ok (e.2.1, e.2.2 - e.1))) = true) (h1 : Cond.code (eNm M) (eCode M) (eNL M) (eRet M) ∈ eTbl) (h2 : plainName (eNm M).cls = true) (h3 : (eNm M).cls = eOwn M) (h4 : (eRm M).cells = 0) (h5 : (eRm M).slots = 0) : okM M :=
  ⟨fun e he => of_decide_eq_true (List.all_eq_true.mp h e he), h1, h2, h3, h4, h5⟩
