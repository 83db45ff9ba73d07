/-! THE LAW'S ENTRY, second: nest mates, declarations, casts -/
theorem nF_in : ∀ q ∈ nestF, Cond.fieldLinkNest q.1 q.2.1 q.2.2.1 q.2.2.2.1 q.2.2.2.2 "LetterSeals" ∈ lw_tbl := by decide +kernel
theorem nM_in : ∀ q ∈ nestM, Cond.methodLinkNest q.1 q.2.1 q.2.2 "LetterSeals" ∈ lw_tbl := by decide +kernel
theorem dL_in : ∀ x ∈ declL, Cond.declares x ∈ lw_tbl := by decide +kernel
theorem cL_in : ∀ q ∈ castL, Cond.castable q.1 q.2 ∈ lw_tbl := by decide +kernel
theorem KN_a {s : State} {args : Array Value} (hts : ∀ w ∈ lw_tbl, w.before args s = true) : (∀ q ∈ nestF, va_Nw (.fieldLinkNest q.1 q.2.1 q.2.2.1 q.2.2.2.1 q.2.2.2.2 "LetterSeals") s) ∧ (∀ q ∈ nestM, va_Nw (.methodLinkNest q.1 q.2.1 q.2.2 "LetterSeals") s) ∧ (∀ x ∈ declL, va_Nw (.declares x) s) ∧ (∀ q ∈ castL, va_Nw (.castable q.1 q.2) s) :=
  ⟨fun q hq => va_Nw.of rfl (hts _ (nF_in q hq)), fun q hq => va_Nw.of rfl (hts _ (nM_in q hq)), fun x hx => va_Nw.of rfl (hts _ (dL_in x hx)), fun q hq => va_Nw.of rfl (hts _ (cL_in q hq))⟩
theorem AO_a {s : State} {args : Array Value} (hts : ∀ w ∈ lw_tbl, w.before args s = true) : va_AO RX1 s ∧ va_AO RX0 s := by
  have key : ∀ C, (Cond.arrayOver (.object C)).before args s = true → va_AO C s := fun C h => by
    unfold va_AO Cond.before at *
    exact h
  exact ⟨key _ (hts _ ov_L), key _ (hts _ ov_E)⟩
