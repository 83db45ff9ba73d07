/-! THE LAW'S ENTRY, first: the classes -/
theorem ov_L : Cond.arrayOver (.object RX1) ∈ lw_tbl := by decide +kernel
theorem ov_E : Cond.arrayOver (.object RX0) ∈ lw_tbl := by decide +kernel
theorem K_entry {s : State} {args : Array Value} (hts : ∀ w ∈ lw_tbl, w.before args s = true) : ∃ g : gT, va_K (gD g) vwCl (gTy g) s := by
  have h2 : ∀ w ∈ wsL_law, w.before args s = true := fun w h => hts w (wsL_law_in w h)
  obtain ⟨c0, i0, k0⟩ := u_known (C := RX0) (T := TX0) (N := 8) (n := 8) h2 inlX0 (h2 (.instantiable RX0 8) (by decide +kernel))
  obtain ⟨c1, i1, k1⟩ := u_known (C := RX1) (T := TX1) (N := 3) (n := 3) h2 inlX1 (h2 (.instantiable RX1 3) (by decide +kernel))
  obtain ⟨c2, i2, k2⟩ := u_known (C := RX2) (T := TX2) (N := 4) (n := 4) h2 inlX2 (h2 (.instantiable RX2 4) (by decide +kernel))
  obtain ⟨c3, i3, k3⟩ := u_known (C := RX3) (T := TX3) (N := 12) (n := 12) h2 inlX3 (h2 (.instantiable RX3 12) (by decide +kernel))
  obtain ⟨cI, kI, mI, a1, a2, a3⟩ := Cond.arrayClass_spec (h2 (.arrayClass .int) (by decide +kernel))
  obtain ⟨cJ, kJ, mJ, b1, b2, b3⟩ := Cond.arrayClass_spec (h2 (.arrayClass .long) (by decide +kernel))
  obtain ⟨mL, cL, kL, l1, -, l2, l3, l4⟩ := Cond.arrayOver_spec (hts _ ov_L)
  obtain ⟨mE, cE, kE, e1, -, e2, e3, e4⟩ := Cond.arrayOver_spec (hts _ ov_E)
  refine ⟨(fun k => if k = 0 then c0 else if k = 1 then c1 else if k = 2 then c2 else c3, fun k => if k = 0 then i0 else if k = 1 then i1 else if k = 2 then i2 else i3, cI, cL, cE, cJ), fun k q hq => ?_, fun k q hq => ?_⟩
  · match k, hq with
    | 0, hq => cases hq; exact k0
    | 1, hq => cases hq; exact k1
    | 2, hq => cases hq; exact k2
    | 3, hq => cases hq; exact k3
    | k + 4, hq => simp [vwCl] at hq
  · match k, hq with
    | 0, hq => cases hq; exact ⟨fun n z => ⟨fun k h => (by cases h), kI, a2, mI, a3⟩, a1⟩
    | 1, hq => cases hq; exact ⟨fun n z => ⟨fun k h => (by cases h), kL, l2, mL, l3⟩, kL, mL, l2, l3, l1, l4⟩
    | 2, hq => cases hq; exact ⟨fun n z => ⟨fun k h => (by cases h), kE, e2, mE, e3⟩, kE, mE, e2, e3, e1, e4⟩
    | 3, hq => cases hq; exact ⟨fun n z => ⟨fun k h => (by cases h), kJ, b2, mJ, b3⟩, b1⟩
    | k + 4, hq => simp at hq
