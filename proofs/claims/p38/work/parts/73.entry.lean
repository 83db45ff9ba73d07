/-! THE LAW'S ENTRY: the classes; nest mates, declarations, casts; the strings; Throwable's static fields -/
theorem ov_L : Cond.arrayOver (.object RX1) ∈ lw_tbl := by decide +kernel
theorem ov_E : Cond.arrayOver (.object RX0) ∈ lw_tbl := by decide +kernel
theorem ov_V : Cond.arrayOver (.object RX3) ∈ lw_tbl := by decide +kernel
theorem ov_M : Cond.arrayOver (.array .int) ∈ lw_tbl := by decide +kernel
theorem K_entry {s : State} {args : Array Value} (hts : ∀ w ∈ lw_tbl, w.before args s = true) : ∃ g : gT, va_K (gD g) vwCl (gTy g) s := by
  have h2 : ∀ w ∈ wsL_law, w.before args s = true := fun w h => hts w (wsL_law_in w h)
  obtain ⟨c0, i0, k0⟩ := u_known (C := RX0) (T := TX0) (N := 8) (n := 8) h2 inlX0 (h2 (.instantiable RX0 8) (by decide +kernel))
  obtain ⟨c1, i1, k1⟩ := u_known (C := RX1) (T := TX1) (N := 3) (n := 3) h2 inlX1 (h2 (.instantiable RX1 3) (by decide +kernel))
  obtain ⟨c2, i2, k2⟩ := u_known (C := RX2) (T := TX2) (N := 4) (n := 4) h2 inlX2 (h2 (.instantiable RX2 4) (by decide +kernel))
  obtain ⟨c3, i3, k3⟩ := u_known (C := RX3) (T := TX3) (N := 4) (n := 4) h2 inlX3 (h2 (.instantiable RX3 4) (by decide +kernel))
  obtain ⟨c4, i4, k4⟩ := u_known (C := RX4) (T := TX4) (N := 2) (n := 2) h2 inlX4 (h2 (.instantiable RX4 2) (by decide +kernel))
  obtain ⟨cI, kI, mI, a1, a2, a3⟩ := Cond.arrayClass_spec (h2 (.arrayClass .int) (by decide +kernel))
  obtain ⟨mL, cL, kL, l1, -, l2, l3, l4⟩ := Cond.arrayOver_spec (hts _ ov_L)
  obtain ⟨mE, cE, kE, e1, -, e2, e3, e4⟩ := Cond.arrayOver_spec (hts _ ov_E)
  obtain ⟨mV, cV, kV, v1, -, v2, v3, v4⟩ := Cond.arrayOver_spec (hts _ ov_V)
  obtain ⟨mM, cM, kM, m1, -, m2, m3, m4⟩ := arrayOverA_spec (hts _ ov_M)
  refine ⟨(fun k => if k = 0 then c0 else if k = 1 then c1 else if k = 2 then c2 else if k = 3 then c3 else c4, fun k => if k = 0 then i0 else if k = 1 then i1 else if k = 2 then i2 else if k = 3 then i3 else i4, cI, cL, cE, cM, cV), fun k q hq => ?_, fun k q hq => ?_⟩
  · match k, hq with
    | 0, hq => cases hq; exact k0
    | 1, hq => cases hq; exact k1
    | 2, hq => cases hq; exact k2
    | 3, hq => cases hq; exact k3
    | 4, hq => cases hq; exact k4
    | k + 5, hq => simp [vwCl] at hq
  · match k, hq with
    | 0, hq => cases hq; exact ⟨fun n z => ⟨fun k h => (by cases h), kI, a2, mI, a3⟩, a1⟩
    | 1, hq => cases hq; exact ⟨fun n z => ⟨fun k h => (by cases h), kL, l2, mL, l3⟩, kL, mL, l2, l3, l1, l4⟩
    | 2, hq => cases hq; exact ⟨fun n z => ⟨fun k h => (by cases h), kE, e2, mE, e3⟩, kE, mE, e2, e3, e1, e4⟩
    | 3, hq => cases hq; exact ⟨fun n z => ⟨fun k h => (by cases h), kM, m2, mM, m3⟩, m4⟩
    | 4, hq => cases hq; exact ⟨fun n z => ⟨fun k h => (by cases h), kV, v2, mV, v3⟩, kV, mV, v2, v3, v1, v4⟩
    | k + 5, hq => simp at hq
theorem nF_in : ∀ q ∈ nestF, Cond.fieldLinkNest q.1 q.2.1 q.2.2.1 q.2.2.2.1 q.2.2.2.2 "LetterSeals" ∈ lw_tbl := by decide +kernel
theorem nM_in : ∀ q ∈ nestM, Cond.methodLinkNest q.1 q.2.1 q.2.2 "LetterSeals" ∈ lw_tbl := by decide +kernel
theorem nL_in : ∀ q ∈ nestL, Cond.methodLinkNest q.1 q.2.1 q.2.2 "LetterSealsLaw" ∈ lw_tbl := by decide +kernel
theorem dL_in : ∀ x ∈ declL, Cond.declares x ∈ lw_tbl := by decide +kernel
theorem cL_in : ∀ q ∈ castL, Cond.castable q.1 q.2 ∈ lw_tbl := by decide +kernel
theorem AO_a {s : State} {args : Array Value} (hts : ∀ w ∈ lw_tbl, w.before args s = true) : va_AO RX1 s ∧ va_AO RX0 s ∧ va_AO RX3 s ∧ AOA s := by
  have key : ∀ C, (Cond.arrayOver (.object C)).before args s = true → va_AO C s := fun C h => by
    unfold va_AO Cond.before at *
    exact h
  refine ⟨key _ (hts _ ov_L), key _ (hts _ ov_E), key _ (hts _ ov_V), ?_⟩
  have h := hts _ ov_M
  unfold AOA Cond.before at *
  exact h
theorem lay_in : Cond.laysStatic Bundle.tN "UNASSIGNED_STACK" Bundle.steD ∈ lw_tbl ∧ Cond.laysStatic Bundle.tN "SUPPRESSED_SENTINEL" Bundle.listD ∈ lw_tbl ∧ Cond.initialized Bundle.tN ∈ lw_tbl := by decide +kernel
theorem ZB_a {s : State} {args : Array Value} (hts : ∀ w ∈ lw_tbl, w.before args s = true) (hgv : (Jvm.Cond.and given_1 narrow_1).before args s = true) : ZB s.heap.size s s.heap := by
  have hs := flat_of_before _ hgv
  exact ⟨vx_Zqof (hts _ lay_in.1) (hts _ lay_in.2.2) (hs (.isRef (.static Bundle.tN "UNASSIGNED_STACK" Bundle.steD)) (by decide +kernel)) (fun _ h z => absurd h (Nat.not_lt.mpr z)), vx_Zqof (hts _ lay_in.2.1) (hts _ lay_in.2.2) (hs (.isRef (.static Bundle.tN "SUPPRESSED_SENTINEL" Bundle.listD)) (by decide +kernel)) (fun _ h z => absurd h (Nat.not_lt.mpr z))⟩
theorem sR_in : ∀ q ∈ strW, Cond.stringRef "LetterSeals" q.1 q.2 ∈ lw_tbl := by decide +kernel
theorem str_a {s : State} {args : Array Value} (hts : ∀ w ∈ lw_tbl, w.before args s = true) (hgv : (Jvm.Cond.and given_1 narrow_1).before args s = true) : ∀ q ∈ strW, ∃ a, vk_R "LetterSeals" q.1 q.2 a s := by
  have hs := flat_of_before _ hgv
  have mk : ∀ (k : Nat) (tx : String), (Cond.stringRef "LetterSeals" k tx).before args s = true → (Cond.exactly (.string "LetterSeals" k) "java/lang/String").before args s = true → ∃ a, vk_R "LetterSeals" k tx a s := fun k tx h1 h2 => by
    obtain ⟨a, c, cell, kk, q1, -⟩ := Cond.exactly_spec h2
    exact ⟨a, vk_R.of h1 q1⟩
  exact List.forall_mem_cons.mpr ⟨mk 193 "there are 12 letters" (hts _ (sR_in _ (List.mem_of_getElem? (i := 0) rfl))) (hs _ (by decide +kernel)), List.forall_mem_cons.mpr ⟨mk 186 "there is no such letter" (hts _ (sR_in _ (List.mem_of_getElem? (i := 1) rfl))) (hs _ (by decide +kernel)), List.forall_mem_cons.mpr ⟨mk 195 "a sign is 0 to 29" (hts _ (sR_in _ (List.mem_of_getElem? (i := 2) rfl))) (hs _ (by decide +kernel)), List.forall_mem_cons.mpr ⟨mk 47 "the letter is full" (hts _ (sR_in _ (List.mem_of_getElem? (i := 3) rfl))) (hs _ (by decide +kernel)), List.forall_mem_cons.mpr ⟨mk 199 "the letter has no signs" (hts _ (sR_in _ (List.mem_of_getElem? (i := 4) rfl))) (hs _ (by decide +kernel)), List.forall_mem_cons.mpr ⟨mk 189 "there is no sign at this place" (hts _ (sR_in _ (List.mem_of_getElem? (i := 5) rfl))) (hs _ (by decide +kernel)), List.forall_mem_cons.mpr ⟨mk 70 "a comma is there" (hts _ (sR_in _ (List.mem_of_getElem? (i := 6) rfl))) (hs _ (by decide +kernel)), List.forall_mem_cons.mpr ⟨mk 76 "the sign is blurred" (hts _ (sR_in _ (List.mem_of_getElem? (i := 7) rfl))) (hs _ (by decide +kernel)), List.forall_mem_cons.mpr ⟨mk 78 "the sign is not blurred" (hts _ (sR_in _ (List.mem_of_getElem? (i := 8) rfl))) (hs _ (by decide +kernel)), List.forall_mem_cons.mpr ⟨mk 87 "there are 24 envelopes" (hts _ (sR_in _ (List.mem_of_getElem? (i := 9) rfl))) (hs _ (by decide +kernel)), List.forall_mem_cons.mpr ⟨mk 96 "there is no envelope" (hts _ (sR_in _ (List.mem_of_getElem? (i := 10) rfl))) (hs _ (by decide +kernel)), List.forall_mem_cons.mpr ⟨mk 106 "the letter has no such window" (hts _ (sR_in _ (List.mem_of_getElem? (i := 11) rfl))) (hs _ (by decide +kernel)), List.forall_mem_cons.mpr ⟨mk 197 "a length is 1 to 40" (hts _ (sR_in _ (List.mem_of_getElem? (i := 12) rfl))) (hs _ (by decide +kernel)), List.forall_mem_cons.mpr ⟨mk 191 "there is no such envelope" (hts _ (sR_in _ (List.mem_of_getElem? (i := 13) rfl))) (hs _ (by decide +kernel)), List.forall_mem_cons.mpr ⟨mk 151 "no one sign was changed" (hts _ (sR_in _ (List.mem_of_getElem? (i := 14) rfl))) (hs _ (by decide +kernel)), fun _ h => absurd h List.not_mem_nil⟩⟩⟩⟩⟩⟩⟩⟩⟩⟩⟩⟩⟩⟩⟩
theorem KK_entry {s : State} {args : Array Value} (hts : ∀ w ∈ lw_tbl, w.before args s = true) (hgv : (Jvm.Cond.and given_1 narrow_1).before args s = true) : ∃ g : gT, KK g s := by
  obtain ⟨g, hg⟩ := K_entry hts
  obtain ⟨-, -, o3, o4⟩ := AO_a hts
  exact ⟨g, hg, fun q hq => va_Nw.of rfl (hts _ (nF_in q hq)), fun q hq => va_Nw.of rfl (hts _ (nM_in q hq)), str_a hts hgv, fun x hx => va_Nw.of rfl (hts _ (dL_in x hx)), fun q hq => va_Nw.of rfl (hts _ (cL_in q hq)), fun q hq => va_Nw.of rfl (hts _ (nL_in q hq)), o3, o4⟩
